/-! ===== whether a corridor is well, and which numbers can stand: class and model ===== -/
def wsp (f u : RowI) (d : Bool) (W H k : Nat) : Bool := wl (dg (ln f d W H (bg f d W k))) (u (bg f d W k)).toNatClampNeg
def UR (u : RowI) : Prop := ∀ k, k < 36 → ∃ v, v ≤ 45 ∧ u k = nI v
/-- the class's floor -/
def ST (W H : Nat) (f : RowI) (cA cD : CS) (su : RowJ) : Prop := Dim W H ∧ SR f ∧ JI false W H f (W * H) cA ∧ JI true W H f (W * H) cD ∧ UR cA.1 ∧ UR cD.1 ∧ TBto 512 su
/-- the model's floor beside it -/
def MS (W H : Nat) (f uA uD : RowI) (mu mb me mf : RowI) : Prop := LI false W f (W * H) mb ∧ LI true W f (W * H) mb ∧ (∀ k, k < 36 → mu k = uA k ∧ mu (36 + k) = uD k) ∧ MTB me mf
theorem lcn_cong {f g : RowI} (h : ∀ j, f j = -1 ↔ g j = -1) (s K : Nat) : ∀ n k, lcn f s K n k = lcn g s K n k
  | 0, _ => rfl
  | n + 1, k => by
    rw [lcn_succ, lcn_succ, lcn_cong h s K n]
    by_cases c : f k = -1
    · rw [if_pos c, if_pos ((h _).mp c)]
    · rw [if_neg c, if_neg (fun q => c ((h _).mpr q))]
theorem JI.cong {W H K : Nat} {d : Bool} {f g : RowI} {cs : CS} (h : ∀ j, f j = -1 ↔ g j = -1) (hJ : JI d W H f K cs) : JI d W H g K cs := by
  obtain ⟨h1, h2, h3⟩ := hJ
  refine ⟨h1, fun k hk => ?_, fun b hb ho hbb => ?_⟩
  · rw [h2 k hk, bg_cong h]
    by_cases c : f k = -1
    · rw [if_pos c, if_pos ((h _).mp c)]
    · rw [if_neg c, if_neg (fun q => c ((h _).mpr q))]
  · rw [h3 b hb (fun q => ho ((h _).mp q)) (by rw [bg_cong h]; exact hbb), lcn_cong h]
theorem LI.cong {W K : Nat} {d : Bool} {f g : RowI} {mb : RowI} (h : ∀ j, f j = -1 ↔ g j = -1) (hL : LI d W f K mb) : LI d W g K mb := fun k hk => by rw [hL k hk, bg_cong h]
theorem SR.upd {f : RowI} (h : SR f) (k : Nat) {v : Nat} (hv : v ≤ 9) : SR (upd f k (nI v)) := by
  intro j hj
  by_cases e : j = k
  · subst e; rw [upd_s]; exact Or.inr ⟨v, hv, rfl⟩
  · rw [upd_n e]; exact h j hj
theorem nI_m1 : ∀ v, v < 64 → nI v ≠ (-1 : Int32) := by decide +kernel
theorem ST.upd {W H : Nat} {f : RowI} {cA cD : CS} {su : RowJ} (h : ST W H f cA cD su) {k v : Nat} (hk : f k ≠ -1) (hv : v ≤ 9) : ST W H (upd f k (nI v)) cA cD su := by
  obtain ⟨h1, h2, h3, h4, h5⟩ := h
  exact ⟨h1, h2.upd k hv, h3.cong (open_upd hk (nI_m1 v (by omega))), h4.cong (open_upd hk (nI_m1 v (by omega))), h5⟩
theorem MS.upd {W H : Nat} {f uA uD mu mb me mf : RowI} (h : MS W H f uA uD mu mb me mf) {k v : Nat} (hk : f k ≠ -1) (hv : v ≤ 9) : MS W H (upd f k (nI v)) uA uD mu mb me mf := by
  obtain ⟨h1, h2, h3⟩ := h
  exact ⟨h1.cong (open_upd hk (nI_m1 v (by omega))), h2.cong (open_upd hk (nI_m1 v (by omega))), h3⟩
theorem ln_dig {W H : Nat} {f : RowI} {d : Bool} (hD : Dim W H) (hR : SR f) {b : Nat} (hb : b < W * H) : (∀ v ∈ dg (ln f d W H b), v ≤ 9) ∧ ln f d W H b = (dg (ln f d W H b)).map nI := line_dig hD hR _ _ (Or.inr ⟨hb, rfl⟩)
section CW
variable {W H : Nat} {f : RowI} {d : Bool} {cs : CS} {su : RowJ} {N : Nat}
theorem saw_n {x c : Nat} (hx : x < 512) (hc : c ≤ 9) (t : Int32) : mX0_sawAlike N (nI (2 * x), nI c, t) = some (if bcN 9 (2 * x) = c then 0 else 1) := by
  have := bc_le x hx
  rw [mX0_sawAlike]
  show (if bc (nI (2 * x)) = nI c then _ else _) = _
  rw [bc_x x hx]
  by_cases h : bcN 9 (2 * x) = c
  · rw [if_pos (by rw [h]), if_pos h]
  · rw [if_neg (fun e => h ((nI_eq (by omega) (by omega)).mp e)), if_neg h]
theorem look_at (hD : Dim W H) (hN : 600 ≤ N) (hR : SR f) (hJ : JI d W H f (W * H) cs) {b : Nat} (hb : b < W * H) (ho : f b ≠ -1) (hbb : bg f d W b = b) :
    mX0_look N f cs (nI b) = some (nI (2 * gX (dg (ln f d W H b))), nI (nzc (dg (ln f d W H b))), nI (smD (dg (ln f d W H b)))) ∧ (dg (ln f d W H b)).length ≤ 6 ∧ cs.2.2.1 b = nI (dg (ln f d W H b)).length := by
  obtain ⟨h9, he⟩ := ln_dig (d := d) hD hR hb
  have hz : cs.2.2.1 b = nI (dg (ln f d W H b)).length := by
    rw [hJ.2.2 b hb ho hbb, lcn_len hD _ _ (Or.inr ⟨hb, rfl⟩)]
    unfold dg
    rw [List.length_map]
    rfl
  obtain ⟨h1, h2⟩ := look_n hD hN hb he h9 hJ.1 hz
  exact ⟨h1, h2, hz⟩
theorem isWellFrom_n (hD : Dim W H) (hN : 600 ≤ N) (hR : SR f) (hJ : JI d W H f (W * H) cs) (hU : UR cs.1) (hT : TBto 512 su) {b : Nat} (hb : b < W * H) (ho : f b ≠ -1) (hbb : bg f d W b = b) : mX0_isWellFrom N f cs su (nI b) = some (if wsp f cs.1 d W H b = true then 1 else 0) := by
  have g36 := dim36 hD
  obtain ⟨h9, he⟩ := ln_dig (d := d) hD hR hb
  obtain ⟨h1, h6, hz⟩ := look_at hD hN hR hJ hb ho hbb
  obtain ⟨s, hs, hu⟩ := hU b (by omega)
  have hx := gX_lt _ h9
  have hlz := len_zc (dg (ln f d W H b))
  have hsm := smD_le _ h9
  unfold wsp
  rw [hbb, hu, nI_clamp (by omega)]
  generalize dg (ln f d W H b) = D at *
  rw [mX0_isWellFrom, h1, Option.bind_some, saw_n hx (by omega), Option.bind_some]
  show (if (if bcN 9 (2 * gX D) = nzc D then (0 : Int32) else 1) = 0 then (if rd cs.1 (nI b) = 0 then some 1 else ((mX2_make N su ((1022 : Int32) &&& (nI (2 * gX D) ^^^ (-1))) (rd cs.2.2.1 (nI b) - nI (nzc D)) (rd cs.1 (nI b) - nI (smD D))).bind fun x62 => if x62 = 0 then some 0 else some 1)) else some 0) = _
  rw [rd_n (by omega), rd_n (by omega), hu, hz, not_x _ hx, pk_sub (by omega), show D.length - nzc D = zc D by omega]
  unfold wl
  by_cases c1 : bcN 9 (2 * gX D) = nzc D
  · rw [if_pos c1, if_pos rfl, decide_eq_true c1, Bool.true_and]
    by_cases c2 : s = 0
    · rw [if_pos (by rw [c2]; exact nI_0), decide_eq_true c2, Bool.true_or, if_pos rfl]
    · rw [if_neg (nI_ne0 (by omega) (by omega)), decide_eq_false c2, Bool.false_or]
      by_cases c3 : smD D ≤ s
      · rw [decide_eq_true c3, Bool.true_and, pk_sub c3, make_n (show 511 - gX D < 512 by omega) (by omega) (by omega) (hT _ (by omega) _ (by omega)), Option.bind_some]
        unfold tb
        cases (SS 9 (2 * (511 - gX D)) (zc D)).testBit (s - smD D) <;> rfl
      · rw [decide_eq_false c3, Bool.false_and, make_neg (pk_sneg (by omega) (by omega)), Option.bind_some]
        rfl
  · rw [if_neg c1, if_neg (by decide), decide_eq_false c1, Bool.false_and]
    rfl
theorem nf_90 (hN : 600 ≤ N) (hT : TBto 512 su) {X z s T : Nat} (hX : X < 512) (hz : z ≤ 5) (hs : s ≤ 45) (hTs : T ≤ 100) (P : Nat → Bool) (hP : ∀ v, 1 ≤ v → v ≤ 9 → P v = (!(2 * X).testBit v && (decide (T + v ≤ s) && tb (X ||| bv v) z (s - (T + v))))) :
    ∀ m n j, m < n → j + m = 9 → mX0_numbersFor_90 N su n (nI (2 * (511 - X))) (nI z) (nI s - nI T) (nI (2 * stf P j)) (nI (j + 1)) = some (nI (2 * stf P 9)) := by
  intro m
  induction m with
  | zero =>
    intro n j hn hj
    obtain ⟨n, rfl⟩ : ∃ j, n = j + 1 := ⟨n - 1, by omega⟩
    obtain rfl : j = 9 := by omega
    rw [s_mX0_numbersFor_90, if_pos (by decide)]
  | succ m ih =>
    intro n j hn hj
    obtain ⟨n, rfl⟩ : ∃ j, n = j + 1 := ⟨n - 1, by omega⟩
    have hv := hP (j + 1) (by omega) (by omega)
    have go : ∀ F, F = nI (2 * stf P (j + 1)) → mX0_numbersFor_90 N su n (nI (2 * (511 - X))) (nI z) (nI s - nI T) F (nI (j + 1) + 1) = some (nI (2 * stf P 9)) := by
      intro F hF
      rw [hF, nI_1]
      exact ih n (j + 1) (by omega) (by omega)
    have no : P (j + 1) = false → nI (2 * stf P j) = nI (2 * stf P (j + 1)) := by
      intro q
      rw [stf, if_neg (by rw [q]; decide)]
    have hb : (nI (2 * (511 - X)) &&& ((1 : Int32) <<< (nI (j + 1) &&& 31)) = 0) ↔ (2 * X).testBit (j + 1) = true := by
      rw [one_shl _ (by omega), fa_bit (by omega), not_tb X hX (j + 1) (by omega) (by omega)]
      cases (2 * X).testBit (j + 1) <;> simp
    rw [s_mX0_numbersFor_90, if_neg (show ¬ (9 : Int32) < nI (j + 1) from nI_nlt (a := 9) (by omega) (by omega))]
    by_cases c1 : (2 * X).testBit (j + 1) = true
    · rw [if_pos (hb.mpr c1)]
      rw [c1] at hv
      exact go _ (no hv)
    · rw [if_neg (fun q => c1 (hb.mp q))]
      simp at c1
      rw [c1, Bool.not_false, Bool.true_and] at hv
      have hx2 := obv (x := X) (v := j + 1) hX (by omega)
      have e1 : nI (2 * (511 - X)) &&& (((1 : Int32) <<< (nI (j + 1) &&& 31)) ^^^ (-1)) = nI (2 * (511 - (X ||| bv (j + 1)))) := by
        rw [one_shl _ (by omega), not_bit X hX (j + 1) (by omega) (by omega)]
        rfl
      have e2 : nI s - nI T - nI (j + 1) = nI s - nI (T + (j + 1)) := by rw [Int32.sub_sub, nI_add]
      rw [e1, e2]
      by_cases c2 : T + (j + 1) ≤ s
      · rw [decide_eq_true c2, Bool.true_and] at hv
        rw [pk_sub c2, make_n (show 511 - (X ||| bv (j + 1)) < 512 by omega) (by omega) (by omega) (hT _ (by omega) _ (by omega)), Option.bind_some]
        unfold tb at hv
        by_cases c3 : (SS 9 (2 * (511 - (X ||| bv (j + 1)))) z).testBit (s - (T + (j + 1))) = true
        · rw [c3] at hv ⊢
          rw [if_pos rfl, if_neg (by decide)]
          exact go _ (stf_or (by omega) hv)
        · rw [if_neg c3, if_pos rfl]
          simp at c3
          rw [c3] at hv
          exact go _ (no hv)
      · rw [decide_eq_false c2, Bool.false_and] at hv
        rw [make_neg (pk_sneg (by omega) (by omega)), Option.bind_some, if_pos rfl]
        exact go _ (no hv)
/-- what a line is with another number in one of its cells -/
theorem ln_mid (hD : Dim W H) {k : Nat} (hk : k < W * H) (h0 : f k = 0) : ∃ A B : List Nat, dg (ln f d W H (bg f d W k)) = A ++ 0 :: B ∧ ∀ v, v ≤ 9 → dg (ln (upd f k (nI v)) d W H (bg (upd f k (nI v)) d W k)) = A ++ v :: B := by
  have ho : f k ≠ -1 := by rw [h0]; decide
  obtain ⟨A, B, hAB⟩ := ln_at (d := d) hD hk ho
  have hv : ∀ v, v ≤ 9 → dg (ln (upd f k (nI v)) d W H (bg (upd f k (nI v)) d W k)) = dg A ++ v :: dg B := by
    intro v hv
    rw [bg_upd ho (nI_m1 v (by omega)), hAB _ (nI_m1 v (by omega))]
    unfold dg
    rw [List.map_append, List.map_cons, nI_clamp (by omega)]
  refine ⟨dg A, dg B, ?_, hv⟩
  have h := hv 0 (by omega)
  rw [upd_id (show f k = nI 0 from h0)] at h
  exact h
theorem wsp_mid (hD : Dim W H) (hR : SR f) {k : Nat} (hk : k < W * H) (h0 : f k = 0) (u : RowI) {n : Nat} (h1 : 1 ≤ n) (hn : n ≤ 9) : wsp (upd f k (nI n)) u d W H k = (decide (bcN 9 (2 * gX (dg (ln f d W H (bg f d W k)))) = nzc (dg (ln f d W H (bg f d W k)))) && !(2 * gX (dg (ln f d W H (bg f d W k)))).testBit n && (decide ((u (bg f d W k)).toNatClampNeg = 0) || (decide (smD (dg (ln f d W H (bg f d W k))) + n ≤ (u (bg f d W k)).toNatClampNeg) && tb (gX (dg (ln f d W H (bg f d W k))) ||| bv n) (zc (dg (ln f d W H (bg f d W k))) - 1) ((u (bg f d W k)).toNatClampNeg - (smD (dg (ln f d W H (bg f d W k))) + n))))) := by
  have ho : f k ≠ -1 := by rw [h0]; decide
  obtain ⟨A, B, e1, e2⟩ := ln_mid (d := d) hD hk h0
  have h9 := (ln_dig (d := d) hD hR (bg_lt (f := f) (d := d) hk)).1
  unfold wsp
  rw [e2 n hn, bg_upd ho (nI_m1 n (by omega)), e1]
  rw [e1] at h9
  exact wl_mid h9 h1 hn _
theorem numbersFor_n (hD : Dim W H) (hN : 600 ≤ N) (hR : SR f) (hJ : JI d W H f (W * H) cs) (hU : UR cs.1) (hT : TBto 512 su) {k : Nat} (hk : k < W * H) (h0 : f k = 0) : mX0_numbersFor N f cs su (nI k) = some (nI (2 * stf (fun n => wsp (upd f k (nI n)) cs.1 d W H k) 9)) := by
  have g36 := dim36 hD
  have ho : f k ≠ -1 := by rw [h0]; decide
  have hb : bg f d W k < W * H := bg_lt hk
  have hbo := bg_open (d := d) hD k hk ho
  have hbb := bg_bg (f := f) (d := d) hD k hk
  obtain ⟨h9, he⟩ := ln_dig (d := d) hD hR hb
  obtain ⟨h1, h6, hz⟩ := look_at hD hN hR hJ hb hbo hbb
  obtain ⟨s, hs, hu⟩ := hU _ (show bg f d W k < 36 by omega)
  have hmid := fun n h1 hn => wsp_mid (d := d) hD hR hk h0 cs.1 (n := n) h1 hn
  obtain ⟨A, B, e1, _⟩ := ln_mid (d := d) hD hk h0
  have hz1 : 1 ≤ zc (dg (ln f d W H (bg f d W k))) := by
    rw [e1]
    have := zc_mid (n := 1) (by omega) B A
    omega
  have hx := gX_lt _ h9
  have hlz := len_zc (dg (ln f d W H (bg f d W k)))
  have hsm := smD_le _ h9
  rw [hu, nI_clamp (by omega)] at hmid
  have hfi : cs.2.1 k = nI (bg f d W k) := by rw [hJ.2.1 k hk, if_neg ho]
  generalize bg f d W k = b at *
  generalize dg (ln f d W H b) = D at *
  rw [mX0_numbersFor, rd_n (by omega), hfi, if_neg (nI_m1 b (by omega)), h1, Option.bind_some, saw_n hx (by omega), Option.bind_some]
  show (if (if bcN 9 (2 * gX D) = nzc D then (0 : Int32) else 1) = 0 then (if rd cs.1 (nI b) = 0 then some ((1022 : Int32) &&& (nI (2 * gX D) ^^^ (-1))) else mX0_numbersFor_90 N su N ((1022 : Int32) &&& (nI (2 * gX D) ^^^ (-1))) (rd cs.2.2.1 (nI b) - nI (nzc D) - (1 : Int32)) (rd cs.1 (nI b) - nI (smD D)) (0 : Int32) (1 : Int32)) else some 0) = _
  rw [rd_n (by omega), rd_n (by omega), hu, hz, not_x _ hx, pk_sub (by omega), show D.length - nzc D = zc D by omega, show (1 : Int32) = nI 1 from rfl, pk_sub (by omega)]
  by_cases c1 : bcN 9 (2 * gX D) = nzc D
  · rw [if_pos c1, if_pos rfl]
    rw [decide_eq_true c1] at hmid
    by_cases c2 : s = 0
    · rw [if_pos (by rw [c2]; exact nI_0)]
      rw [decide_eq_true c2] at hmid
      rw [stf_cong (Q := fun n => !(2 * gX D).testBit n) 9 (fun i h1 h2 => by
        show wsp (upd f k (nI i)) cs.1 d W H k = _
        rw [hmid i h1 h2]
        simp), stf_not hx]
    · rw [if_neg (nI_ne0 (by omega) (by omega))]
      rw [decide_eq_false c2] at hmid
      exact nf_90 hN hT hx (by omega) hs (by omega) (fun n => wsp (upd f k (nI n)) cs.1 d W H k) (fun v h1 h2 => by
        show wsp (upd f k (nI v)) cs.1 d W H k = _
        rw [hmid v h1 h2]
        simp) 9 N 0 (by omega) (by omega)
  · rw [if_neg c1, if_neg (by decide)]
    rw [stf_no (fun i h1 h2 => by
      show wsp (upd f k (nI i)) cs.1 d W H k = _
      rw [hmid i h1 h2, decide_eq_false c1]
      simp)]
    rfl
end CW
section MW
variable {W H : Nat} {f : RowI} {d : Bool} {N : Nat}
theorem bq {α : Type} (q : Bool) (a b : α) : (if (if q = true then (1 : Int32) else 0) = 0 then a else b) = if q = true then b else a := by cases q <;> rfl
theorem behind_n (hD : Dim W H) {k : Nat} (hk : k < W * H) : mX5_behind N (nI W) (nI H) (nI k) (nI (dn d)) = some (if fwd d W H k = 1 then -1 else nI (k + stp d W)) := by
  obtain ⟨g36, _, _, _, _, _, _, _, gt, gf⟩ := geo hD d hk
  have w6 := hD.2.1
  have w2 := hD.1
  rw [mX5_behind]
  cases d with
  | true =>
    obtain ⟨g5, _⟩ := gt rfl
    rw [if_pos (show nI (dn true) = (1 : Int32) from rfl), pk_mul, nI_add]
    by_cases c : fwd true W H k = 1
    · rw [if_pos (nI_le (g5.mpr c) (by omega)), if_pos c]
    · rw [if_neg (fun q => c (g5.mp ((nI_leI (by omega) (by omega)).mp q))), if_neg c]
      rfl
  | false =>
    obtain ⟨g5, _⟩ := gf rfl
    have hm := Nat.mod_lt k (show 0 < W by omega)
    rw [if_neg (show ¬ nI (dn false) = (1 : Int32) by decide), if_neg (nI_ne0 (by omega) (by omega)), pk_rem (by omega) (by omega) (by omega), show (1 : Int32) = nI 1 from rfl, nI_add, nI_add]
    by_cases c : fwd false W H k = 1
    · rw [if_pos (nI_le (g5.mpr c) (by omega)), if_pos c]
    · rw [if_neg (fun q => c (g5.mp ((nI_leI (by omega) (by omega)).mp q))), if_neg c]
      rfl
theorem isOpen_m1 : mX5_isOpen N f (-1) = some 0 := by rw [mX5_isOpen, if_pos rfl]
theorem isOpen_n {k : Nat} (hk : k < 36) : mX5_isOpen N f (nI k) = some (if f k = -1 then 0 else 1) := by
  rw [mX5_isOpen, if_neg (nI_m1 k (by omega)), if_neg (bad_n (by omega) (by omega)), nI_clamp (by omega)]
  split <;> rfl
/-- what the model's loop over a corridor answers -/
def wR (x c : Nat) (D : List Nat) (s : Nat) : Bool := !dup x D && (decide (s = 0) || (decide (smN 9 (2 * (x ||| gX D)) ≤ s) && tb (x ||| gX D) (c + zc D) (s - smN 9 (2 * (x ||| gX D)))))
theorem well_16 (hD : Dim W H) (hN : 600 ≤ N) {mu me mf : RowI} (hM : MTB me mf) {b s : Nat} (hb : b < W * H) (hs : s ≤ 45) (hmu : mu (36 * dn d + b) = nI s) : ∀ (D : List Nat) m n k x c, D.length < n → line f (stp d W) m k = D.map nI → (m = 0 ∨ (k < W * H ∧ fwd d W H k = m)) → x < 512 → (∀ v ∈ D, v ≤ 9) → c + D.length ≤ 6 →
    mX5_isWell_16 N (nI W) (nI H) f mu me mf (nI (dn d)) n (nI b) (nI (2 * x)) (nI c) (if m = 0 then -1 else nI k) = some (if wR x c D s = true then 1 else 0) := by
  have g36 := dim36 hD
  have hd := dn_le d
  intro D
  induction D with
  | nil =>
    intro m n k x c hn hl hc hx h9 hL
    obtain ⟨n, rfl⟩ : ∃ j, n = j + 1 := ⟨n - 1, by simp at hn; omega⟩
    have ho : mX5_isOpen N f (if m = 0 then -1 else nI k) = some 0 := by
      rcases hc with hc | ⟨hk, hf⟩
      · rw [if_pos hc]; exact isOpen_m1
      · obtain ⟨_, g1, _⟩ := geo hD d hk
        obtain ⟨m, rfl⟩ : ∃ j, m = j + 1 := ⟨m - 1, by omega⟩
        rw [if_neg (by omega), isOpen_n (by omega)]
        rw [line_succ] at hl
        by_cases q : f k = -1
        · rw [if_pos q]
        · rw [if_neg q] at hl; simp at hl
    have e0 : x ||| gX [] = x := by simp [gX]
    have z0 : c + zc [] = c := rfl
    have hsm := sm_le x hx
    rw [s_mX5_isWell_16, ho, Option.bind_some, if_pos rfl, at_n, if_neg (bad_n (by omega) (by omega)), sum_x (by omega) x hx, Option.bind_some, if_neg (bad_n (by omega) (by omega)), nI_clamp (by omega), hmu]
    unfold wR
    rw [e0, z0, dup, Bool.not_false, Bool.true_and]
    by_cases c2 : s = 0
    · rw [if_pos (by rw [c2]; exact nI_0), decide_eq_true c2, Bool.true_or, if_pos rfl]
    · rw [if_neg (nI_ne0 (by omega) (by omega)), decide_eq_false c2, Bool.false_or]
      by_cases c3 : smN 9 (2 * x) ≤ s
      · simp only [List.length_nil] at hL
        rw [decide_eq_true c3, Bool.true_and, pk_sub c3, if_neg (nI_pos (by omega)), made_n hN hM hx (by omega) (by omega), Option.bind_some]
        cases tb x c (s - smN 9 (2 * x)) <;> rfl
      · rw [decide_eq_false c3, Bool.false_and, if_pos (pk_sneg (by omega) (by omega))]
        rfl
  | cons v D ih =>
    intro m n k x c hn hl hc hx h9 hL
    obtain ⟨n, rfl⟩ : ∃ j, n = j + 1 := ⟨n - 1, by simp at hn; omega⟩
    have h1 := h9 v List.mem_cons_self
    have hD9 := fun u hu => h9 u (List.mem_cons_of_mem v hu)
    rcases hc with hc | ⟨hk, hf⟩
    · subst hc
      simp [line] at hl
    · obtain ⟨_, g1, _, _, gs, _, _, g2, _⟩ := geo hD d hk
      obtain ⟨m, rfl⟩ : ∃ j, m = j + 1 := ⟨m - 1, by omega⟩
      rw [line_succ] at hl
      by_cases c1 : f k = -1
      · rw [if_pos c1] at hl; simp at hl
      · rw [if_neg c1] at hl
        simp only [List.map_cons, List.cons.injEq] at hl
        obtain ⟨e1, e2⟩ := hl
        simp only [List.length_cons] at hn hL
        have hm : m = 0 ∨ (k + stp d W < W * H ∧ fwd d W H (k + stp d W) = m) := by
          rcases g2 with g2 | ⟨g2, g3, _⟩
          · exact Or.inl (by omega)
          · exact Or.inr ⟨g2, by omega⟩
        have hbeh : mX5_behind N (nI W) (nI H) (nI k) (nI (dn d)) = some (if m = 0 then -1 else nI (k + stp d W)) := by
          rw [behind_n hD hk, hf]
          by_cases m0 : m = 0
          · rw [if_pos (by omega), if_pos m0]
          · rw [if_neg (by omega), if_neg m0]
        rw [if_neg (by omega), s_mX5_isWell_16, isOpen_n (by omega), if_neg c1, Option.bind_some, if_neg (by decide), if_neg (bad_n (by omega) (by omega)), show f (nI k).toNatClampNeg = nI v by rw [nI_clamp (by omega), e1]]
        by_cases v0 : v = 0
        · subst v0
          have ee : wR x c (0 :: D) s = wR x (c + 1) D s := by
            unfold wR
            rw [dup, if_pos rfl, gX, show bv 0 = 0 from rfl, Nat.zero_or, zc, if_pos rfl, show c + (1 + zc D) = c + 1 + zc D by omega]
          rw [if_pos nI_0, mX5_isWell_48, if_pos (by simp), if_pos rfl, mX5_isWell_79, hbeh, Option.bind_some, ee, show nI c + (1 : Int32) = nI (c + 1) from nI_1 c, show nI (2 * x) ||| (0 : Int32) = nI (2 * x) by simp]
          exact ih m n (k + stp d W) x (c + 1) (by omega) e2 hm hx hD9 (by omega)
        · rw [if_neg (nI_ne0 (by omega) (by omega)), if_neg (bad_n (by omega) (by omega)), mX5_isWell_48, one_shl v (by omega)]
          have ee : wR x c (v :: D) s = (!(2 * x).testBit v && wR (x ||| bv v) c D s) := by
            unfold wR
            rw [dup, if_neg v0, gX, ← Nat.or_assoc, zc, if_neg v0, Nat.zero_add]
            cases (2 * x).testBit v <;> simp
          rw [ee]
          by_cases c4 : (2 * x).testBit v = false
          · rw [if_pos ((fa_bit (by omega)).mpr c4), if_neg (nI_ne0 (Nat.two_pow_pos v) (Nat.pow_lt_pow_right (by decide) (by omega))), mX5_isWell_79, hbeh, Option.bind_some, c4, Bool.not_false, Bool.true_and, show nI c + (0 : Int32) = nI c from nI_add c 0, fa_or, ← two_ob x (by omega)]
            exact ih m n (k + stp d W) (x ||| bv v) c (by omega) e2 hm (obv hx h1) hD9 (by omega)
          · rw [if_neg (fun q => c4 ((fa_bit (by omega)).mp q))]
            simp at c4
            rw [c4]
            rfl
theorem wR_wl {D : List Nat} (h9 : ∀ v ∈ D, v ≤ 9) (s : Nat) : wR 0 0 D s = wl D s := by
  obtain ⟨h1, h2⟩ := dup_iff D 0 (by decide) h9
  have e0 : bcN 9 (2 * 0) = 0 := by decide
  have e1 : smN 9 (2 * 0) = 0 := by decide
  rw [Nat.zero_or, e0, Nat.zero_add] at h1
  rw [Nat.zero_or, e1, Nat.zero_add] at h2
  unfold wR wl
  rw [Nat.zero_or, Nat.zero_add]
  cases q : dup 0 D
  · rw [decide_eq_true (h1.mp q), h2 q]
    rfl
  · rw [decide_eq_false (show ¬ bcN 9 (2 * gX D) = nzc D from fun r => by rw [h1.mpr r] at q; cases q)]
    rfl
theorem beginOf_n {mb : RowI} {k : Nat} (hk : k < 36) : mX5_beginOf N mb (nI k) (nI (dn d)) = some (mb (36 * dn d + k)) := by
  have hd := dn_le d
  rw [mX5_beginOf, at_n, if_neg (bad_n (by omega) (by omega)), nI_clamp (by omega)]
/-- CryptSumsModel.isWell -/
theorem isWell_n (hD : Dim W H) (hN : 600 ≤ N) (hR : SR f) {mu mb me mf u : RowI} (hM : MTB me mf) (hL : LI d W f (W * H) mb) (hu : ∀ k, k < 36 → mu (36 * dn d + k) = u k) (hU : UR u) {k : Nat} (hk : k < W * H) : mX5_isWell N (nI W) (nI H) f mu mb me mf (nI k) (nI (dn d)) = some (if wsp f u d W H k = true then 1 else 0) := by
  have g36 := dim36 hD
  have hb : bg f d W k < W * H := bg_lt hk
  obtain ⟨h9, he⟩ := ln_dig (d := d) hD hR hb
  obtain ⟨s, hs, hus⟩ := hU _ (show bg f d W k < 36 by omega)
  obtain ⟨_, g1, g6, _⟩ := geo hD d hb
  have hlen : (dg (ln f d W H (bg f d W k))).length ≤ 6 := by
    have h1 := line_len (f := f) (stp d W) (fwd d W H (bg f d W k)) (bg f d W k)
    unfold dg
    rw [List.length_map]
    unfold ln
    omega
  have h := well_16 (f := f) (d := d) (mu := mu) hD hN hM hb hs (by rw [hu _ (by omega)]; exact hus) (dg (ln f d W H (bg f d W k))) (fwd d W H (bg f d W k)) N (bg f d W k) 0 0 (by omega) he (Or.inr ⟨hb, rfl⟩) (by decide) h9 (by omega)
  rw [if_neg (by omega), wR_wl h9] at h
  rw [mX5_isWell, beginOf_n (by omega), Option.bind_some, hL k hk]
  unfold wsp
  rw [hus, nI_clamp (by omega)]
  exact h
end MW
/-- the numbers that can stand in a cell -/
def cn (f uA uD : RowI) (W H k : Nat) : Nat := if f k = 0 then stf (fun n => wsp (upd f k (nI n)) uA false W H k && wsp (upd f k (nI n)) uD true W H k) 9 else 0
theorem cn_lt (f uA uD : RowI) (W H k : Nat) : cn f uA uD W H k < 512 := by
  unfold cn
  split
  · exact stf_lt _ 9
  · decide
section CN
variable {W H : Nat} {f : RowI} {cA cD : CS} {su : RowJ} {N : Nat} {mu mb me mf : RowI}
/-- Floor.numbersFor -/
theorem can_c (hN : 600 ≤ N) (hS : ST W H f cA cD su) {k : Nat} (hk : k < W * H) : mX1_numbersFor N f cA cD su (nI k) = some (nI (2 * cn f cA.1 cD.1 W H k)) := by
  obtain ⟨hD, hR, hA, hB, uA, uD, hT⟩ := hS
  have g36 := dim36 hD
  rw [mX1_numbersFor, mX1_isHole, rd_n (by omega)]
  unfold cn
  by_cases c : f k = 0
  · rw [if_pos c, if_pos c, Option.bind_some, if_neg (by decide), numbersFor_n hD hN hR hA uA hT hk c, Option.bind_some, numbersFor_n hD hN hR hB uD hT hk c, Option.bind_some, fa_and, ← two_and, stf_and]
  · rw [if_neg c, if_neg c, Option.bind_some, if_pos rfl]
    rfl
theorem stands_n (hN : 600 ≤ N) (hD : Dim W H) (hR : SR f) {uA uD : RowI} (hM : MS W H f uA uD mu mb me mf) (hA : UR uA) (hB : UR uD) {k n : Nat} (hk : k < W * H) (h0 : f k = 0) (hn : n ≤ 9) :
    mX5_stands N (nI W) (nI H) f mu mb me mf (nI k) (nI n) = some ((if (wsp (upd f k (nI n)) uA false W H k && wsp (upd f k (nI n)) uD true W H k) = true then 1 else 0), f) := by
  have g36 := dim36 hD
  have ho : f k ≠ -1 := by rw [h0]; decide
  obtain ⟨l1, l2, hu, ht⟩ := hM.upd ho hn
  have r1 : upd (upd f k (nI n)) k 0 = f := by rw [upd_upd, upd_id h0]
  have e29 : mX5_stands_29 N (nI k) (upd f k (nI n)) = some (0, f) := by
    rw [mX5_stands_29, if_neg (bad_n (by omega) (by omega)), nI_clamp (by omega), r1]
  have hw1 := isWell_n (d := false) (mu := mu) hD hN (hR.upd k hn) ht l1 (u := uA) (fun j hj => by rw [show 36 * dn false + j = j from Nat.zero_add j]; exact (hu j hj).1) hA hk
  have hw2 := isWell_n (d := true) (mu := mu) hD hN (hR.upd k hn) ht l2 (u := uD) (fun j hj => (hu j hj).2) hB hk
  have hw1 : mX5_isWell N (nI W) (nI H) (upd f k (nI n)) mu mb me mf (nI k) 0 = _ := hw1
  have hw2 : mX5_isWell N (nI W) (nI H) (upd f k (nI n)) mu mb me mf (nI k) 1 = _ := hw2
  rw [mX5_stands, if_neg (bad_n (by omega) (by omega))]
  simp only [nI_clamp (show k < 2 ^ 31 by omega)]
  rw [hw1, hw2, Option.bind_some, Option.bind_some, bq, bq, e29, if_neg (bad_n (by omega) (by omega)), r1]
  cases wsp (upd f k (nI n)) uA false W H k
  · rfl
  · cases wsp (upd f k (nI n)) uD true W H k <;> rfl
theorem canOf_15 (hN : 600 ≤ N) (hD : Dim W H) (hR : SR f) {uA uD : RowI} (hM : MS W H f uA uD mu mb me mf) (hA : UR uA) (hB : UR uD) {k : Nat} (hk : k < W * H) (h0 : f k = 0) (P : Nat → Bool) (hP : P = fun n => wsp (upd f k (nI n)) uA false W H k && wsp (upd f k (nI n)) uD true W H k) :
    ∀ m n j, m < n → j + m = 9 → mX5_canOf_15 N (nI W) (nI H) mu mb me mf (nI k) n (nI (2 * stf P j)) (nI (j + 1)) f = some (nI (2 * stf P 9), f) := by
  intro m
  induction m with
  | zero =>
    intro n j hn hj
    obtain ⟨n, rfl⟩ : ∃ j, n = j + 1 := ⟨n - 1, by omega⟩
    obtain rfl : j = 9 := by omega
    rw [s_mX5_canOf_15, if_pos (by decide)]
  | succ m ih =>
    intro n j hn hj
    obtain ⟨n, rfl⟩ : ∃ j, n = j + 1 := ⟨n - 1, by omega⟩
    have hs := stands_n hN hD hR hM hA hB hk h0 (show j + 1 ≤ 9 by omega)
    rw [show (wsp (upd f k (nI (j + 1))) uA false W H k && wsp (upd f k (nI (j + 1))) uD true W H k) = P (j + 1) by rw [hP]] at hs
    rw [s_mX5_canOf_15, if_neg (show ¬ (9 : Int32) < nI (j + 1) from nI_nlt (a := 9) (by omega) (by omega)), hs, Option.bind_some, nI_1]
    dsimp only
    rw [bq]
    cases hp : P (j + 1)
    · rw [if_neg (by decide)]
      have h := ih n (j + 1) (by omega) (by omega)
      rw [stf, hp, if_neg (by decide)] at h
      exact h
    · rw [if_pos rfl, stf_or (by omega) hp]
      exact ih n (j + 1) (by omega) (by omega)
/-- CryptSumsModel.canOf -/
theorem can_m (hN : 600 ≤ N) (hD : Dim W H) (hR : SR f) {uA uD : RowI} (hM : MS W H f uA uD mu mb me mf) (hA : UR uA) (hB : UR uD) {k : Nat} (hk : k < W * H) : mX5_canOf N (nI W) (nI H) f mu mb me mf (nI k) = some (nI (2 * cn f uA uD W H k), f) := by
  have g36 := dim36 hD
  rw [mX5_canOf, if_neg (bad_n (by omega) (by omega)), nI_clamp (by omega)]
  unfold cn
  by_cases c : f k = 0
  · rw [if_pos c, if_pos c]
    exact canOf_15 hN hD hR hM hA hB hk c _ rfl 9 N 0 (by omega) (by omega)
  · rw [if_neg c, if_neg c]
    rfl
end CN
