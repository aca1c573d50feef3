/-! ===== whether a corridor is well, and which numbers can stand: class and model ===== -/
def wsp (f u : RowI) (d : Bool) (W H k : Nat) : Bool := wl (dg (ln f d W H (bg f d W k))) (u (bg f d W k)).toNatClampNeg
def UR (u : RowI) : Prop := ∀ k, k < 36 → ∃ v, v ≤ 45 ∧ u k = nI v
/-- the class's floor -/
def ST (W H : Nat) (f : RowI) (cA cD : CS) (su : RowJ) : Prop := Dim W H ∧ SR f ∧ JI false W H f (W * H) cA ∧ JI true W H f (W * H) cD ∧ UR cA.1 ∧ UR cD.1 ∧ TBto 512 su
theorem lcn_cong {f g : RowI} (h : ∀ j, f j = -1 ↔ g j = -1) (s K : Nat) : ∀ n k, lcn f s K n k = lcn g s K n k
  | 0, _ => rfl
  | n + 1, k => by
    rw [lcn_succ, lcn_succ, lcn_cong h s K n]
    by_cases c : f k = -1
    · rw [if_pos c, if_pos ((h _).mp c)]
    · rw [if_neg c, if_neg (fun q => c ((h _).mpr q))]
theorem JI.cong {W H K : Nat} {d : Bool} {f g : RowI} {cs : CS} (h : ∀ j, f j = -1 ↔ g j = -1) (hJ : JI d W H f K cs) : JI d W H g K cs := by
  obtain ⟨h1, h2, h3⟩ := hJ
  refine ⟨h1, fun k hk => ?_, fun b hb ho hbb => ?_⟩
  · rw [h2 k hk, bg_cong h]
    by_cases c : f k = -1
    · rw [if_pos c, if_pos ((h _).mp c)]
    · rw [if_neg c, if_neg (fun q => c ((h _).mpr q))]
  · rw [h3 b hb (fun q => ho ((h _).mp q)) (by rw [bg_cong h]; exact hbb), lcn_cong h]
theorem SR.upd {f : RowI} (h : SR f) (k : Nat) {v : Nat} (hv : v ≤ 9) : SR (upd f k (nI v)) := by
  intro j hj
  by_cases e : j = k
  · subst e; rw [upd_s]; exact Or.inr ⟨v, hv, rfl⟩
  · rw [upd_n e]; exact h j hj
theorem nI_m1 : ∀ v, v < 64 → nI v ≠ (-1 : Int32) := by decide +kernel
theorem ST.upd {W H : Nat} {f : RowI} {cA cD : CS} {su : RowJ} (h : ST W H f cA cD su) {k v : Nat} (hk : f k ≠ -1) (hv : v ≤ 9) : ST W H (upd f k (nI v)) cA cD su := by
  obtain ⟨h1, h2, h3, h4, h5⟩ := h
  exact ⟨h1, h2.upd k hv, h3.cong (open_upd hk (nI_m1 v (by omega))), h4.cong (open_upd hk (nI_m1 v (by omega))), h5⟩
theorem ln_dig {W H : Nat} {f : RowI} {d : Bool} (hD : Dim W H) (hR : SR f) {b : Nat} (hb : b < W * H) : (∀ v ∈ dg (ln f d W H b), v ≤ 9) ∧ ln f d W H b = (dg (ln f d W H b)).map nI := line_dig hD hR _ _ (Or.inr ⟨hb, rfl⟩)
section CW
variable {W H : Nat} {f : RowI} {d : Bool} {cs : CS} {su : RowJ} {N : Nat}
theorem saw_n {x c : Nat} (hx : x < 512) (hc : c ≤ 9) (t : Int32) : mX0_sawAlike N (nI (2 * x), nI c, t) = some (if bcN 9 (2 * x) = c then 0 else 1) := by
  have := bc_le x hx
  rw [mX0_sawAlike]
  show (if bc (nI (2 * x)) = nI c then _ else _) = _
  rw [bc_x x hx]
  by_cases h : bcN 9 (2 * x) = c
  · rw [if_pos (by rw [h]), if_pos h]
  · rw [if_neg (fun e => h ((nI_eq (by omega) (by omega)).mp e)), if_neg h]
theorem look_at (hD : Dim W H) (hN : 600 ≤ N) (hR : SR f) (hJ : JI d W H f (W * H) cs) {b : Nat} (hb : b < W * H) (ho : f b ≠ -1) (hbb : bg f d W b = b) :
    mX0_look N f cs (nI b) = some (nI (2 * gX (dg (ln f d W H b))), nI (nzc (dg (ln f d W H b))), nI (smD (dg (ln f d W H b)))) ∧ (dg (ln f d W H b)).length ≤ 6 ∧ cs.2.2.1 b = nI (dg (ln f d W H b)).length := by
  obtain ⟨h9, he⟩ := ln_dig (d := d) hD hR hb
  have hz : cs.2.2.1 b = nI (dg (ln f d W H b)).length := by
    rw [hJ.2.2 b hb ho hbb, lcn_len hD _ _ (Or.inr ⟨hb, rfl⟩)]
    unfold dg
    rw [List.length_map]
    rfl
  obtain ⟨h1, h2⟩ := look_n hD hN hb he h9 hJ.1 hz
  exact ⟨h1, h2, hz⟩
theorem isWellFrom_n (hD : Dim W H) (hN : 600 ≤ N) (hR : SR f) (hJ : JI d W H f (W * H) cs) (hU : UR cs.1) (hT : TBto 512 su) {b : Nat} (hb : b < W * H) (ho : f b ≠ -1) (hbb : bg f d W b = b) : mX0_isWellFrom N f cs su (nI b) = some (if wsp f cs.1 d W H b = true then 1 else 0) := by
  have g36 := dim36 hD
  obtain ⟨h9, he⟩ := ln_dig (d := d) hD hR hb
  obtain ⟨h1, h6, hz⟩ := look_at hD hN hR hJ hb ho hbb
  obtain ⟨s, hs, hu⟩ := hU b (by omega)
  have hx := gX_lt _ h9
  have hlz := len_zc (dg (ln f d W H b))
  have hsm := smD_le _ h9
  unfold wsp
  rw [hbb, hu, nI_clamp (by omega)]
  generalize dg (ln f d W H b) = D at *
  rw [mX0_isWellFrom, h1, Option.bind_some, saw_n hx (by omega), Option.bind_some]
  show (if (if bcN 9 (2 * gX D) = nzc D then (0 : Int32) else 1) = 0 then (if rd cs.1 (nI b) = 0 then some 1 else ((mX2_make N su ((1022 : Int32) &&& (nI (2 * gX D) ^^^ (-1))) (rd cs.2.2.1 (nI b) - nI (nzc D)) (rd cs.1 (nI b) - nI (smD D))).bind fun x62 => if x62 = 0 then some 0 else some 1)) else some 0) = _
  rw [rd_n (by omega), rd_n (by omega), hu, hz, not_x _ hx, pk_sub (by omega), show D.length - nzc D = zc D by omega]
  unfold wl
  by_cases c1 : bcN 9 (2 * gX D) = nzc D
  · rw [if_pos c1, if_pos rfl, decide_eq_true c1, Bool.true_and]
    by_cases c2 : s = 0
    · rw [if_pos (by rw [c2]; exact nI_0), decide_eq_true c2, Bool.true_or, if_pos rfl]
    · rw [if_neg (nI_ne0 (by omega) (by omega)), decide_eq_false c2, Bool.false_or]
      by_cases c3 : smD D ≤ s
      · rw [decide_eq_true c3, Bool.true_and, pk_sub c3, make_n (show 511 - gX D < 512 by omega) (by omega) (by omega) (hT _ (by omega) _ (by omega)), Option.bind_some]
        unfold tb
        cases (SS 9 (2 * (511 - gX D)) (zc D)).testBit (s - smD D) <;> rfl
      · rw [decide_eq_false c3, Bool.false_and, make_neg (pk_sneg (by omega) (by omega)), Option.bind_some]
        rfl
  · rw [if_neg c1, if_neg (by decide), decide_eq_false c1, Bool.false_and]
    rfl
theorem nf_90 (hN : 600 ≤ N) (hT : TBto 512 su) {X z s T : Nat} (hX : X < 512) (hz : z ≤ 5) (hs : s ≤ 45) (hTs : T ≤ 100) (P : Nat → Bool) (hP : ∀ v, 1 ≤ v → v ≤ 9 → P v = (!(2 * X).testBit v && (decide (T + v ≤ s) && tb (X ||| bv v) z (s - (T + v))))) :
    ∀ m n j, m < n → j + m = 9 → mX0_numbersFor_90 N su n (nI (2 * (511 - X))) (nI z) (nI s - nI T) (nI (2 * stf P j)) (nI (j + 1)) = some (nI (2 * stf P 9)) := by
  intro m
  induction m with
  | zero =>
    intro n j hn hj
    obtain ⟨n, rfl⟩ : ∃ j, n = j + 1 := ⟨n - 1, by omega⟩
    obtain rfl : j = 9 := by omega
    rw [s_mX0_numbersFor_90, if_pos (by decide)]
  | succ m ih =>
    intro n j hn hj
    obtain ⟨n, rfl⟩ : ∃ j, n = j + 1 := ⟨n - 1, by omega⟩
    have hv := hP (j + 1) (by omega) (by omega)
    have go : ∀ F, F = nI (2 * stf P (j + 1)) → mX0_numbersFor_90 N su n (nI (2 * (511 - X))) (nI z) (nI s - nI T) F (nI (j + 1) + 1) = some (nI (2 * stf P 9)) := by
      intro F hF
      rw [hF, nI_1]
      exact ih n (j + 1) (by omega) (by omega)
    have no : P (j + 1) = false → nI (2 * stf P j) = nI (2 * stf P (j + 1)) := by
      intro q
      rw [stf, if_neg (by rw [q]; decide)]
    have hb : (nI (2 * (511 - X)) &&& ((1 : Int32) <<< (nI (j + 1) &&& 31)) = 0) ↔ (2 * X).testBit (j + 1) = true := by
      rw [one_shl _ (by omega), fa_bit (by omega), not_tb X hX (j + 1) (by omega) (by omega)]
      cases (2 * X).testBit (j + 1) <;> simp
    rw [s_mX0_numbersFor_90, if_neg (show ¬ (9 : Int32) < nI (j + 1) from nI_nlt (a := 9) (by omega) (by omega))]
    by_cases c1 : (2 * X).testBit (j + 1) = true
    · rw [if_pos (hb.mpr c1)]
      rw [c1] at hv
      exact go _ (no hv)
    · rw [if_neg (fun q => c1 (hb.mp q))]
      simp at c1
      rw [c1, Bool.not_false, Bool.true_and] at hv
      have hx2 := obv (x := X) (v := j + 1) hX (by omega)
      have e1 : nI (2 * (511 - X)) &&& (((1 : Int32) <<< (nI (j + 1) &&& 31)) ^^^ (-1)) = nI (2 * (511 - (X ||| bv (j + 1)))) := by
        rw [one_shl _ (by omega), not_bit X hX (j + 1) (by omega) (by omega)]
        rfl
      have e2 : nI s - nI T - nI (j + 1) = nI s - nI (T + (j + 1)) := by rw [Int32.sub_sub, nI_add]
      rw [e1, e2]
      by_cases c2 : T + (j + 1) ≤ s
      · rw [decide_eq_true c2, Bool.true_and] at hv
        rw [pk_sub c2, make_n (show 511 - (X ||| bv (j + 1)) < 512 by omega) (by omega) (by omega) (hT _ (by omega) _ (by omega)), Option.bind_some]
        unfold tb at hv
        by_cases c3 : (SS 9 (2 * (511 - (X ||| bv (j + 1)))) z).testBit (s - (T + (j + 1))) = true
        · rw [c3] at hv ⊢
          rw [if_pos rfl, if_neg (by decide)]
          exact go _ (stf_or (by omega) hv)
        · rw [if_neg c3, if_pos rfl]
          simp at c3
          rw [c3] at hv
          exact go _ (no hv)
      · rw [decide_eq_false c2, Bool.false_and] at hv
        rw [make_neg (pk_sneg (by omega) (by omega)), Option.bind_some, if_pos rfl]
        exact go _ (no hv)
/-- what a line is with another number in one of its cells -/
theorem ln_mid (hD : Dim W H) {k : Nat} (hk : k < W * H) (h0 : f k = 0) : ∃ A B : List Nat, dg (ln f d W H (bg f d W k)) = A ++ 0 :: B ∧ ∀ v, v ≤ 9 → dg (ln (upd f k (nI v)) d W H (bg (upd f k (nI v)) d W k)) = A ++ v :: B := by
  have ho : f k ≠ -1 := by rw [h0]; decide
  obtain ⟨A, B, hAB⟩ := ln_at (d := d) hD hk ho
  have hv : ∀ v, v ≤ 9 → dg (ln (upd f k (nI v)) d W H (bg (upd f k (nI v)) d W k)) = dg A ++ v :: dg B := by
    intro v hv
    rw [bg_upd ho (nI_m1 v (by omega)), hAB _ (nI_m1 v (by omega))]
    unfold dg
    rw [List.map_append, List.map_cons, nI_clamp (by omega)]
  refine ⟨dg A, dg B, ?_, hv⟩
  have h := hv 0 (by omega)
  rw [upd_id (show f k = nI 0 from h0)] at h
  exact h
theorem wsp_mid (hD : Dim W H) (hR : SR f) {k : Nat} (hk : k < W * H) (h0 : f k = 0) (u : RowI) {n : Nat} (h1 : 1 ≤ n) (hn : n ≤ 9) : wsp (upd f k (nI n)) u d W H k = (decide (bcN 9 (2 * gX (dg (ln f d W H (bg f d W k)))) = nzc (dg (ln f d W H (bg f d W k)))) && !(2 * gX (dg (ln f d W H (bg f d W k)))).testBit n && (decide ((u (bg f d W k)).toNatClampNeg = 0) || (decide (smD (dg (ln f d W H (bg f d W k))) + n ≤ (u (bg f d W k)).toNatClampNeg) && tb (gX (dg (ln f d W H (bg f d W k))) ||| bv n) (zc (dg (ln f d W H (bg f d W k))) - 1) ((u (bg f d W k)).toNatClampNeg - (smD (dg (ln f d W H (bg f d W k))) + n))))) := by
  have ho : f k ≠ -1 := by rw [h0]; decide
  obtain ⟨A, B, e1, e2⟩ := ln_mid (d := d) hD hk h0
  have h9 := (ln_dig (d := d) hD hR (bg_lt (f := f) (d := d) hk)).1
  unfold wsp
  rw [e2 n hn, bg_upd ho (nI_m1 n (by omega)), e1]
  rw [e1] at h9
  exact wl_mid h9 h1 hn _
theorem numbersFor_n (hD : Dim W H) (hN : 600 ≤ N) (hR : SR f) (hJ : JI d W H f (W * H) cs) (hU : UR cs.1) (hT : TBto 512 su) {k : Nat} (hk : k < W * H) (h0 : f k = 0) : mX0_numbersFor N f cs su (nI k) = some (nI (2 * stf (fun n => wsp (upd f k (nI n)) cs.1 d W H k) 9)) := by
  have g36 := dim36 hD
  have ho : f k ≠ -1 := by rw [h0]; decide
  have hb : bg f d W k < W * H := bg_lt hk
  have hbo := bg_open (d := d) hD k hk ho
  have hbb := bg_bg (f := f) (d := d) hD k hk
  obtain ⟨h9, he⟩ := ln_dig (d := d) hD hR hb
  obtain ⟨h1, h6, hz⟩ := look_at hD hN hR hJ hb hbo hbb
  obtain ⟨s, hs, hu⟩ := hU _ (show bg f d W k < 36 by omega)
  have hmid := fun n h1 hn => wsp_mid (d := d) hD hR hk h0 cs.1 (n := n) h1 hn
  obtain ⟨A, B, e1, _⟩ := ln_mid (d := d) hD hk h0
  have hz1 : 1 ≤ zc (dg (ln f d W H (bg f d W k))) := by
    rw [e1]
    have := zc_mid (n := 1) (by omega) B A
    omega
  have hx := gX_lt _ h9
  have hlz := len_zc (dg (ln f d W H (bg f d W k)))
  have hsm := smD_le _ h9
  rw [hu, nI_clamp (by omega)] at hmid
  have hfi : cs.2.1 k = nI (bg f d W k) := by rw [hJ.2.1 k hk, if_neg ho]
  generalize bg f d W k = b at *
  generalize dg (ln f d W H b) = D at *
  rw [mX0_numbersFor, rd_n (by omega), hfi, if_neg (nI_m1 b (by omega)), h1, Option.bind_some, saw_n hx (by omega), Option.bind_some]
  show (if (if bcN 9 (2 * gX D) = nzc D then (0 : Int32) else 1) = 0 then (if rd cs.1 (nI b) = 0 then some ((1022 : Int32) &&& (nI (2 * gX D) ^^^ (-1))) else mX0_numbersFor_90 N su N ((1022 : Int32) &&& (nI (2 * gX D) ^^^ (-1))) (rd cs.2.2.1 (nI b) - nI (nzc D) - (1 : Int32)) (rd cs.1 (nI b) - nI (smD D)) (0 : Int32) (1 : Int32)) else some 0) = _
  rw [rd_n (by omega), rd_n (by omega), hu, hz, not_x _ hx, pk_sub (by omega), show D.length - nzc D = zc D by omega, show (1 : Int32) = nI 1 from rfl, pk_sub (by omega)]
  by_cases c1 : bcN 9 (2 * gX D) = nzc D
  · rw [if_pos c1, if_pos rfl]
    rw [decide_eq_true c1] at hmid
    by_cases c2 : s = 0
    · rw [if_pos (by rw [c2]; exact nI_0)]
      rw [decide_eq_true c2] at hmid
      rw [stf_cong (Q := fun n => !(2 * gX D).testBit n) 9 (fun i h1 h2 => by
        show wsp (upd f k (nI i)) cs.1 d W H k = _
        rw [hmid i h1 h2]
        simp), stf_not hx]
    · rw [if_neg (nI_ne0 (by omega) (by omega))]
      rw [decide_eq_false c2] at hmid
      exact nf_90 hN hT hx (by omega) hs (by omega) (fun n => wsp (upd f k (nI n)) cs.1 d W H k) (fun v h1 h2 => by
        show wsp (upd f k (nI v)) cs.1 d W H k = _
        rw [hmid v h1 h2]
        simp) 9 N 0 (by omega) (by omega)
  · rw [if_neg c1, if_neg (by decide)]
    rw [stf_no (fun i h1 h2 => by
      show wsp (upd f k (nI i)) cs.1 d W H k = _
      rw [hmid i h1 h2, decide_eq_false c1]
      simp)]
    rfl
end CW
section MW
variable {W H : Nat} {f : RowI} {d : Bool} {N : Nat}
theorem bq {α : Type} (q : Bool) (a b : α) : (if (if q = true then (1 : Int32) else 0) = 0 then a else b) = if q = true then b else a := by cases q <;> rfl
/-- what the model's loop over a corridor answers -/
def wR (x c : Nat) (D : List Nat) (s : Nat) : Bool := !dup x D && (decide (s = 0) || (decide (smN 9 (2 * (x ||| gX D)) ≤ s) && tb (x ||| gX D) (c + zc D) (s - smN 9 (2 * (x ||| gX D)))))
theorem wR_wl {D : List Nat} (h9 : ∀ v ∈ D, v ≤ 9) (s : Nat) : wR 0 0 D s = wl D s := by
  obtain ⟨h1, h2⟩ := dup_iff D 0 (by decide) h9
  have e0 : bcN 9 (2 * 0) = 0 := by decide
  have e1 : smN 9 (2 * 0) = 0 := by decide
  rw [Nat.zero_or, e0, Nat.zero_add] at h1
  rw [Nat.zero_or, e1, Nat.zero_add] at h2
  unfold wR wl
  rw [Nat.zero_or, Nat.zero_add]
  cases q : dup 0 D
  · rw [decide_eq_true (h1.mp q), h2 q]
    rfl
  · rw [decide_eq_false (show ¬ bcN 9 (2 * gX D) = nzc D from fun r => by rw [h1.mpr r] at q; cases q)]
    rfl
end MW
/-- the numbers that can stand in a cell -/
def cn (f uA uD : RowI) (W H k : Nat) : Nat := if f k = 0 then stf (fun n => wsp (upd f k (nI n)) uA false W H k && wsp (upd f k (nI n)) uD true W H k) 9 else 0
theorem cn_lt (f uA uD : RowI) (W H k : Nat) : cn f uA uD W H k < 512 := by
  unfold cn
  split
  · exact stf_lt _ 9
  · decide
section CN
variable {W H : Nat} {f : RowI} {cA cD : CS} {su : RowJ} {N : Nat} {mu mb me mf : RowI}
/-- Floor.numbersFor -/
theorem can_c (hN : 600 ≤ N) (hS : ST W H f cA cD su) {k : Nat} (hk : k < W * H) : mX1_numbersFor N f cA cD su (nI k) = some (nI (2 * cn f cA.1 cD.1 W H k)) := by
  obtain ⟨hD, hR, hA, hB, uA, uD, hT⟩ := hS
  have g36 := dim36 hD
  rw [mX1_numbersFor, mX1_isHole, rd_n (by omega)]
  unfold cn
  by_cases c : f k = 0
  · rw [if_pos c, if_pos c, Option.bind_some, if_neg (by decide), numbersFor_n hD hN hR hA uA hT hk c, Option.bind_some, numbersFor_n hD hN hR hB uD hT hk c, Option.bind_some, fa_and, ← two_and, stf_and]
  · rw [if_neg c, if_neg c, Option.bind_some, if_pos rfl]
    rfl
end CN
