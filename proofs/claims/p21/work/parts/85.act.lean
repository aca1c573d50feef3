/-! ===== an act, by hand and by the class ===== -/
def R21 (ke : RowI) (tr fo fr : Int32) (st : RowI) (co ro : Int32) (cA cD : CS) (su : RowJ) (wI hI : Int32) (Wn Hn : Nat) (gS gA gD : RowR) : Prop :=
  ∃ W H, co = nI W ∧ ro = nI H ∧ wI = nI W ∧ hI = nI H ∧ Wn = W ∧ Hn = H ∧ ST W H st cA cD su ∧ FR W H st cA cD ke tr fo fr ∧ RZ W H st gS ∧ RZ W H cA.1 gA ∧ RZ W H cD.1 gD
abbrev OA : Type := Int32 × Int32 × RowI × Int32 × Int32 × CS × CS × Int32 × Int32 × Nat × Nat × RowR × RowR × RowR
/-- what is owed behind an act -/
def RA (ke : RowI) (tr fo : Int32) (su : RowJ) (o : OA) : Prop := o.1 = 1 ∧ R21 ke tr fo o.2.1 o.2.2.1 o.2.2.2.1 o.2.2.2.2.1 o.2.2.2.2.2.1 o.2.2.2.2.2.2.1 su o.2.2.2.2.2.2.2.1 o.2.2.2.2.2.2.2.2.1 o.2.2.2.2.2.2.2.2.2.1 o.2.2.2.2.2.2.2.2.2.2.1 o.2.2.2.2.2.2.2.2.2.2.2.1 o.2.2.2.2.2.2.2.2.2.2.2.2.1 o.2.2.2.2.2.2.2.2.2.2.2.2.2
theorem below_n (N : Nat) (p : Int32) {n : Nat} (h1 : 1 ≤ n) (h : n < 2 ^ 31) : ∃ j, j < n ∧ mL_below N p (nI n) = some (nI j) := by
  obtain ⟨a, ha, e⟩ := pk_andE p (m := 2147483647) 31 (by decide)
  refine ⟨a % n, Nat.mod_lt _ h1, ?_⟩
  rw [mL_below, if_neg (nI_ne0 h1 h), e, pk_rem ha h1 h]
theorem len_pos {W H k : Nat} {f : RowI} {d : Bool} (hD : Dim W H) (hk : k < W * H) (ho : f k ≠ -1) : 1 ≤ (ln f d W H (bg f d W k)).length ∧ (ln f d W H (bg f d W k)).length ≤ 6 := by
  obtain ⟨A, B, h⟩ := ln_at (f := f) (d := d) hD hk ho
  have h1 := h (f k) ho
  rw [upd_id rfl] at h1
  refine ⟨by rw [h1, List.length_append, List.length_cons]; omega, ?_⟩
  have h2 := line_len (f := f) (stp d W) (fwd d W H (bg f d W k)) (bg f d W k)
  have h3 := geo hD d (bg_lt (f := f) (d := d) hk)
  exact Nat.le_trans h2 h3.2.2.1
theorem low_6 : ∀ L, L < 7 → 1 ≤ L → (nI L * (nI L + (1 : Int32))) / (2 : Int32) = nI (L * (L + 1) / 2) ∧ (((10 : Int32) * nI L) - ((2 : Int32) * ((nI L * (nI L + (1 : Int32))) / (2 : Int32)))) + (1 : Int32) = nI (10 * L - L * (L + 1) + 1) ∧ L * (L + 1) / 2 + (10 * L - L * (L + 1)) ≤ 45 := by decide +kernel
theorem low_1 : ((1 : Int32) * ((1 : Int32) + (1 : Int32))) / (2 : Int32) = nI 1 ∧ (((10 : Int32) * (1 : Int32)) - ((2 : Int32) * (((1 : Int32) * ((1 : Int32) + (1 : Int32))) / (2 : Int32)))) + (1 : Int32) = nI 9 := by decide +kernel
theorem sel_1 {α : Type} {j : Nat} (hj : j = 1 ∨ j = 2 ∨ j = 3) (a b c : α) : (if nI j = 0 then a else (if nI j = 1 then b else (if nI j = 2 then b else (if nI j = 3 then b else c)))) = b := by
  rcases hj with rfl | rfl | rfl
  · rw [if_neg (by decide), if_pos (by decide)]
  · rw [if_neg (by decide), if_neg (by decide), if_pos (by decide)]
  · rw [if_neg (by decide), if_neg (by decide), if_neg (by decide), if_pos (by decide)]
theorem sel_4 {α : Type} {j : Nat} (hj : j = 4 ∨ j = 5 ∨ j = 6 ∨ j = 7) (a b c d : α) : (if nI j = 0 then a else (if nI j = 1 then b else (if nI j = 2 then b else (if nI j = 3 then b else (if nI j = 4 then c else (if nI j = 5 then c else (if nI j = 6 then c else (if nI j = 7 then c else d)))))))) = c := by
  rcases hj with rfl | rfl | rfl | rfl
  · rw [if_neg (by decide), if_neg (by decide), if_neg (by decide), if_neg (by decide), if_pos (by decide)]
  · rw [if_neg (by decide), if_neg (by decide), if_neg (by decide), if_neg (by decide), if_neg (by decide), if_pos (by decide)]
  · rw [if_neg (by decide), if_neg (by decide), if_neg (by decide), if_neg (by decide), if_neg (by decide), if_neg (by decide), if_pos (by decide)]
  · rw [if_neg (by decide), if_neg (by decide), if_neg (by decide), if_neg (by decide), if_neg (by decide), if_neg (by decide), if_neg (by decide), if_pos (by decide)]
theorem nej {j i : Nat} (hj : j < 14) (hi : i < 14) (h : j ≠ i) {y : Int32} (hy : y = nI i) : ¬ nI j = y := fun q => h ((nI_eq (a := j) (b := i) (by omega) (by omega)).mp (q.trans hy))
theorem sel_8 {α : Type} {j : Nat} (hj : 8 ≤ j) (hj14 : j < 14) (a b c d : α) : (if nI j = 0 then a else (if nI j = 1 then b else (if nI j = 2 then b else (if nI j = 3 then b else (if nI j = 4 then c else (if nI j = 5 then c else (if nI j = 6 then c else (if nI j = 7 then c else d)))))))) = d := by
  rw [if_neg (nej (i := 0) (y := (0 : Int32)) hj14 (by omega) (by omega) rfl), if_neg (nej (i := 1) (y := (1 : Int32)) hj14 (by omega) (by omega) rfl), if_neg (nej (i := 2) (y := (2 : Int32)) hj14 (by omega) (by omega) rfl), if_neg (nej (i := 3) (y := (3 : Int32)) hj14 (by omega) (by omega) rfl), if_neg (nej (i := 4) (y := (4 : Int32)) hj14 (by omega) (by omega) rfl), if_neg (nej (i := 5) (y := (5 : Int32)) hj14 (by omega) (by omega) rfl), if_neg (nej (i := 6) (y := (6 : Int32)) hj14 (by omega) (by omega) rfl), if_neg (nej (i := 7) (y := (7 : Int32)) hj14 (by omega) (by omega) rfl)]
section AC
variable {N : Nat} {ke : RowI} {tr fo fr : Int32} {st : RowI} {cA cD : CS} {su : RowJ} {W H : Nat} {gS gA gD : RowR}
theorem st_neg (hS : ST W H st cA cD su) {k : Nat} (hk : k < W * H) : (st k < 0 ↔ st k = -1) ∧ (0 ≤ st k ↔ st k ≠ -1) := by
  have g36 := dim36 hS.1
  rcases hS.2.1 k (by omega) with q | ⟨v, hv, q⟩
  · rw [q]; decide
  · rw [q]; exact ⟨⟨fun r => absurd r (nI_pos (by omega)), fun r => absurd r (nI_m1 v (by omega))⟩, fun _ => nI_m1 v (by omega), fun _ => nI_pos' (by omega)⟩
theorem act_put (hN : 600 ≤ N) (hS : ST W H st cA cD su) (hf : FR W H st cA cD ke tr fo fr) (hZ : RZ W H st gS) (hA : RZ W H cA.1 gA) (hB : RZ W H cD.1 gD) {k v : Nat} (hk : k < W * H) (hv : v ≤ 9) : ∃ o, mL_act_553 N fr st (nI W) (nI H) cA cD (nI W) (nI H) W H gA gD (nI k) (k / W) (nI (k % W)) (nI v) gS = some o ∧ RA ke tr fo su o := by
  have hD := hS.1
  have w6 := hD.2.1
  have g36 := dim36 hD
  obtain ⟨d1, d2, d3⟩ := dm_lt hD hk
  obtain ⟨n1, n2⟩ := st_neg hS hk
  obtain ⟨p1, p2⟩ := a_put (N := N) (fr := fr) hS hk hv
  have hg : gS (k / W) (nI (k % W)).toNatClampNeg = st k := by rw [nI_clamp (by omega), hZ _ _ d1 d2, d3]
  rw [mL_act_553, if_neg (bad_n d2 (by omega)), hg]
  by_cases c : st k = -1
  · rw [if_pos (n1.mpr c), mL_act_572, p1, if_pos c]
    dsimp only [Option.bind_some, Sum.elim_inl]
    rw [if_pos rfl, if_neg (fun q => n2.mp q c)]
    exact ⟨_, rfl, rfl, W, H, rfl, rfl, rfl, rfl, rfl, rfl, hS, hf, hZ, hA, hB⟩
  · have hz := hZ.upd d2 d1 (nI v)
    rw [d3] at hz
    rw [if_neg (fun q => c (n1.mp q)), if_neg (bad_n d2 (by omega)), nI_clamp (by omega), mL_act_572, p1, if_neg c]
    dsimp only [Option.bind_some, Sum.elim_inr]
    rw [if_pos rfl, if_neg (fun q => c (n1.mp q))]
    exact ⟨_, rfl, rfl, W, H, rfl, rfl, rfl, rfl, rfl, rfl, p2 c, Or.inl rfl, hz, hA, hB⟩
theorem act_puts (hN : 600 ≤ N) (hS : ST W H st cA cD su) (hf : FR W H st cA cD ke tr fo fr) (hZ : RZ W H st gS) (hA : RZ W H cA.1 gA) (hB : RZ W H cD.1 gD) (x : Int32) {k : Nat} (hk : k < W * H) : ∀ m n i v, m < n → i + m = 9 → v ≤ 9 → ∃ o, mL_act_495 N fr st (nI W) (nI H) cA cD (nI W) (nI H) W H gA gD x n (nI k) (k / W) (nI (k % W)) (nI v) (nI i) gS = some o ∧ RA ke tr fo su o := by
  have hD := hS.1
  have w2 := hD.1
  have w6 := hD.2.1
  have g36 := dim36 hD
  obtain ⟨d1, d2, d3⟩ := dm_lt hD hk
  intro m
  induction m with
  | zero =>
    intro n i v hn hi hv
    obtain ⟨n, rfl⟩ : ∃ j, n = j + 1 := ⟨n - 1, by omega⟩
    rw [mL_act_495]
    dsimp only
    rw [if_pos (show (9 : Int32) ≤ nI i by rw [show i = 9 by omega]; decide)]
    exact act_put hN hS hf hZ hA hB hk hv
  | succ m ih =>
    intro n i v hn hi hv
    obtain ⟨n, rfl⟩ : ∃ j, n = j + 1 := ⟨n - 1, by omega⟩
    obtain ⟨j, hj, ej⟩ := below_n N (x >>> ((8 : Int32) &&& 31)) (n := 4) (by omega) (by omega)
    have ej : mL_below N (x >>> ((8 : Int32) &&& 31)) (4 : Int32) = some (nI j) := ej
    rw [mL_act_495]
    dsimp only
    rw [if_neg (show ¬ (9 : Int32) ≤ nI i from nI_ge (a := i) (b := 9) (by omega) (by omega)), ej, Option.bind_some]
    by_cases c1 : nI j ≤ 0
    · rw [if_pos c1]; exact act_put hN hS hf hZ hA hB hk hv
    rw [if_neg c1]
    by_cases c2 : nI v ≤ 0
    · rw [if_pos c2]; exact act_put hN hS hf hZ hA hB hk hv
    have hc := canZ (N := N) (gA := gA) (gD := gD) (x := k % W) (y := k / W) hN hD hS.2.1 hZ hA hB hS.2.2.2.2.1 hS.2.2.2.2.2.1 d2 d1
    rw [if_neg c2, if_neg (nI_ne0 (by omega) (by omega)), pk_div (by omega) (by omega) (by omega), hc, Option.bind_some]
    dsimp only
    by_cases c3 : ((nI (2 * cn st cA.1 cD.1 W H (k / W * W + k % W)) >>> (nI v &&& 31)) &&& (1 : Int32)) = 0
    · rw [if_pos c3, if_neg (by decide), nI_1, show nI v - nI v / (9 : Int32) * (9 : Int32) + (1 : Int32) = nI (v % 9 + 1) from by
        rw [← nI_1]; congr 1; exact pk_rem (d := 9) (by omega) (by omega) (by omega)]
      exact ih n (i + 1) (v % 9 + 1) (by omega) (by omega) (by omega)
    · rw [if_neg c3]; exact act_put hN hS hf hZ hA hB hk hv
theorem leafA (hS : ST W H st cA cD su) (hZ : RZ W H st gS) (hA : RZ W H cA.1 gA) (hB : RZ W H cD.1 gD) {b v : Nat} (hb : b < W * H) (hv : v ≤ 45) : ∃ o, (if nI W = 0 then none else
  (if bad (nI b / nI W) H then none else
  (if nI W = 0 then none else
  (if bad (nI b - nI b / nI W * nI W) W then none else
  ((mX4_setSum N fr (nI W) (nI H) cA cD (nI b) 0 (nI v)).bind fun x467 => Sum.elim (fun k => (none : Option OA)) (fun y467 =>
  (if y467.1 = (gA ((nI b / nI W).toNatClampNeg) (nI b - nI b / nI W * nI W).toNatClampNeg) then
  some ((1 : Int32), y467.2.1, st, nI W, nI H, y467.2.2.1, y467.2.2.2, nI W, nI H, W, H, gS, (updR gA ((nI b / nI W).toNatClampNeg) (upd (gA ((nI b / nI W).toNatClampNeg)) (nI b - nI b / nI W * nI W).toNatClampNeg (nI v))), gD)
  else
  some ((0 : Int32), y467.2.1, st, nI W, nI H, y467.2.2.1, y467.2.2.2, nI W, nI H, W, H, gS, (updR gA ((nI b / nI W).toNatClampNeg) (upd (gA ((nI b / nI W).toNatClampNeg)) (nI b - nI b / nI W * nI W).toNatClampNeg (nI v))), gD))) x467))))) = some o ∧ RA ke tr fo su o := by
  have hD := hS.1
  have w2 := hD.1
  have w6 := hD.2.1
  have h6 := hD.2.2.2
  have g36 := dim36 hD
  obtain ⟨d1, d2, d3⟩ := dm_lt hD hb
  have e0 : ¬ nI W = 0 := nI_ne0 (by omega) (by omega)
  obtain ⟨p1, p2⟩ := a_sumA (N := N) (fr := fr) hS hb hv
  have hz := hA.upd d2 d1 (nI v)
  rw [d3] at hz
  rw [if_neg e0, if_neg e0, pk_rem (by omega) (by omega) (by omega), pk_div (by omega) (by omega) (by omega), if_neg (bad_n d1 (by omega)), if_neg (bad_n d2 (by omega)), nI_clamp (by omega), nI_clamp (by omega), p1]
  dsimp only [Option.bind_some, Sum.elim_inr]
  rw [if_pos (by rw [hA _ _ d1 d2, d3])]
  exact ⟨_, rfl, rfl, W, H, rfl, rfl, rfl, rfl, rfl, rfl, p2, Or.inl rfl, hZ, hz, hB⟩
theorem leafD (hS : ST W H st cA cD su) (hZ : RZ W H st gS) (hA : RZ W H cA.1 gA) (hB : RZ W H cD.1 gD) {b v : Nat} (hb : b < W * H) (hv : v ≤ 45) : ∃ o, (if nI W = 0 then none else
  (if bad (nI b / nI W) H then none else
  (if nI W = 0 then none else
  (if bad (nI b - nI b / nI W * nI W) W then none else
  ((mX4_setSum N fr (nI W) (nI H) cA cD (nI b) 1 (nI v)).bind fun x467 => Sum.elim (fun k => (none : Option OA)) (fun y467 =>
  (if y467.1 = (gD ((nI b / nI W).toNatClampNeg) (nI b - nI b / nI W * nI W).toNatClampNeg) then
  some ((1 : Int32), y467.2.1, st, nI W, nI H, y467.2.2.1, y467.2.2.2, nI W, nI H, W, H, gS, gA, (updR gD ((nI b / nI W).toNatClampNeg) (upd (gD ((nI b / nI W).toNatClampNeg)) (nI b - nI b / nI W * nI W).toNatClampNeg (nI v))))
  else
  some ((0 : Int32), y467.2.1, st, nI W, nI H, y467.2.2.1, y467.2.2.2, nI W, nI H, W, H, gS, gA, (updR gD ((nI b / nI W).toNatClampNeg) (upd (gD ((nI b / nI W).toNatClampNeg)) (nI b - nI b / nI W * nI W).toNatClampNeg (nI v)))))) x467))))) = some o ∧ RA ke tr fo su o := by
  have hD := hS.1
  have w2 := hD.1
  have w6 := hD.2.1
  have h6 := hD.2.2.2
  have g36 := dim36 hD
  obtain ⟨d1, d2, d3⟩ := dm_lt hD hb
  have e0 : ¬ nI W = 0 := nI_ne0 (by omega) (by omega)
  obtain ⟨p1, p2⟩ := a_sumD (N := N) (fr := fr) hS hb hv
  have hz := hB.upd d2 d1 (nI v)
  rw [d3] at hz
  rw [if_neg e0, if_neg e0, pk_rem (by omega) (by omega) (by omega), pk_div (by omega) (by omega) (by omega), if_neg (bad_n d1 (by omega)), if_neg (bad_n d2 (by omega)), nI_clamp (by omega), nI_clamp (by omega), p1]
  dsimp only [Option.bind_some, Sum.elim_inr]
  rw [if_pos (by rw [hB _ _ d1 d2, d3])]
  exact ⟨_, rfl, rfl, W, H, rfl, rfl, rfl, rfl, rfl, rfl, p2, Or.inl rfl, hZ, hA, hz⟩
theorem act_sum (hN : 600 ≤ N) (hS : ST W H st cA cD su) (hZ : RZ W H st gS) (hA : RZ W H cA.1 gA) (hB : RZ W H cD.1 gD) {x : Int32} (d : Bool) {k b : Nat} (hk : k < W * H) (hb : b < W * H) (ek : mL_below N (x >>> ((3 : Int32) &&& 31)) (nI (W * H)) = some (nI k)) : ∃ o, mL_act_305 N fr st (nI W) (nI H) cA cD (nI W) (nI H) W H gS gA gD x (nI b) (k / W) (nI (k % W)) (nI (dn d)) = some o ∧ RA ke tr fo su o := by
  have hD := hS.1
  have w2 := hD.1
  have w6 := hD.2.1
  have h6 := hD.2.2.2
  have g36 := dim36 hD
  obtain ⟨d1, d2, d3⟩ := dm_lt hD hk
  obtain ⟨b1, b2, b3⟩ := dm_lt hD hb
  obtain ⟨n1, n2⟩ := st_neg hS hk
  have e0 : ¬ nI W = 0 := nI_ne0 (by omega) (by omega)
  obtain ⟨j9, hj9, e9⟩ := below_n N (x >>> ((9 : Int32) &&& 31)) (n := 8) (by omega) (by omega)
  have e9 : mL_below N (x >>> ((9 : Int32) &&& 31)) (8 : Int32) = some (nI j9) := e9
  obtain ⟨j6, hj6, e6⟩ := below_n N (x >>> ((6 : Int32) &&& 31)) (n := 46) (by omega) (by omega)
  have e6 : mL_below N (x >>> ((6 : Int32) &&& 31)) (46 : Int32) = some (nI j6) := e6
  obtain ⟨f1, f2⟩ := low_1
  obtain ⟨j1, hj1, ej1⟩ := below_n N (x >>> ((6 : Int32) &&& 31)) (n := 9) (by omega) (by omega)
  have f3 : ∀ v : Nat, (1 : Int32) = nI 1 := fun _ => rfl
  have hbw : bad (nI b / nI W) H = bad (nI (b / W)) H := by rw [pk_div (by omega) (by omega) (by omega)]
  have hq1 : ¬ bad (nI b / nI W) H := by rw [hbw]; exact bad_n b1 (by omega)
  have hq2 : ¬ bad (nI b - nI b / nI W * nI W) W := by rw [pk_rem (by omega) (by omega) (by omega)]; exact bad_n b2 (by omega)
  have hq3 : ¬ bad (nI (k % W)) W := bad_n d2 (by omega)
  have hg : gS (k / W) (nI (k % W)).toNatClampNeg = st k := by rw [nI_clamp (by omega), hZ _ _ d1 d2, d3]
  cases d
  · rw [mL_act_305, if_pos (show nI (dn false) = 0 from rfl), if_neg e0, if_neg hq1, if_neg e0, if_neg hq2, if_neg hq3, hg]
    by_cases c : st k = -1
    · rw [if_neg (fun q => n2.mp q c), if_neg (by decide), e9, Option.bind_some]
      by_cases c9 : nI j9 = 0
      · rw [if_pos c9, e6, Option.bind_some]
        exact leafA hS hZ hA hB hb (by omega)
      · rw [if_neg c9, f2, ej1, Option.bind_some, f1, nI_add]
        exact leafA hS hZ hA hB hb (by omega)
    · obtain ⟨l1, l6⟩ := len_pos (d := false) hD hk c
      obtain ⟨g, hc, -⟩ := corr_n (N := N) hN hD hZ hS.2.1 false d2 d1 (by rw [d3]; exact c)
      rw [d3] at hc
      obtain ⟨q1, q2, q3⟩ := low_6 _ (show (ln st false W H (bg st false W k)).length < 7 by omega) l1
      obtain ⟨jl, hjl, ejl⟩ := below_n N (x >>> ((6 : Int32) &&& 31)) (n := 10 * (ln st false W H (bg st false W k)).length - (ln st false W H (bg st false W k)).length * ((ln st false W H (bg st false W k)).length + 1) + 1) (by omega) (by omega)
      rw [if_pos (n2.mpr c), pk_mul, ek, Option.bind_some, if_neg e0, pk_div (a := k) (by omega) (by omega) (by omega), hc, Option.bind_some, if_neg (by decide), e9, Option.bind_some]
      dsimp only
      by_cases c9 : nI j9 = 0
      · rw [if_pos c9, e6, Option.bind_some]
        exact leafA hS hZ hA hB hb (by omega)
      · rw [if_neg c9, q2, ejl, Option.bind_some, q1, nI_add]
        exact leafA hS hZ hA hB hb (by omega)
  · rw [mL_act_305, if_neg (show ¬ nI (dn true) = 0 by decide), if_neg e0, if_neg hq1, if_neg e0, if_neg hq2, if_neg hq3, hg]
    by_cases c : st k = -1
    · rw [if_neg (fun q => n2.mp q c), if_neg (by decide), e9, Option.bind_some]
      by_cases c9 : nI j9 = 0
      · rw [if_pos c9, e6, Option.bind_some]
        exact leafD hS hZ hA hB hb (by omega)
      · rw [if_neg c9, f2, ej1, Option.bind_some, f1, nI_add]
        exact leafD hS hZ hA hB hb (by omega)
    · obtain ⟨l1, l6⟩ := len_pos (d := true) hD hk c
      obtain ⟨g, hc, -⟩ := corr_n (N := N) hN hD hZ hS.2.1 true d2 d1 (by rw [d3]; exact c)
      rw [d3] at hc
      obtain ⟨q1, q2, q3⟩ := low_6 _ (show (ln st true W H (bg st true W k)).length < 7 by omega) l1
      obtain ⟨jl, hjl, ejl⟩ := below_n N (x >>> ((6 : Int32) &&& 31)) (n := 10 * (ln st true W H (bg st true W k)).length - (ln st true W H (bg st true W k)).length * ((ln st true W H (bg st true W k)).length + 1) + 1) (by omega) (by omega)
      rw [if_pos (n2.mpr c), pk_mul, ek, Option.bind_some, if_neg e0, pk_div (a := k) (by omega) (by omega) (by omega), hc, Option.bind_some, if_neg (by decide), e9, Option.bind_some]
      dsimp only
      by_cases c9 : nI j9 = 0
      · rw [if_pos c9, e6, Option.bind_some]
        exact leafD hS hZ hA hB hb (by omega)
      · rw [if_neg c9, q2, ejl, Option.bind_some, q1, nI_add]
        exact leafD hS hZ hA hB hb (by omega)
theorem act_sums (hN : 600 ≤ N) (hS : ST W H st cA cD su) (hZ : RZ W H st gS) (hA : RZ W H cA.1 gA) (hB : RZ W H cD.1 gD) {x : Int32} (d : Bool) {k : Nat} (hk : k < W * H) (ek : mL_below N (x >>> ((3 : Int32) &&& 31)) (nI (W * H)) = some (nI k)) : ∃ o, mL_act_267 N fr st (nI W) (nI H) cA cD (nI W) (nI H) W H gS gA gD x (nI k) (k / W) (nI (k % W)) (nI (dn d)) = some o ∧ RA ke tr fo su o := by
  have hD := hS.1
  have w2 := hD.1
  have w6 := hD.2.1
  have h6 := hD.2.2.2
  have g36 := dim36 hD
  obtain ⟨d1, d2, d3⟩ := dm_lt hD hk
  obtain ⟨n1, n2⟩ := st_neg hS hk
  have e0 : ¬ nI W = 0 := nI_ne0 (by omega) (by omega)
  have hg : gS (k / W) (nI (k % W)).toNatClampNeg = st k := by rw [nI_clamp (by omega), hZ _ _ d1 d2, d3]
  rw [mL_act_267, if_neg (bad_n d2 (by omega)), hg]
  by_cases c : st k = -1
  · rw [if_pos (n1.mpr c)]
    exact act_sum hN hS hZ hA hB d hk hk ek
  · obtain ⟨j, hj, ej⟩ := below_n N (x >>> ((5 : Int32) &&& 31)) (n := 6) (by omega) (by omega)
    have ej : mL_below N (x >>> ((5 : Int32) &&& 31)) (6 : Int32) = some (nI j) := ej
    rw [if_neg (fun q => c (n1.mp q)), ej, Option.bind_some]
    by_cases c1 : nI j ≤ 0
    · rw [if_pos c1]
      exact act_sum hN hS hZ hA hB d hk hk ek
    · obtain ⟨l1, l6⟩ := len_pos (d := d) hD hk c
      obtain ⟨g, hc, hgg⟩ := corr_n (N := N) hN hD hZ hS.2.1 d d2 d1 (by rw [d3]; exact c)
      rw [d3] at hc hgg
      rw [if_neg c1, if_neg e0, pk_div (by omega) (by omega) (by omega), hc, Option.bind_some]
      dsimp only
      rw [if_neg (show ¬ bad (0 : Int32) (ln st d W H (bg st d W k)).length from bad_n (k := 0) (by omega) (by omega)), show g (0 : Int32).toNatClampNeg = nI (bg st d W k) by rw [show (0 : Int32).toNatClampNeg = 0 from rfl, hgg 0 (by omega), Nat.zero_mul, Nat.add_zero]]
      exact act_sum hN hS hZ hA hB d hk (bg_lt hk) ek
theorem act_pil (hN : 600 ≤ N) (hS : ST W H st cA cD su) (hZ : RZ W H st gS) (hA : RZ W H cA.1 gA) (hB : RZ W H cD.1 gD) {k : Nat} (hk : k < W * H) : ∃ o, (if bad (nI (k % W)) W then none else
  (if 0 ≤ (gS ((nI (k / W)).toNatClampNeg) (nI (k % W)).toNatClampNeg) then
  (if bad (nI (k % W)) W then none else
  ((mX4_pillar N fr st (nI W) (nI H) cA cD (nI k)).bind fun x226 => Sum.elim (fun k => none) (fun y226 =>
  (if bad (nI (k % W)) W then none else
  (if 0 ≤ ((updR gS ((nI (k / W)).toNatClampNeg) (upd (gS ((nI (k / W)).toNatClampNeg)) (nI (k % W)).toNatClampNeg (-1 : Int32))) ((nI (k / W)).toNatClampNeg) (nI (k % W)).toNatClampNeg) then
  (mL_act_242 N (nI W) (nI H) (nI W) (nI H) W H gA gD (0 : Int32) y226.1 y226.2.1 y226.2.2.1 y226.2.2.2.1 y226.2.2.2.2 (updR gS ((nI (k / W)).toNatClampNeg) (upd (gS ((nI (k / W)).toNatClampNeg)) (nI (k % W)).toNatClampNeg (-1 : Int32))))
  else
  (mL_act_242 N (nI W) (nI H) (nI W) (nI H) W H gA gD (1 : Int32) y226.1 y226.2.1 y226.2.2.1 y226.2.2.2.1 y226.2.2.2.2 (updR gS ((nI (k / W)).toNatClampNeg) (upd (gS ((nI (k / W)).toNatClampNeg)) (nI (k % W)).toNatClampNeg (-1 : Int32))))))) x226))
  else
  (if bad (nI (k % W)) W then none else
  ((mX4_pillar N fr st (nI W) (nI H) cA cD (nI k)).bind fun x226 => Sum.elim (fun k => none) (fun y226 =>
  (if bad (nI (k % W)) W then none else
  (if 0 ≤ ((updR gS ((nI (k / W)).toNatClampNeg) (upd (gS ((nI (k / W)).toNatClampNeg)) (nI (k % W)).toNatClampNeg (0 : Int32))) ((nI (k / W)).toNatClampNeg) (nI (k % W)).toNatClampNeg) then
  (mL_act_242 N (nI W) (nI H) (nI W) (nI H) W H gA gD (0 : Int32) y226.1 y226.2.1 y226.2.2.1 y226.2.2.2.1 y226.2.2.2.2 (updR gS ((nI (k / W)).toNatClampNeg) (upd (gS ((nI (k / W)).toNatClampNeg)) (nI (k % W)).toNatClampNeg (0 : Int32))))
  else
  (mL_act_242 N (nI W) (nI H) (nI W) (nI H) W H gA gD (1 : Int32) y226.1 y226.2.1 y226.2.2.1 y226.2.2.2.1 y226.2.2.2.2 (updR gS ((nI (k / W)).toNatClampNeg) (upd (gS ((nI (k / W)).toNatClampNeg)) (nI (k % W)).toNatClampNeg (0 : Int32))))))) x226)))) = some o ∧ RA ke tr fo su o := by
  have hD := hS.1
  have w2 := hD.1
  have w6 := hD.2.1
  have h6 := hD.2.2.2
  have g36 := dim36 hD
  obtain ⟨d1, d2, d3⟩ := dm_lt hD hk
  obtain ⟨n1, n2⟩ := st_neg hS hk
  obtain ⟨cA', cD', y, ey, e1, e2, e3, e4⟩ := a_pillar (N := N) (fr := fr) hN hS hk
  have hb : ¬ bad (nI (k % W)) W := bad_n d2 (by omega)
  have hg : gS (nI (k / W)).toNatClampNeg (nI (k % W)).toNatClampNeg = st k := by rw [nI_clamp (by omega), nI_clamp (by omega), hZ _ _ d1 d2, d3]
  rw [if_neg hb, hg, e1]
  by_cases c : st k = -1
  · rw [if_neg (fun q => n2.mp q c), if_neg hb]
    dsimp only [Option.bind_some, Sum.elim_inr]
    rw [if_neg hb, nI_clamp (show k / W < 2 ^ 31 by omega), nI_clamp (show k % W < 2 ^ 31 by omega), updR_s, upd_s, if_pos (by decide), mL_act_242, if_pos c, if_pos rfl]
    rw [if_pos c] at ey
    subst ey
    have hz := hZ.upd d2 d1 0
    rw [d3] at hz
    exact ⟨_, rfl, rfl, W, H, rfl, rfl, rfl, rfl, rfl, rfl, e2, Or.inl rfl, hz, by rw [e3]; exact hA, by rw [e4]; exact hB⟩
  · rw [if_pos (n2.mpr c), if_neg hb]
    dsimp only [Option.bind_some, Sum.elim_inr]
    rw [if_neg hb, nI_clamp (show k / W < 2 ^ 31 by omega), nI_clamp (show k % W < 2 ^ 31 by omega), updR_s, upd_s, if_neg (by decide), mL_act_242, if_neg c, if_pos rfl]
    rw [if_neg c] at ey
    subst ey
    have hz := hZ.upd d2 d1 (-1)
    rw [d3] at hz
    exact ⟨_, rfl, rfl, W, H, rfl, rfl, rfl, rfl, rfl, rfl, e2, Or.inl rfl, hz, by rw [e3]; exact hA, by rw [e4]; exact hB⟩
theorem act_n (hN : 600 ≤ N) {co ro wI hI : Int32} {Wn Hn : Nat} (hr : R21 ke tr fo fr st co ro cA cD su wI hI Wn Hn gS gA gD) (x : Int32) : ∃ o, mL_act N fr st co ro cA cD wI hI Wn Hn gS gA gD x = some o ∧ RA ke tr fo su o := by
  have hr0 := hr
  obtain ⟨W, H, rfl, rfl, rfl, rfl, rfl, rfl, hS, hf, hZ, hA, hB⟩ := hr
  have hD := hS.1
  have w2 := hD.1
  have w6 := hD.2.1
  have h6 := hD.2.2.2
  have g36 := dim36 hD
  have g4 := dim4 hD
  have e0 : ¬ nI Wn = 0 := nI_ne0 (by omega) (by omega)
  obtain ⟨k, hk, ek⟩ := below_n N (x >>> ((3 : Int32) &&& 31)) (n := Wn * Hn) (by omega) (by omega)
  obtain ⟨d1, d2, d3⟩ := dm_lt hD hk
  obtain ⟨j, hj, ej⟩ := below_n N x (n := 14) (by omega) (by omega)
  have ej : mL_below N x (14 : Int32) = some (nI j) := ej
  rw [mL_act, pk_mul, ek, Option.bind_some, if_neg e0, pk_rem (by omega) (by omega) (by omega), pk_div (by omega) (by omega) (by omega), if_neg (bad_n d1 (by omega)), if_neg e0, ej, Option.bind_some]
  rcases (by omega : j = 0 ∨ (j = 1 ∨ j = 2 ∨ j = 3) ∨ (j = 4 ∨ j = 5 ∨ j = 6 ∨ j = 7) ∨ 8 ≤ j) with rfl | h | h | h
  · rw [if_pos (show nI 0 = 0 from rfl)]
    obtain ⟨j4, hj4, e4⟩ := below_n N (x >>> ((4 : Int32) &&& 31)) (n := 4) (by omega) (by omega)
    have e4 : mL_below N (x >>> ((4 : Int32) &&& 31)) (4 : Int32) = some (nI j4) := e4
    rw [e4, Option.bind_some]
    by_cases c : nI j4 ≤ 0
    · obtain ⟨a, ha, ea⟩ := below_n N (x >>> ((6 : Int32) &&& 31)) (n := 5) (by omega) (by omega)
      have ea : mL_below N (x >>> ((6 : Int32) &&& 31)) (5 : Int32) = some (nI a) := ea
      obtain ⟨b, hb, eb⟩ := below_n N (x >>> ((9 : Int32) &&& 31)) (n := 5) (by omega) (by omega)
      have eb : mL_below N (x >>> ((9 : Int32) &&& 31)) (5 : Int32) = some (nI b) := eb
      have s1 : (2 : Int32) + nI a = nI (2 + a) := nI_add 2 a
      have s2 : (2 : Int32) + nI b = nI (2 + b) := nI_add 2 b
      have hD2 : Dim (2 + a) (2 + b) := ⟨by omega, by omega, by omega, by omega⟩
      obtain ⟨cA', cD', f1, f2, f3, f4⟩ := a_floor (N := N) (fr := fr) (st := st) (cA := cA) (cD := cD) (su := su) hN hD2 hS.2.2.2.2.2.2 (nI Wn) (nI Hn)
      rw [if_pos c, ea, Option.bind_some, eb, Option.bind_some, s1, s2, if_pos ⟨nI_pos (by omega), nI_pos (by omega), by rw [nI_clamp (by omega)]; omega, by rw [nI_clamp (by omega)]; omega⟩, f1]
      dsimp only [Option.bind_some, Sum.elim_inr]
      rw [pk_mul, if_pos rfl]
      have g36' := dim36 hD2
      have hz0 : ∀ u : RowI, (∀ k, k < 36 → u k = 0) → RZ (2 + a) (2 + b) u (fun _ _ => 0) := fun u hu y x hy hx => by
        have := cell_xy hx hy
        exact (hu _ (by omega)).symm
      exact ⟨_, rfl, rfl, 2 + a, 2 + b, rfl, rfl, rfl, rfl, nI_clamp (by omega), nI_clamp (by omega), f2, Or.inl rfl, hz0 _ (fun k hk => zr_at 36 k hk), hz0 _ f3, hz0 _ f4⟩
    · rw [if_neg c]
      exact ⟨_, rfl, rfl, hr0⟩
  · rw [sel_1 h]
    exact act_pil hN hS hZ hA hB hk
  · rw [sel_4 h]
    obtain ⟨j7, hj7, e7⟩ := below_n N (x >>> ((7 : Int32) &&& 31)) (n := 2) (by omega) (by omega)
    have e7 : mL_below N (x >>> ((7 : Int32) &&& 31)) (2 : Int32) = some (nI j7) := e7
    rw [e7, Option.bind_some, nI_clamp (by omega)]
    by_cases c : nI j7 = 0
    · rw [if_pos c]
      exact act_sums hN hS hZ hA hB true hk ek
    · rw [if_neg c]
      exact act_sums hN hS hZ hA hB false hk ek
  · rw [sel_8 h hj]
    obtain ⟨j6, hj6, e6⟩ := below_n N (x >>> ((6 : Int32) &&& 31)) (n := 10) (by omega) (by omega)
    have e6 : mL_below N (x >>> ((6 : Int32) &&& 31)) (10 : Int32) = some (nI j6) := e6
    rw [e6, Option.bind_some, nI_clamp (by omega)]
    exact act_puts hN hS hf hZ hA hB x hk 9 10 0 j6 (by omega) (by omega) (by omega)
end AC
