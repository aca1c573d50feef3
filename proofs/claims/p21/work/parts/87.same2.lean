section SM2
variable {N : Nat} {st : RowI} {cA cD : CS} {su : RowJ} {W H : Nat} {gS gA gD : RowR}
theorem oneb_f : oneb false = 0 := rfl
theorem oneb_t : oneb true = 1 := rfl
theorem ct_o (P : Nat → Bool) (k : Nat) : nI (fb_ct P k) + oneb (P k) = nI (fb_ct P (k + 1)) := by
  cases h : P k
  · rw [ct_f h, oneb_f]; exact nI_a0 _
  · rw [ct_t h, oneb_t]; exact nI_1 _
theorem ct_oo (P Q : Nat → Bool) (k : Nat) : nI (fb_ct P k + fb_ct Q k) + oneb (P k) + oneb (Q k) = nI (fb_ct P (k + 1) + fb_ct Q (k + 1)) := by
  cases h : P k
  · cases h2 : Q k
    · rw [ct_f h, ct_f h2, oneb_f, nI_a0, nI_a0]
    · rw [ct_f h, ct_t h2, oneb_f, oneb_t, nI_a0, nI_1, Nat.add_assoc]
  · cases h2 : Q k
    · rw [ct_t h, ct_f h2, oneb_f, oneb_t, nI_1, nI_a0, show fb_ct P k + fb_ct Q k + 1 = fb_ct P k + 1 + fb_ct Q k by omega]
    · rw [ct_t h, ct_t h2, oneb_t, nI_1, nI_1, show fb_ct P k + fb_ct Q k + 1 + 1 = fb_ct P k + 1 + (fb_ct Q k + 1) by omega]
theorem bc_bq {f uA uD : RowI} (k : Nat) {p : Nat} (hp : p < 2 ^ 31) : decide (bc (nI (2 * cn f uA uD W H k)) = nI p) = decide (bq1 f uA uD W H k = p) := by
  have hb := bq1_le f uA uD W H k
  rw [bc_cn]
  exact decide_eq_decide.mpr (nI_eq (by omega) hp)
/-- behind the two ways of one cell -/
theorem same_478 (hN : 600 ≤ N) (hS : ST W H st cA cD su) (hZ : RZ W H st gS) (K70 : RowI → Int32 → Int32 → Int32 → Int32 → Int32 → RowR → Option (Int32 × RowR)) {k : Nat} (hk : k < W * H) (g : RowI) (v3 v4 v5 v6 : Int32) :
    mX5_isSame_478 N st (nI W) (nI H) cA cD su (nI W) (nI H) W H gA gD K70 g v3 v4 v5 v6 (nI k) (nI (k % W)) (nI (k / W)) (nI (bq1 st cA.1 cD.1 W H k)) (oneb (decide (st k ≠ -1))) (g 2) (2 : Int32) gS = (if st k = 0 then (if v6 ≤ nI (bq1 st cA.1 cD.1 W H k) then K70 (upd (upd (upd (upd g 2 (g 2 + oneb (decide (st k ≠ -1)))) 3 (g 3 + oneb (decide (0 < st k)))) 7 (g 7 + oneb (hwc st cA.1 cD.1 W H 1 k))) 8 (g 8 + oneb (hwc st cA.1 cD.1 W H 0 k))) (v3 + 1) (v4 + nI (bq1 st cA.1 cD.1 W H k)) v5 v6 (nI k + 1) gS else K70 (upd (upd (upd (upd g 2 (g 2 + oneb (decide (st k ≠ -1)))) 3 (g 3 + oneb (decide (0 < st k)))) 7 (g 7 + oneb (hwc st cA.1 cD.1 W H 1 k))) 8 (g 8 + oneb (hwc st cA.1 cD.1 W H 0 k))) (v3 + 1) (v4 + nI (bq1 st cA.1 cD.1 W H k)) (nI k) (nI (bq1 st cA.1 cD.1 W H k)) (nI k + 1) gS) else K70 (upd (upd (upd (upd g 2 (g 2 + oneb (decide (st k ≠ -1)))) 3 (g 3 + oneb (decide (0 < st k)))) 7 (g 7 + oneb (hwc st cA.1 cD.1 W H 1 k))) 8 (g 8 + oneb (hwc st cA.1 cD.1 W H 0 k))) v3 v4 v5 v6 (nI k + 1) gS) := by
  have hD := hS.1
  have w2 := hD.1
  have w6 := hD.2.1
  have h6 := hD.2.2.2
  have g36 := dim36 hD
  obtain ⟨d1, d2, d3⟩ := dm_lt hD hk
  have hb9 := bq1_le st cA.1 cD.1 W H k
  have hgs : gS (nI (k / W)).toNatClampNeg (nI (k % W)).toNatClampNeg = st k := by rw [nI_clamp (by omega), nI_clamp (by omega), hZ _ _ d1 d2, d3]
  have b1 : ¬ bad (nI (k / W)) H := bad_n d1 (by omega)
  have b2 : ¬ bad (nI (k % W)) W := bad_n d2 (by omega)
  have e1 : hwc st cA.1 cD.1 W H 1 k = decide (bq1 st cA.1 cD.1 W H k = 1) := by
    unfold hwc
    rw [show (1 : Int32) = nI 1 from rfl, bc_bq k (p := 1) (by omega)]
    by_cases c : st k = 0
    · rw [decide_eq_true c, Bool.true_and]
    · rw [decide_eq_false c, bq1_no c]; rfl
  have e0 : hwc st cA.1 cD.1 W H 0 k = (decide (st k = 0) && decide (bq1 st cA.1 cD.1 W H k = 0)) := by
    unfold hwc
    rw [show (0 : Int32) = nI 0 from rfl, bc_bq k (p := 0) (by omega)]
  have u3 : ∀ x, (upd g 2 x) 3 = g 3 := fun x => upd_n (by omega)
  have u7 : ∀ x y, (upd (upd g 2 x) 3 y) 7 = g 7 := fun x y => by rw [upd_n (by omega), upd_n (by omega)]
  have u8 : ∀ x y z, (upd (upd (upd g 2 x) 3 y) 7 z) 8 = g 8 := fun x y z => by rw [upd_n (by omega), upd_n (by omega), upd_n (by omega)]
  -- the last two steps
  have s550 : ∀ (g9 : RowI) (x y : Int32), mX5_isSame_550 N st (nI W) (nI H) cA cD su (nI W) (nI H) W H gA gD K70 g9 v3 v4 v5 v6 (nI k) (nI (k % W)) (nI (k / W)) (nI (bq1 st cA.1 cD.1 W H k)) x y (8 : Int32) gS = (if st k = 0 then (if v6 ≤ nI (bq1 st cA.1 cD.1 W H k) then K70 (upd g9 8 (y + x)) (v3 + 1) (v4 + nI (bq1 st cA.1 cD.1 W H k)) v5 v6 (nI k + 1) gS else K70 (upd g9 8 (y + x)) (v3 + 1) (v4 + nI (bq1 st cA.1 cD.1 W H k)) (nI k) (nI (bq1 st cA.1 cD.1 W H k)) (nI k + 1) gS) else K70 (upd g9 8 (y + x)) v3 v4 v5 v6 (nI k + 1) gS) := by
    intro g9 x y
    rw [mX5_isSame_550, if_neg (show ¬ bad (8 : Int32) 9 by decide), if_neg b1, if_neg b2, hgs, t_8]
  have s520 : ∀ (g9 : RowI) (x y : Int32), mX5_isSame_520 N st (nI W) (nI H) cA cD su (nI W) (nI H) W H gA gD K70 g9 v3 v4 v5 v6 (nI k) (nI (k % W)) (nI (k / W)) (nI (bq1 st cA.1 cD.1 W H k)) x y (7 : Int32) gS = mX5_isSame_550 N st (nI W) (nI H) cA cD su (nI W) (nI H) W H gA gD K70 (upd g9 7 (y + x)) v3 v4 v5 v6 (nI k) (nI (k % W)) (nI (k / W)) (nI (bq1 st cA.1 cD.1 W H k)) (oneb (hwc st cA.1 cD.1 W H 0 k)) ((upd g9 7 (y + x)) 8) (8 : Int32) gS := by
    intro g9 x y
    rw [mX5_isSame_520, if_neg (show ¬ bad (7 : Int32) 9 by decide), if_neg (show ¬ bad (8 : Int32) 9 by decide), if_neg b1, if_neg b2, hgs, t_7, t_8, e0]
    by_cases c : st k = 0
    · rw [if_pos c, decide_eq_true c, Bool.true_and]
      by_cases z : bq1 st cA.1 cD.1 W H k = 0
      · rw [if_pos (show nI (bq1 st cA.1 cD.1 W H k) = 0 by rw [z]; rfl), decide_eq_true z]
        rfl
      · rw [if_neg (nI_ne0 (by omega) (by omega)), mX5_isSame_549, decide_eq_false z]
        rfl
    · rw [if_neg c, mX5_isSame_549, decide_eq_false c, Bool.false_and]
      rfl
  have s502 : ∀ (g9 : RowI) (x y : Int32), mX5_isSame_502 N st (nI W) (nI H) cA cD su (nI W) (nI H) W H gA gD K70 g9 v3 v4 v5 v6 (nI k) (nI (k % W)) (nI (k / W)) (nI (bq1 st cA.1 cD.1 W H k)) x y (3 : Int32) gS = mX5_isSame_520 N st (nI W) (nI H) cA cD su (nI W) (nI H) W H gA gD K70 (upd g9 3 (y + x)) v3 v4 v5 v6 (nI k) (nI (k % W)) (nI (k / W)) (nI (bq1 st cA.1 cD.1 W H k)) (oneb (hwc st cA.1 cD.1 W H 1 k)) ((upd g9 3 (y + x)) 7) (7 : Int32) gS := by
    intro g9 x y
    rw [mX5_isSame_502, if_neg (show ¬ bad (3 : Int32) 9 by decide), if_neg (show ¬ bad (7 : Int32) 9 by decide), t_3, t_7, e1]
    by_cases z : bq1 st cA.1 cD.1 W H k = 1
    · rw [if_pos (show nI (bq1 st cA.1 cD.1 W H k) = (1 : Int32) by rw [z]; rfl), decide_eq_true z]
      rfl
    · rw [if_neg (show ¬ nI (bq1 st cA.1 cD.1 W H k) = (1 : Int32) from fun q => z ((nI_eq (b := 1) (by omega) (by omega)).mp q)), decide_eq_false z]
      rfl
  rw [mX5_isSame_478, if_neg (show ¬ bad (2 : Int32) 9 by decide), if_neg (show ¬ bad (3 : Int32) 9 by decide), if_neg b1, if_neg b2, hgs, t_2, t_3, u3]
  by_cases c : 0 < st k
  · rw [if_neg (Int32.not_le.mpr c), s502, s520, s550, u7, u8, decide_eq_true c]
    rfl
  · rw [if_pos (Int32.not_lt.mp c), s502, s520, s550, u7, u8, decide_eq_false c]
    rfl
theorem same_126 (hN : 600 ≤ N) (hS : ST W H st cA cD su) (hZ : RZ W H st gS) (hA : RZ W H cA.1 gA) (hB : RZ W H cD.1 gD) (K70 : RowI → Int32 → Int32 → Int32 → Int32 → Int32 → RowR → Option (Int32 × RowR)) {k : Nat} (hk : k < W * H) {g : RowI} (hg : CTI st cA.1 cD.1 W H k g) (v3 v4 v5 v6 : Int32) :
    ∃ g', CTI st cA.1 cD.1 W H (k + 1) g' ∧ mX5_isSame_126 N st (nI W) (nI H) cA cD su (nI W) (nI H) W H gA gD K70 3 g v3 v4 v5 v6 (nI k) (nI (k % W)) (nI (k / W)) (0 : Int32) gS = (if st k = 0 then (if v6 ≤ nI (bq1 st cA.1 cD.1 W H k) then K70 g' (v3 + 1) (v4 + nI (bq1 st cA.1 cD.1 W H k)) v5 v6 (nI k + 1) gS else K70 g' (v3 + 1) (v4 + nI (bq1 st cA.1 cD.1 W H k)) (nI k) (nI (bq1 st cA.1 cD.1 W H k)) (nI k + 1) gS) else K70 g' v3 v4 v5 v6 (nI k + 1) gS) := by
  have hD := hS.1
  have w2 := hD.1
  have w6 := hD.2.1
  have h6 := hD.2.2.2
  have g36 := dim36 hD
  obtain ⟨d1, d2, d3⟩ := dm_lt hD hk
  obtain ⟨n1, n2⟩ := st_neg hS hk
  obtain ⟨g1, e1, a1, a4, a5, a6⟩ := same_143 (gS := gS) (gA := gA) (gD := gD) hN hS hZ hA hB K70 (mX5_isSame_126 N st (nI W) (nI H) cA cD su (nI W) (nI H) W H gA gD K70 2) hk false g v3 v4 v5 v6 (0 : Int32)
  obtain ⟨g2, e2, b1, b4, b5, b6⟩ := same_143 (gS := gS) (gA := gA) (gD := gD) hN hS hZ hA hB K70 (mX5_isSame_126 N st (nI W) (nI H) cA cD su (nI W) (nI H) W H gA gD K70 1) hk true g1 v3 v4 v5 v6 (1 : Int32)
  have hcan := canZ (N := N) (gA := gA) (gD := gD) (x := k % W) (y := k / W) hN hD hS.2.1 hZ hA hB hS.2.2.2.2.1 hS.2.2.2.2.2.1 d2 d1
  rw [d3] at hcan
  obtain ⟨c0, c1, c2, c3, c4, c5, c6, c7, c8⟩ := hg
  have z0 : g2 0 = g 0 := by rw [b1 0 (by omega) (by omega) (by omega), a1 0 (by omega) (by omega) (by omega)]
  have z1 : g2 1 = g 1 := by rw [b1 1 (by omega) (by omega) (by omega), a1 1 (by omega) (by omega) (by omega)]
  have z2 : g2 2 = g 2 := by rw [b1 2 (by omega) (by omega) (by omega), a1 2 (by omega) (by omega) (by omega)]
  have z3 : g2 3 = g 3 := by rw [b1 3 (by omega) (by omega) (by omega), a1 3 (by omega) (by omega) (by omega)]
  have z7 : g2 7 = g 7 := by rw [b1 7 (by omega) (by omega) (by omega), a1 7 (by omega) (by omega) (by omega)]
  have z8 : g2 8 = g 8 := by rw [b1 8 (by omega) (by omega) (by omega), a1 8 (by omega) (by omega) (by omega)]
  refine ⟨upd (upd (upd (upd g2 2 (g2 2 + oneb (decide (st k ≠ -1)))) 3 (g2 3 + oneb (decide (0 < st k)))) 7 (g2 7 + oneb (hwc st cA.1 cD.1 W H 1 k))) 8 (g2 8 + oneb (hwc st cA.1 cD.1 W H 0 k)), ?_, ?_⟩
  rotate_left
  · rw [mX5_isSame_126]
    dsimp only
    rw [if_neg (show ¬ (2 : Int32) ≤ 0 by decide), if_neg (show ¬ (0 : Int32) = 1 by decide)]
    refine Eq.trans e1 ?_
    rw [show (0 : Int32) + 1 = 1 from rfl, mX5_isSame_126]
    dsimp only
    rw [if_neg (show ¬ (2 : Int32) ≤ 1 by decide), if_pos rfl]
    refine Eq.trans e2 ?_
    rw [show (1 : Int32) + 1 = 2 from rfl, mX5_isSame_126]
    dsimp only
    rw [if_pos (show (2 : Int32) ≤ 2 by decide), hcan, Option.bind_some]
    dsimp only
    rw [many_n hN _ (cn_lt _ _ _ _ _ _), Option.bind_some, a_can hN hS hk]
    dsimp only [Option.bind_some, Sum.elim_inr]
    rw [if_pos rfl, if_neg (show ¬ bad (2 : Int32) 9 by decide), if_neg (bad_n d1 (by omega)), if_neg (bad_n d2 (by omega)), t_2]
    have hgs : gS (nI (k / W)).toNatClampNeg (nI (k % W)).toNatClampNeg = st k := by rw [nI_clamp (by omega), nI_clamp (by omega), hZ _ _ d1 d2, d3]
    have hs := same_478 (gA := gA) (gD := gD) hN hS hZ K70 hk g2 v3 v4 v5 v6
    by_cases c : st k = -1
    · rw [if_pos (show gS (nI (k / W)).toNatClampNeg (nI (k % W)).toNatClampNeg < 0 by rw [hgs]; exact n1.mpr c)]
      have ho : decide (st k ≠ -1) = false := decide_eq_false (fun q => q c)
      rw [ho] at hs ⊢
      exact hs
    · rw [if_neg (show ¬ gS (nI (k / W)).toNatClampNeg (nI (k % W)).toNatClampNeg < 0 by rw [hgs]; exact fun q => c (n1.mp q))]
      have ho : decide (st k ≠ -1) = true := decide_eq_true c
      rw [ho] at hs ⊢
      exact hs
  · refine ⟨?_, ?_, ?_, ?_, ?_, ?_, ?_, ?_, ?_⟩
    · rw [upd_n (by omega), upd_n (by omega), upd_n (by omega), upd_n (by omega), z0, c0]
    · rw [upd_n (by omega), upd_n (by omega), upd_n (by omega), upd_n (by omega), z1, c1]
    · rw [upd_n (by omega), upd_n (by omega), upd_n (by omega), upd_s, z2, c2]
      exact ct_o _ k
    · rw [upd_n (by omega), upd_n (by omega), upd_s, z3, c3]
      exact ct_o _ k
    · rw [upd_n (by omega), upd_n (by omega), upd_n (by omega), upd_n (by omega), b4, a4, c4]
      exact ct_oo _ _ k
    · rw [upd_n (by omega), upd_n (by omega), upd_n (by omega), upd_n (by omega), b5, a5, c5]
      exact ct_oo _ _ k
    · rw [upd_n (by omega), upd_n (by omega), upd_n (by omega), upd_n (by omega), b6, a6, c6]
      exact ct_oo _ _ k
    · rw [upd_n (by omega), upd_s, z7, c7]
      exact ct_o _ k
    · rw [upd_s, z8, c8]
      exact ct_o _ k
theorem same_70 (hN : 600 ≤ N) (hS : ST W H st cA cD su) (hZ : RZ W H st gS) (hA : RZ W H cA.1 gA) (hB : RZ W H cD.1 gD) : ∀ m n k g v5 v6 w, m < n → k + m = W * H → CTI st cA.1 cD.1 W H k g → ((v6 = nI 99 ∧ w = 10) ∨ (v6 = nI w ∧ w ≤ 9)) → tg st cA.1 cD.1 W H m k v5 w = tg st cA.1 cD.1 W H (W * H) 0 (-1) 10 →
    mX5_isSame_70 N st (nI W) (nI H) cA cD su (nI W) (nI H) W H gA gD n g (nI (fb_ct (hol st) k)) (nI (sbq st cA.1 cD.1 W H k)) v5 v6 (nI k) gS = some (1, gS) := by
  have hD := hS.1
  have w2 := hD.1
  have w6 := hD.2.1
  have h6 := hD.2.2.2
  have g36 := dim36 hD
  have e0 : ¬ nI W = 0 := nI_ne0 (by omega) (by omega)
  intro m
  induction m with
  | zero =>
    intro n k g v5 v6 w hn hk hg hw ht
    obtain ⟨n, rfl⟩ : ∃ j, n = j + 1 := ⟨n - 1, by omega⟩
    obtain rfl : k = W * H := by omega
    have ht : v5 = tg st cA.1 cD.1 W H (W * H) 0 (-1) 10 := ht
    rw [mX5_isSame_70]
    dsimp only
    rw [pk_mul, if_pos (nI_le (Nat.le_refl _) (by omega)), ht]
    exact same_602 hN hS hg 9 10 0 (by omega) (by omega)
  | succ m ih =>
    intro n k g v5 v6 w hn hk hg hw ht
    obtain ⟨n, rfl⟩ : ∃ j, n = j + 1 := ⟨n - 1, by omega⟩
    have hk2 : k < W * H := by omega
    obtain ⟨d1, d2, d3⟩ := dm_lt hD hk2
    have hb9 := bq1_le st cA.1 cD.1 W H k
    rw [mX5_isSame_70]
    dsimp only
    rw [pk_mul, if_neg (nI_ge hk2 (by omega)), if_neg e0, if_neg e0, a_stone hS hk2]
    dsimp only [Option.bind_some, Sum.elim_inr]
    rw [pk_rem (by omega) (by omega) (by omega), pk_div (by omega) (by omega) (by omega), if_neg (bad_n d1 (by omega)), if_neg (bad_n d2 (by omega)), nI_clamp (show k / W < 2 ^ 31 by omega), nI_clamp (show k % W < 2 ^ 31 by omega), hZ _ _ d1 d2, d3, if_pos rfl]
    obtain ⟨g', q1, q2⟩ := same_126 (gS := gS) (gA := gA) (gD := gD) hN hS hZ hA hB (mX5_isSame_70 N st (nI W) (nI H) cA cD su (nI W) (nI H) W H gA gD n) hk2 hg (nI (fb_ct (hol st) k)) (nI (sbq st cA.1 cD.1 W H k)) v5 v6
    rw [q2, nI_1, nI_add, show sbq st cA.1 cD.1 W H k + bq1 st cA.1 cD.1 W H k = sbq st cA.1 cD.1 W H (k + 1) from rfl, nI_1]
    rw [tg] at ht
    by_cases c : st k = 0
    · have hh : fb_ct (hol st) k + 1 = fb_ct (hol st) (k + 1) := (ct_t (show hol st k = true from decide_eq_true c)).symm
      rw [if_pos c, hh]
      by_cases cw : bq1 st cA.1 cD.1 W H k < w
      · have hv : ¬ v6 ≤ nI (bq1 st cA.1 cD.1 W H k) := by
          rcases hw with ⟨r1, r2⟩ | ⟨r1, r2⟩
          · rw [r1]; exact nI_ge (by omega) (by omega)
          · rw [r1]; exact nI_ge cw (by omega)
        rw [if_pos ⟨c, cw⟩] at ht
        rw [if_neg hv]
        exact ih n (k + 1) g' _ _ (bq1 st cA.1 cD.1 W H k) (by omega) (by omega) q1 (Or.inr ⟨rfl, hb9⟩) ht
      · have hv : v6 ≤ nI (bq1 st cA.1 cD.1 W H k) := by
          rcases hw with ⟨r1, r2⟩ | ⟨r1, r2⟩
          · omega
          · rw [r1]; exact nI_le (by omega) (by omega)
        rw [if_neg (fun q => cw q.2)] at ht
        rw [if_pos hv]
        exact ih n (k + 1) g' _ _ w (by omega) (by omega) q1 hw ht
    · have hh : fb_ct (hol st) k = fb_ct (hol st) (k + 1) := (ct_f (show hol st k = false from decide_eq_false c)).symm
      have hs : sbq st cA.1 cD.1 W H k = sbq st cA.1 cD.1 W H (k + 1) := by rw [sbq, bq1_no c, Nat.add_zero]
      rw [if_neg (fun q => c q.1)] at ht
      rw [if_neg c, hh, hs]
      exact ih n (k + 1) g' _ _ w (by omega) (by omega) q1 hw ht
theorem same_n (hN : 600 ≤ N) {ke : RowI} {tr fo fr co ro wI hI : Int32} {Wn Hn : Nat} (hr : R21 ke tr fo fr st co ro cA cD su wI hI Wn Hn gS gA gD) : mX5_isSame N st co ro cA cD su wI hI Wn Hn gS gA gD = some (1, gS) := by
  obtain ⟨W, H, rfl, rfl, rfl, rfl, rfl, rfl, hS, hf, hZ, hA, hB⟩ := hr
  have e0 : ∀ P : Nat → Bool, fb_ct P 0 = 0 := fun P => rfl
  have h := same_70 (gS := gS) (gA := gA) (gD := gD) hN hS hZ hA hB (Wn * Hn) 37 0 (upd (upd (upd (upd (upd (upd (upd (upd (upd (fun _ => 0) 0 (nI Wn * nI Hn)) 1 (nI Wn)) 2 0) 3 0) 4 0) 5 0) 6 0) 7 0) 8 0) (-1) 99 10 (by have := dim36 hS.1; omega) (by omega) (by
    refine ⟨?_, rfl, rfl, rfl, rfl, rfl, rfl, rfl, rfl⟩
    rw [← pk_mul]
    rfl) (Or.inl ⟨rfl, rfl⟩) rfl
  rw [mX5_isSame, if_neg (show ¬ bad (0 : Int32) 9 by decide), if_neg (show ¬ bad (1 : Int32) 9 by decide), if_neg (show ¬ bad (2 : Int32) 9 by decide), if_neg (show ¬ bad (3 : Int32) 9 by decide), if_neg (show ¬ bad (4 : Int32) 9 by decide), if_neg (show ¬ bad (5 : Int32) 9 by decide), if_neg (show ¬ bad (6 : Int32) 9 by decide), if_neg (show ¬ bad (7 : Int32) 9 by decide), if_neg (show ¬ bad (8 : Int32) 9 by decide)]
  exact h
end SM2
/-! the law's start: the floor, by 26 acts -/
theorem cell_n {L k : Nat} (hL : L < 2 ^ 31) (hk : k < 2 ^ 31) (xs : Nat → Int32) : ∃ v, mL_cell L xs (nI k) = some v := by
  unfold mL_cell
  by_cases c : Int32.ofNat L ≤ nI k
  · exact ⟨_, if_pos c⟩
  · have h : k < L := by
      refine Nat.not_le.mp fun q => c ((nI_leI (a := L) (b := k) hL hk).mpr q)
    exact ⟨_, by rw [if_neg c, if_neg (bad_n h hL)]⟩
abbrev OB : Type := Int32 × RowI × Int32 × Int32 × CS × CS × Int32 × Int32 × Nat × Nat × RowR × RowR × RowR
def RB (ke : RowI) (tr fo : Int32) (su : RowJ) (o : OB) : Prop := R21 ke tr fo o.1 o.2.1 o.2.2.1 o.2.2.2.1 o.2.2.2.2.1 o.2.2.2.2.2.1 su o.2.2.2.2.2.2.1 o.2.2.2.2.2.2.2.1 o.2.2.2.2.2.2.2.2.1 o.2.2.2.2.2.2.2.2.2.1 o.2.2.2.2.2.2.2.2.2.2.1 o.2.2.2.2.2.2.2.2.2.2.2.1 o.2.2.2.2.2.2.2.2.2.2.2.2
theorem build_n {N L : Nat} (hN : 600 ≤ N) (hL : L < 2 ^ 31) (xs : Nat → Int32) {ke : RowI} {tr fo : Int32} {su : RowJ} : ∀ m n t, m < n → t + m = 26 → ∀ (fr : Int32) (st : RowI) (co ro : Int32) (cA cD : CS) (wI hI : Int32) (Wn Hn : Nat) (gS gA gD : RowR), R21 ke tr fo fr st co ro cA cD su wI hI Wn Hn gS gA gD → ∃ o, mL_build_10 L xs N n (nI t) fr st co ro cA cD wI hI Wn Hn gS gA gD = some o ∧ RB ke tr fo su o := by
  intro m
  induction m with
  | zero =>
    intro n t hn ht fr st co ro cA cD wI hI Wn Hn gS gA gD hr
    obtain ⟨n, rfl⟩ : ∃ j, n = j + 1 := ⟨n - 1, by omega⟩
    rw [mL_build_10]
    dsimp only
    rw [if_pos (show (26 : Int32) ≤ nI t by rw [show t = 26 by omega]; decide)]
    exact ⟨_, rfl, hr⟩
  | succ m ih =>
    intro n t hn ht fr st co ro cA cD wI hI Wn Hn gS gA gD hr
    obtain ⟨n, rfl⟩ : ∃ j, n = j + 1 := ⟨n - 1, by omega⟩
    obtain ⟨v, hv⟩ := cell_n (k := t % 16) hL (by omega) xs
    have er : nI t - nI t / (16 : Int32) * (16 : Int32) = nI (t % 16) := pk_rem (d := 16) (by omega) (by omega) (by omega)
    have key : ∀ y, ∃ o, mL_build_78 L xs N (mL_build_10 L xs N n) (nI t) y fr st co ro cA cD wI hI Wn Hn gS gA gD = some o ∧ RB ke tr fo su o := by
      intro y
      obtain ⟨o, q1, q2, q3⟩ := act_n (N := N) hN hr y
      rw [mL_build_78, q1, Option.bind_some, if_neg (by rw [q2]; decide), nI_1]
      exact ih n (t + 1) (by omega) (by omega) _ _ _ _ _ _ _ _ _ _ _ _ _ q3
    have key5 : ∀ y z, ∃ o, mL_build_75 L xs N (mL_build_10 L xs N n) (nI t) y z fr st co ro cA cD wI hI Wn Hn gS gA gD = some o ∧ RB ke tr fo su o := fun y z => by
      rw [mL_build_75]; exact key _
    rw [mL_build_10]
    dsimp only
    rw [if_neg (show ¬ (26 : Int32) ≤ nI t from nI_ge (a := t) (b := 26) (by omega) (by omega)), if_neg (by decide), er, hv, Option.bind_some, if_neg (by decide)]
    by_cases c : (18 : Int32) ≤ nI t
    · rw [if_pos c]; exact key _
    · obtain ⟨j, _, ej⟩ := below_n N ((v >>> (((nI t / (16 : Int32)) * (4 : Int32)) &&& 31)) + ((59 : Int32) * nI t)) (n := 100000) (by omega) (by omega)
      have ej : mL_below N ((v >>> (((nI t / (16 : Int32)) * (4 : Int32)) &&& 31)) + ((59 : Int32) * nI t)) (100000 : Int32) = some (nI j) := ej
      rw [if_neg c, ej, Option.bind_some]
      by_cases c1 : nI t = 0
      · rw [if_pos c1]; exact key5 _ _
      · rw [if_neg c1]
        by_cases c2 : (7 : Int32) ≤ nI t
        · rw [if_pos c2]; exact key5 _ _
        · rw [if_neg c2]; exact key5 _ _
