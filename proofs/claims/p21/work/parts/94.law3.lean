/-! ===== one turn of the law, whole ===== -/
theorem fok_n {c t : Nat} (c1 : 1 ≤ c) (c8 : c ≤ 8) (t1 : 1 ≤ t) (t44 : t ≤ 44) : ∃ y, y < 512 ∧ fF c t = nI (2 * y) ∧ inn (46 * c + t) 512 = inn (46 * (9 - c) + (45 - t)) 512 ∧ bcN 9 (2 * y) ≤ c ∧ (inn (46 * c + t) 512 = 1 ↔ bcN 9 (2 * y) = c) ∧ fF (9 - c) (45 - t) &&& fF c t = 0 := by
  have h := fok_all (c - 1) (by omega) (t - 1) (by omega)
  rw [show c - 1 + 1 = c by omega, show t - 1 + 1 = t by omega] at h
  unfold fok at h
  rw [Bool.and_eq_true, Bool.and_eq_true, Bool.and_eq_true, Bool.and_eq_true, Bool.and_eq_true] at h
  obtain ⟨h1, h2, h3, h4, h5, h6⟩ := h
  refine ⟨(fF c t).toNatClampNeg / 2, of_decide_eq_true h2, of_decide_eq_true h1, of_decide_eq_true h3, of_decide_eq_true h4, ?_, of_decide_eq_true h6⟩
  have h5 : decide (inn (46 * c + t) 512 = 1) = decide (bcN 9 (2 * ((fF c t).toNatClampNeg / 2)) = c) := by simpa using h5
  exact decide_eq_decide.mp h5
section LZ
variable {N : Nat} {st : RowI} {cA cD : CS} {su : RowJ} {W H : Nat} {gS gA gD : RowR} {K22 : KT22} {t3 o : Int32} {L : Nat} {xs : Nat → Int32}
theorem law_226 (hN : 600 ≤ N) (hS : ST W H st cA cD su) {k : Nat} (hk : k < W * H) (ho ke : RowI) (hc tr fo fr : Int32) (K87 : KT87) (fL : RowI) (v4 v5 v6 v7 v8 v9 v10 v11 : Int32) :
    mL_law_226 L xs N ho ke hc tr fo su t3 K22 K87 3 fL v4 v5 v6 v7 v8 v9 v10 v11 (nI k) (st k) (nI (2 * cn st cA.1 cD.1 W H k)) (nI (bq1 st cA.1 cD.1 W H k)) (0 : Int32) fr st (nI W) (nI H) cA cD (nI W) (nI H) W H gS gA gD = K87 (if bgn st true W k = true then upd (if bgn st false W k = true then upd fL 0 (fL 0 + nI (ln st false W H (bg st false W k)).length) else fL) 1 ((if bgn st false W k = true then upd fL 0 (fL 0 + nI (ln st false W H (bg st false W k)).length) else fL) 1 + nI (ln st true W H (bg st true W k)).length) else (if bgn st false W k = true then upd fL 0 (fL 0 + nI (ln st false W H (bg st false W k)).length) else fL)) v4 v5 v6 v7 (v8 + oneb (bgn st false W k) + oneb (bgn st true W k)) (v9 + oneb (wlb st cA.1 false W H k) + oneb (wlb st cD.1 true W H k)) v10 v11 (nI k + 1) fr st (nI W) (nI H) cA cD (nI W) (nI H) W H gS gA gD := by
  have a1 := law_243 (gS := gS) (gA := gA) (gD := gD) (K22 := K22) (t3 := t3) (L := L) (xs := xs) hN hS hk false ho ke hc tr fo fr K87 (mL_law_226 L xs N ho ke hc tr fo su t3 K22 K87 2) fL v4 v5 v6 v7 v8 v9 v10 v11
  have a2 := fun fL v8 v9 => law_243 (gS := gS) (gA := gA) (gD := gD) (K22 := K22) (t3 := t3) (L := L) (xs := xs) hN hS hk true ho ke hc tr fo fr K87 (mL_law_226 L xs N ho ke hc tr fo su t3 K22 K87 1) fL v4 v5 v6 v7 v8 v9 v10 v11
  rw [mL_law_226]
  dsimp only
  rw [if_neg (show ¬ (2 : Int32) ≤ 0 by decide), if_neg (show ¬ (0 : Int32) = 1 by decide)]
  refine Eq.trans a1 ?_
  rw [show nI (dn false) + 1 = (1 : Int32) from rfl, mL_law_226]
  dsimp only
  rw [if_neg (show ¬ (2 : Int32) ≤ 1 by decide), if_pos rfl]
  refine Eq.trans (a2 _ _ _) ?_
  rw [show nI (dn true) + 1 = (2 : Int32) from rfl, mL_law_226]
  dsimp only
  rw [if_pos (show (2 : Int32) ≤ 2 by decide)]
  rfl
theorem law_140 (hN : 600 ≤ N) (hS : ST W H st cA cD su) {k : Nat} (hk : k < W * H) (ho ke : RowI) (hc tr fo fr : Int32) (K87 : KT87) (fL : RowI) (v4 v5 v6 v7 v8 v9 v10 v11 : Int32) :
    mL_law_140 L xs N ho ke hc tr fo su t3 K22 K87 fL v4 v5 v6 v7 v8 v9 v10 v11 (nI k) (st k) (nI (2 * cn st cA.1 cD.1 W H k)) (nI (bq1 st cA.1 cD.1 W H k)) fr st (nI W) (nI H) cA cD (nI W) (nI H) W H gS gA gD = K87 (if bgn st true W k = true then upd (if bgn st false W k = true then upd fL 0 (fL 0 + nI (ln st false W H (bg st false W k)).length) else fL) 1 ((if bgn st false W k = true then upd fL 0 (fL 0 + nI (ln st false W H (bg st false W k)).length) else fL) 1 + nI (ln st true W H (bg st true W k)).length) else (if bgn st false W k = true then upd fL 0 (fL 0 + nI (ln st false W H (bg st false W k)).length) else fL)) v4 v5 (v6 + oneb (decide (st k ≠ -1))) (v7 + oneb (decide (0 < st k))) (v8 + oneb (bgn st false W k) + oneb (bgn st true W k)) (v9 + oneb (wlb st cA.1 false W H k) + oneb (wlb st cD.1 true W H k)) (v10 + oneb (hwc st cA.1 cD.1 W H 1 k)) (v11 + oneb (hwc st cA.1 cD.1 W H 0 k)) (nI k + 1) fr st (nI W) (nI H) cA cD (nI W) (nI H) W H gS gA gD := by
  have hD := hS.1
  have g36 := dim36 hD
  have hb9 := bq1_le st cA.1 cD.1 W H k
  obtain ⟨n1, n2⟩ := st_neg hS hk
  obtain ⟨p1, p2⟩ := even_1022 _ (cn_lt st cA.1 cD.1 W H k)
  have h1 : hwc st cA.1 cD.1 W H 1 k = decide (bq1 st cA.1 cD.1 W H k = 1) := by
    unfold hwc
    rw [show (1 : Int32) = nI 1 from rfl, bc_bq k (p := 1) (by omega)]
    by_cases c : st k = 0
    · rw [decide_eq_true c, Bool.true_and]
    · rw [decide_eq_false c, bq1_no c]; rfl
  have h0 : hwc st cA.1 cD.1 W H 0 k = (decide (st k = 0) && decide (bq1 st cA.1 cD.1 W H k = 0)) := by
    unfold hwc
    rw [show (0 : Int32) = nI 0 from rfl, bc_bq k (p := 0) (by omega)]
  have s226 := fun fL v6 v7 v10 v11 => law_226 (gS := gS) (gA := gA) (gD := gD) (K22 := K22) (t3 := t3) (L := L) (xs := xs) hN hS hk ho ke hc tr fo fr K87 fL v4 v5 v6 v7 v8 v9 v10 v11
  have s200 : ∀ (v6 v7 y : Int32), mL_law_200 L xs N ho ke hc tr fo su t3 K22 K87 fL v4 v5 v6 v7 v8 v9 v11 (nI k) (st k) (nI (2 * cn st cA.1 cD.1 W H k)) (nI (bq1 st cA.1 cD.1 W H k)) y v10 fr st (nI W) (nI H) cA cD (nI W) (nI H) W H gS gA gD = K87 (if bgn st true W k = true then upd (if bgn st false W k = true then upd fL 0 (fL 0 + nI (ln st false W H (bg st false W k)).length) else fL) 1 ((if bgn st false W k = true then upd fL 0 (fL 0 + nI (ln st false W H (bg st false W k)).length) else fL) 1 + nI (ln st true W H (bg st true W k)).length) else (if bgn st false W k = true then upd fL 0 (fL 0 + nI (ln st false W H (bg st false W k)).length) else fL)) v4 v5 v6 v7 (v8 + oneb (bgn st false W k) + oneb (bgn st true W k)) (v9 + oneb (wlb st cA.1 false W H k) + oneb (wlb st cD.1 true W H k)) (v10 + y) (v11 + oneb (hwc st cA.1 cD.1 W H 0 k)) (nI k + 1) fr st (nI W) (nI H) cA cD (nI W) (nI H) W H gS gA gD := by
    intro v6 v7 y
    rw [mL_law_200, h0]
    by_cases c : st k = 0
    · rw [if_pos c, decide_eq_true c, Bool.true_and]
      by_cases z : bq1 st cA.1 cD.1 W H k = 0
      · rw [if_pos (show nI (bq1 st cA.1 cD.1 W H k) = 0 by rw [z]; rfl), decide_eq_true z]
        exact s226 _ _ _ _ _
      · rw [if_neg (nI_ne0 (by omega) (by omega)), decide_eq_false z]
        exact s226 _ _ _ _ _
    · rw [if_neg c, decide_eq_false c, Bool.false_and]
      exact s226 _ _ _ _ _
  have s184 : ∀ (v6 y : Int32), mL_law_184 L xs N ho ke hc tr fo su t3 K22 K87 fL v4 v5 v6 v8 v9 v10 v11 (nI k) (st k) (nI (2 * cn st cA.1 cD.1 W H k)) (nI (bq1 st cA.1 cD.1 W H k)) y v7 fr st (nI W) (nI H) cA cD (nI W) (nI H) W H gS gA gD = K87 (if bgn st true W k = true then upd (if bgn st false W k = true then upd fL 0 (fL 0 + nI (ln st false W H (bg st false W k)).length) else fL) 1 ((if bgn st false W k = true then upd fL 0 (fL 0 + nI (ln st false W H (bg st false W k)).length) else fL) 1 + nI (ln st true W H (bg st true W k)).length) else (if bgn st false W k = true then upd fL 0 (fL 0 + nI (ln st false W H (bg st false W k)).length) else fL)) v4 v5 v6 (v7 + y) (v8 + oneb (bgn st false W k) + oneb (bgn st true W k)) (v9 + oneb (wlb st cA.1 false W H k) + oneb (wlb st cD.1 true W H k)) (v10 + oneb (hwc st cA.1 cD.1 W H 1 k)) (v11 + oneb (hwc st cA.1 cD.1 W H 0 k)) (nI k + 1) fr st (nI W) (nI H) cA cD (nI W) (nI H) W H gS gA gD := by
    intro v6 y
    rw [mL_law_184, h1]
    by_cases z : bq1 st cA.1 cD.1 W H k = 1
    · rw [if_pos (show nI (bq1 st cA.1 cD.1 W H k) = (1 : Int32) by rw [z]; rfl), decide_eq_true z]
      exact s200 _ _ _
    · rw [if_neg (show ¬ nI (bq1 st cA.1 cD.1 W H k) = (1 : Int32) from fun q => z ((nI_eq (b := 1) (by omega) (by omega)).mp q)), decide_eq_false z]
      exact s200 _ _ _
  have s169 : ∀ (y : Int32), mL_law_169 L xs N ho ke hc tr fo su t3 K22 K87 fL v4 v5 v7 v8 v9 v10 v11 (nI k) (st k) (nI (2 * cn st cA.1 cD.1 W H k)) (nI (bq1 st cA.1 cD.1 W H k)) y v6 fr st (nI W) (nI H) cA cD (nI W) (nI H) W H gS gA gD = K87 (if bgn st true W k = true then upd (if bgn st false W k = true then upd fL 0 (fL 0 + nI (ln st false W H (bg st false W k)).length) else fL) 1 ((if bgn st false W k = true then upd fL 0 (fL 0 + nI (ln st false W H (bg st false W k)).length) else fL) 1 + nI (ln st true W H (bg st true W k)).length) else (if bgn st false W k = true then upd fL 0 (fL 0 + nI (ln st false W H (bg st false W k)).length) else fL)) v4 v5 (v6 + y) (v7 + oneb (decide (0 < st k))) (v8 + oneb (bgn st false W k) + oneb (bgn st true W k)) (v9 + oneb (wlb st cA.1 false W H k) + oneb (wlb st cD.1 true W H k)) (v10 + oneb (hwc st cA.1 cD.1 W H 1 k)) (v11 + oneb (hwc st cA.1 cD.1 W H 0 k)) (nI k + 1) fr st (nI W) (nI H) cA cD (nI W) (nI H) W H gS gA gD := by
    intro y
    rw [mL_law_169]
    by_cases c : 0 < st k
    · rw [if_neg (Int32.not_le.mpr c), decide_eq_true c]
      exact s184 _ _
    · rw [if_pos (Int32.not_lt.mp c), decide_eq_false c]
      exact s184 _ _
  rw [mL_law_140, if_pos p1, if_pos p2]
  by_cases c : st k = -1
  · rw [if_pos (n1.mpr c), decide_eq_false (fun q => q c)]
    exact s169 _
  · rw [if_neg (fun q => c (n1.mp q)), decide_eq_true c]
    exact s169 _
theorem law_755 (hN : 600 ≤ N) (hS : ST W H st cA cD su) (hZ : RZ W H st gS) (hA : RZ W H cA.1 gA) (hB : RZ W H cD.1 gD) (hK : KH su t3 K22 o) (ho ke : RowI) (hc tr fo fr : Int32) (hf : FR W H st cA cD ke tr fo fr) {c t : Nat} (c1 : 1 ≤ c) (c8 : c ≤ 8) (t1 : 1 ≤ t) (t44 : t ≤ 44) :
    mL_law_755 L xs N ho ke hc tr fo su t3 K22 (nI (W * H)) (nI (fb_ct (fun k => decide (st k ≠ -1)) (W * H))) (nI (fb_ct (fun k => decide (0 < st k)) (W * H))) (nI (fb_ct (bgn st false W) (W * H) + fb_ct (bgn st true W) (W * H))) (nI (fb_ct (wlb st cA.1 false W H) (W * H) + fb_ct (wlb st cD.1 true W H) (W * H))) (nI (fb_ct (hwc st cA.1 cD.1 W H 0) (W * H))) (nI c) (nI t) (fF c t) fr st (nI W) (nI H) cA cD (nI W) (nI H) W H gS gA gD = some o := by
  have hD := hS.1
  have g36 := dim36 hD
  obtain ⟨y, y1, y2, y3, y4, y5, y6⟩ := fok_n c1 c8 t1 t44
  have af := a_forced (N := N) hN (c := 9 - c) (t := 45 - t) (by omega) (by omega) (by omega) (by omega)
  have af : mX4_forced N (nI (9 - c)) (nI (45 - t)) = some (.inr (fF (9 - c) (45 - t))) := af
  have l3 := fb_ct_le (bgn st false W) (W * H)
  have l4 := fb_ct_le (bgn st true W) (W * H)
  have l5 := fb_ct_le (wlb st cA.1 false W H) (W * H)
  have l6 := fb_ct_le (wlb st cD.1 true W H) (W * H)
  obtain ⟨ho1, ke1, hc1, tr1, fo1, fr1, e1, hf1⟩ := a_digest hN hS hf ho hc
  obtain ⟨hI, ho2, ke2, hc2, tr2, fo2, fr2, e2, hf2⟩ := a_fill hN hS hf1 ho1 hc1
  obtain ⟨ho3, ke3, hc3, tr3, fo3, fr3, e3, hf3⟩ := a_tries hN hS hf2 ho2 hc2
  have h818 := law_818 (gS := gS) (gA := gA) (gD := gD) (L := L) (xs := xs) hN hS hZ hA hB hK ho3 ke3 hc3 tr3 fo3 fr3 hf3
  rw [mL_law_755, show (9 : Int32) - nI c = nI (9 - c) from pk_sub (a := 9) (by omega), show (45 : Int32) - nI t = nI (45 - t) from pk_sub (a := 45) (by omega), af]
  dsimp only [Option.bind_some, Sum.elim_inr]
  rw [if_pos y6, e1, Option.bind_some]
  dsimp only
  rw [e2, Option.bind_some]
  dsimp only
  rw [e3, Option.bind_some]
  dsimp only
  rw [a_next hN hS, Option.bind_some]
  by_cases v : nI (fb_ct (bgn st false W) (W * H) + fb_ct (bgn st true W) (W * H)) ≤ nI (fb_ct (wlb st cA.1 false W H) (W * H) + fb_ct (wlb st cD.1 true W H) (W * H))
  · rw [if_pos v]
    exact h818
  · have ha : aw st cA.1 cD.1 W H = false := by
      cases q : aw st cA.1 cD.1 W H
      · rfl
      · exact absurd (nI_le (Nat.le_of_eq ((aw_ct hD).mp q).symm) (by omega)) v
    have hr := res_0 ha
    rw [if_neg v, if_pos (show tld (res st cA.1 cD.1 W H) = 0 by rw [hr]; rfl), if_pos (show nI (res st cA.1 cD.1 W H).1 = 0 by rw [hr]; rfl)]
    exact h818
theorem law_87 (hN : 600 ≤ N) (hS : ST W H st cA cD su) (hZ : RZ W H st gS) (hA : RZ W H cA.1 gA) (hB : RZ W H cD.1 gD) (hK : KH su t3 K22 o) (ho ke : RowI) (hc tr fo fr : Int32) (hf : FR W H st cA cD ke tr fo fr) (v4 : Int32) : ∀ m n k (fL : RowI), m < n → k + m = W * H → fL 0 = nI (sL st false W H k) → fL 1 = nI (sL st true W H k) →
    mL_law_87 L xs N ho ke hc tr fo su t3 K22 n fL v4 (nI (W * H)) (nI (fb_ct (fun k => decide (st k ≠ -1)) k)) (nI (fb_ct (fun k => decide (0 < st k)) k)) (nI (fb_ct (bgn st false W) k + fb_ct (bgn st true W) k)) (nI (fb_ct (wlb st cA.1 false W H) k + fb_ct (wlb st cD.1 true W H) k)) (nI (fb_ct (hwc st cA.1 cD.1 W H 1) k)) (nI (fb_ct (hwc st cA.1 cD.1 W H 0) k)) (nI k) fr st (nI W) (nI H) cA cD (nI W) (nI H) W H gS gA gD = some o := by
  have hD := hS.1
  have g36 := dim36 hD
  intro m
  induction m with
  | zero =>
    intro n k fL hn hk f0 f1
    obtain ⟨n, rfl⟩ : ∃ j, n = j + 1 := ⟨n - 1, by omega⟩
    obtain rfl : k = W * H := by omega
    have cnt : ∀ v, v ≤ 8 → mX4_count N st (nI W) (nI H) cA cD su (nI v) = some (.inr (tal st cA.1 cD.1 W H (nI v))) := fun v hv => a_count hN hS hv
    have k2 : mX4_count N st (nI W) (nI H) cA cD su (2 : Int32) = some (.inr (tal st cA.1 cD.1 W H (2 : Int32))) := cnt 2 (by omega)
    have k3 : mX4_count N st (nI W) (nI H) cA cD su (3 : Int32) = some (.inr (tal st cA.1 cD.1 W H (3 : Int32))) := cnt 3 (by omega)
    have k4 : mX4_count N st (nI W) (nI H) cA cD su (4 : Int32) = some (.inr (tal st cA.1 cD.1 W H (4 : Int32))) := cnt 4 (by omega)
    have k5 : mX4_count N st (nI W) (nI H) cA cD su (5 : Int32) = some (.inr (tal st cA.1 cD.1 W H (5 : Int32))) := cnt 5 (by omega)
    have k6 : mX4_count N st (nI W) (nI H) cA cD su (6 : Int32) = some (.inr (tal st cA.1 cD.1 W H (6 : Int32))) := cnt 6 (by omega)
    have k7 : mX4_count N st (nI W) (nI H) cA cD su (7 : Int32) = some (.inr (tal st cA.1 cD.1 W H (7 : Int32))) := cnt 7 (by omega)
    have k8 : mX4_count N st (nI W) (nI H) cA cD su (8 : Int32) = some (.inr (tal st cA.1 cD.1 W H (8 : Int32))) := cnt 8 (by omega)
    have l3 := fb_ct_le (bgn st false W) (W * H)
    have l4 := fb_ct_le (bgn st true W) (W * H)
    have sm : fb_ct (smb st cA.1 false W) (W * H) + fb_ct (smb st cD.1 true W) (W * H) ≤ fb_ct (bgn st false W) (W * H) + fb_ct (bgn st true W) (W * H) := by
      refine Nat.add_le_add (fb_ct_sub fun j _ h => ?_) (fb_ct_sub fun j _ h => ?_)
      · unfold smb at h; rw [Bool.and_eq_true] at h; exact h.1
      · unfold smb at h; rw [Bool.and_eq_true] at h; exact h.1
    obtain ⟨a, ha, ea⟩ := below_n N (v4 >>> ((3 : Int32) &&& 31)) (n := 8) (by omega) (by omega)
    have ea : mL_below N (v4 >>> ((3 : Int32) &&& 31)) (8 : Int32) = some (nI a) := ea
    obtain ⟨b, hb, eb⟩ := below_n N (v4 >>> ((5 : Int32) &&& 31)) (n := 44) (by omega) (by omega)
    have eb : mL_below N (v4 >>> ((5 : Int32) &&& 31)) (44 : Int32) = some (nI b) := eb
    have s1 : (1 : Int32) + nI a = nI (1 + a) := nI_add 1 a
    have s2 : (1 : Int32) + nI b = nI (1 + b) := nI_add 1 b
    obtain ⟨y, y1, y2, y3, y4, y5, y6⟩ := fok_n (c := 1 + a) (t := 1 + b) (by omega) (by omega) (by omega) (by omega)
    have w1 := a_ways (N := N) hN (c := 1 + a) (t := 1 + b) (by omega) (by omega) (by omega) (by omega)
    have w2 := a_forced (N := N) hN (c := 1 + a) (t := 1 + b) (by omega) (by omega) (by omega) (by omega)
    have w2 : mX4_forced N (nI (1 + a)) (nI (1 + b)) = some (.inr (fF (1 + a) (1 + b))) := w2
    have w3 := a_ways (N := N) hN (c := 9 - (1 + a)) (t := 45 - (1 + b)) (by omega) (by omega) (by omega) (by omega)
    have hi : inn (46 * (1 + a) + (1 + b)) 512 ≤ 512 := fb_ct_le _ _
    have hm : mX5_many N (fF (1 + a) (1 + b)) = some (nI (bcN 9 (2 * y))) := by rw [y2]; exact many_n hN y y1
    have h755 := law_755 (gS := gS) (gA := gA) (gD := gD) (L := L) (xs := xs) hN hS hZ hA hB hK ho ke hc tr fo fr hf (c := 1 + a) (t := 1 + b) (by omega) (by omega) (by omega) (by omega)
    have h739 : mL_law_739 L xs N ho ke hc tr fo su t3 K22 (nI (W * H)) (nI (fb_ct (fun k => decide (st k ≠ -1)) (W * H))) (nI (fb_ct (fun k => decide (0 < st k)) (W * H))) (nI (fb_ct (bgn st false W) (W * H) + fb_ct (bgn st true W) (W * H))) (nI (fb_ct (wlb st cA.1 false W H) (W * H) + fb_ct (wlb st cD.1 true W H) (W * H))) (nI (fb_ct (hwc st cA.1 cD.1 W H 0) (W * H))) (nI (1 + a)) (nI (1 + b)) (nI (inn (46 * (1 + a) + (1 + b)) 512)) (fF (1 + a) (1 + b)) fr st (nI W) (nI H) cA cD (nI W) (nI H) W H gS gA gD = some o := by
      rw [mL_law_739]
      by_cases c : nI (inn (46 * (1 + a) + (1 + b)) 512) = (1 : Int32)
      · have c2 := (nI_eq (b := 1) (by omega) (by omega)).mp c
        rw [if_pos c, hm, Option.bind_some, if_pos (by rw [y5.mp c2])]
        exact h755
      · rw [if_neg c]
        exact h755
    have h729 : inn (46 * (1 + a) + (1 + b)) 512 ≠ 1 → mL_law_729 L xs N ho ke hc tr fo su t3 K22 (nI (W * H)) (nI (fb_ct (fun k => decide (st k ≠ -1)) (W * H))) (nI (fb_ct (fun k => decide (0 < st k)) (W * H))) (nI (fb_ct (bgn st false W) (W * H) + fb_ct (bgn st true W) (W * H))) (nI (fb_ct (wlb st cA.1 false W H) (W * H) + fb_ct (wlb st cD.1 true W H) (W * H))) (nI (fb_ct (hwc st cA.1 cD.1 W H 0) (W * H))) (nI (1 + a)) (nI (1 + b)) (nI (inn (46 * (1 + a) + (1 + b)) 512)) (fF (1 + a) (1 + b)) fr st (nI W) (nI H) cA cD (nI W) (nI H) W H gS gA gD = some o := by
      intro c
      rw [mL_law_729, hm, Option.bind_some, if_neg (fun q => c (y5.mpr ((nI_eq (by omega) (by omega)).mp q)))]
      exact h739
    rw [mL_law_87]
    dsimp only
    rw [if_pos (nI_le (Nat.le_refl _) (by omega)), if_neg (show ¬ bad (0 : Int32) 2 by decide), t_0, f0, sL_n hD, if_pos rfl, if_neg (show ¬ bad (1 : Int32) 2 by decide), t_1, f1, sL_n hD, if_pos rfl, k2]
    dsimp only [Option.bind_some, Sum.elim_inr]
    rw [tal_2, if_pos rfl, k3]
    dsimp only [Option.bind_some, Sum.elim_inr]
    rw [tal_3, if_pos rfl, k4]
    dsimp only [Option.bind_some, Sum.elim_inr]
    rw [tal_4, if_pos rfl, k6]
    dsimp only [Option.bind_some, Sum.elim_inr]
    rw [tal_6, if_pos rfl, k7]
    dsimp only [Option.bind_some, Sum.elim_inr]
    rw [tal_7, if_pos rfl, k8]
    dsimp only [Option.bind_some, Sum.elim_inr]
    rw [tal_8, if_pos rfl, k5]
    dsimp only [Option.bind_some, Sum.elim_inr]
    rw [tal_5, if_pos (nI_le sm (by omega)), ea, Option.bind_some, eb, Option.bind_some, s1, s2, w1]
    dsimp only [Option.bind_some, Sum.elim_inr]
    rw [w2]
    dsimp only [Option.bind_some, Sum.elim_inr]
    rw [show (9 : Int32) - nI (1 + a) = nI (9 - (1 + a)) from pk_sub (a := 9) (by omega), show (45 : Int32) - nI (1 + b) = nI (45 - (1 + b)) from pk_sub (a := 45) (by omega), w3]
    dsimp only [Option.bind_some, Sum.elim_inr]
    rw [if_pos (by rw [y3]), hm, Option.bind_some, if_neg (nI_nlt y4 (by omega))]
    by_cases z : nI (inn (46 * (1 + a) + (1 + b)) 512) = 0
    · have z2 := (nI_eq (b := 0) (by omega) (by omega)).mp z
      rw [if_pos z]
      exact h729 (by omega)
    · rw [if_neg z]
      by_cases z1 : nI (inn (46 * (1 + a) + (1 + b)) 512) ≤ (1 : Int32)
      · rw [if_pos z1]
        exact h739
      · rw [if_neg z1]
        exact h729 (fun q => z1 (by rw [q]; decide))
  | succ m ih =>
    intro n k fL hn hk f0 f1
    obtain ⟨n, rfl⟩ : ∃ j, n = j + 1 := ⟨n - 1, by omega⟩
    have hk2 : k < W * H := by omega
    have mk := many_n hN (cn st cA.1 cD.1 W H k) (cn_lt _ _ _ _ _ _)
    have mk : mX5_many N (nI (2 * cn st cA.1 cD.1 W H k)) = some (nI (bq1 st cA.1 cD.1 W H k)) := mk
    have h140 := law_140 (gS := gS) (gA := gA) (gD := gD) (K22 := K22) (t3 := t3) (L := L) (xs := xs) hN hS hk2 ho ke hc tr fo fr (mL_law_87 L xs N ho ke hc tr fo su t3 K22 n) fL v4 (nI (W * H)) (nI (fb_ct (fun k => decide (st k ≠ -1)) k)) (nI (fb_ct (fun k => decide (0 < st k)) k)) (nI (fb_ct (bgn st false W) k + fb_ct (bgn st true W) k)) (nI (fb_ct (wlb st cA.1 false W H) k + fb_ct (wlb st cD.1 true W H) k)) (nI (fb_ct (hwc st cA.1 cD.1 W H 1) k)) (nI (fb_ct (hwc st cA.1 cD.1 W H 0) k))
    have hs9 : ¬ st k < (-1 : Int32) ∧ ¬ (9 : Int32) < st k := by
      rcases hS.2.1 k (by omega) with q | ⟨v, hv, q⟩
      · rw [q]; decide
      · rw [q]
        have key : ∀ v, v < 10 → ¬ nI v < (-1 : Int32) ∧ ¬ (9 : Int32) < nI v := by decide
        exact key v (by omega)
    have go := ih n (k + 1) (if bgn st true W k = true then upd (if bgn st false W k = true then upd fL 0 (fL 0 + nI (ln st false W H (bg st false W k)).length) else fL) 1 ((if bgn st false W k = true then upd fL 0 (fL 0 + nI (ln st false W H (bg st false W k)).length) else fL) 1 + nI (ln st true W H (bg st true W k)).length) else (if bgn st false W k = true then upd fL 0 (fL 0 + nI (ln st false W H (bg st false W k)).length) else fL)) (by omega) (by omega) (by
      by_cases c : bgn st true W k = true
      · rw [if_pos c, upd_n (by omega)]
        by_cases c2 : bgn st false W k = true
        · rw [if_pos c2, upd_s, f0, nI_add, sL, if_pos c2, (bgn_t.mp c2).2]
        · rw [if_neg c2, f0, sL, if_neg c2, Nat.add_zero]
      · rw [if_neg c]
        by_cases c2 : bgn st false W k = true
        · rw [if_pos c2, upd_s, f0, nI_add, sL, if_pos c2, (bgn_t.mp c2).2]
        · rw [if_neg c2, f0, sL, if_neg c2, Nat.add_zero]) (by
      have e1 : (if bgn st false W k = true then upd fL 0 (fL 0 + nI (ln st false W H (bg st false W k)).length) else fL) 1 = fL 1 := by
        by_cases c2 : bgn st false W k = true
        · rw [if_pos c2, upd_n (by omega)]
        · rw [if_neg c2]
      by_cases c : bgn st true W k = true
      · rw [if_pos c, upd_s, e1, f1, nI_add, sL, if_pos c, (bgn_t.mp c).2]
      · rw [if_neg c, e1, f1, sL, if_neg c, Nat.add_zero])
    rw [ct_o, ct_o, ct_oo, ct_oo, ct_o, ct_o, nI_1, go] at h140
    rw [mL_law_87]
    dsimp only
    rw [if_neg (nI_ge hk2 (by omega)), a_stone hS hk2]
    dsimp only [Option.bind_some, Sum.elim_inr]
    rw [a_can hN hS hk2]
    dsimp only [Option.bind_some, Sum.elim_inr]
    rw [mk, Option.bind_some, if_neg hs9.1, if_neg hs9.2]
    by_cases z : st k = 0
    · rw [if_pos z]
      exact h140
    · rw [if_neg z, if_pos (show nI (2 * cn st cA.1 cD.1 W H k) = 0 by rw [cn_no z]; rfl)]
      exact h140
end LZ
/-- one turn -/
theorem law_n {N : Nat} (hN : 600 ≤ N) {L : Nat} (hL : L < 2 ^ 31) {xs : Nat → Int32} {t : Nat} (ht : t < 2 ^ 31) {K22 : KT22} {o : Int32} {su : RowJ} (hK : KH su (nI t) K22 o) (ho ke : RowI) (hc tr fo fr : Int32) (st : RowI) (co ro : Int32) (cA cD : CS) (wI hI : Int32) (Wn Hn : Nat) (gS gA gD : RowR) (hr : R21 ke tr fo fr st co ro cA cD su wI hI Wn Hn gS gA gD) : mL_law_e L xs N ho ke hc tr fo fr st co ro cA cD su wI hI Wn Hn gS gA gD (nI t) K22 = some o := by
  obtain ⟨v, hv⟩ := cell_n hL ht xs
  obtain ⟨o1, q1, q2, q3⟩ := act_n (N := N) hN hr ((v >>> ((2 : Int32) &&& 31)) + ((53 : Int32) * nI t))
  obtain ⟨a1, fr1, st1, co1, ro1, cA1, cD1, wI1, hI1, Wn1, Hn1, gS1, gA1, gD1⟩ := o1
  have q9 : a1 = 1 := q2
  have q3 : R21 ke tr fo fr1 st1 co1 ro1 cA1 cD1 su wI1 hI1 Wn1 Hn1 gS1 gA1 gD1 := q3
  obtain ⟨W, H, rfl, rfl, rfl, rfl, rfl, rfl, hS, hf, hZ, hA, hB⟩ := q3
  have c0 := a_count hN hS (v := 0) (by omega)
  have c0 : mX4_count N st1 (nI Wn1) (nI Hn1) cA1 cD1 su (0 : Int32) = some (.inr (tal st1 cA1.1 cD1.1 Wn1 Hn1 (0 : Int32))) := c0
  have h := law_87 (K22 := K22) (t3 := nI t) (o := o) (L := L) (xs := xs) hN hS hZ hA hB hK ho ke hc tr fo fr1 hf ((v >>> ((2 : Int32) &&& 31)) + ((53 : Int32) * nI t)) (Wn1 * Hn1) 37 0 (fun _ => 0) (by have := dim36 hS.1; omega) (by omega) rfl rfl
  rw [mL_law_e, hv, Option.bind_some, q1, Option.bind_some]
  dsimp only
  rw [if_neg (show ¬ a1 = 0 by rw [q9]; decide), c0]
  dsimp only [Option.bind_some, Sum.elim_inr]
  rw [tal_0]
  exact h
