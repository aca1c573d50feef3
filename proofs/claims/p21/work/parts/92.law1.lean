/-! ===== one turn of the law, from its end ===== -/
abbrev KT22 : Type := Int32 → RowI → RowI → Int32 → Int32 → Int32 → Int32 → RowI → Int32 → Int32 → CS → CS → Int32 → Int32 → Nat → Nat → RowR → RowR → RowR → Option Int32
def KH (su : RowJ) (t3 : Int32) (K22 : KT22) (o : Int32) : Prop := ∀ (ho ke : RowI) (hc tr fo fr : Int32) (st : RowI) (co ro : Int32) (cA cD : CS) (wI hI : Int32) (Wn Hn : Nat) (gS gA gD : RowR), R21 ke tr fo fr st co ro cA cD su wI hI Wn Hn gS gA gD → K22 (t3 + 1) ho ke hc tr fo fr st co ro cA cD wI hI Wn Hn gS gA gD = some o
theorem cmp_self (x : Int64) : lg_cmp x x = 0 := by
  unfold lg_cmp
  simp
section TT
variable {W H : Nat} {f uA uD : RowI}
theorem tal_0 : tal f uA uD W H 0 = nI (W * H) := by unfold tal; rw [if_pos rfl]
theorem tal_2 : tal f uA uD W H 2 = nI (fb_ct (fun k => decide (f k ≠ -1)) (W * H)) := by unfold tal; rw [if_neg (by decide), if_neg (by decide), if_pos rfl]
theorem tal_3 : tal f uA uD W H 3 = nI (fb_ct (fun k => decide (0 < f k)) (W * H)) := by unfold tal; rw [if_neg (by decide), if_neg (by decide), if_neg (by decide), if_pos rfl]
theorem tal_4 : tal f uA uD W H 4 = nI (fb_ct (bgn f false W) (W * H) + fb_ct (bgn f true W) (W * H)) := by unfold tal; rw [if_neg (by decide), if_neg (by decide), if_neg (by decide), if_neg (by decide), if_pos rfl]
theorem tal_5 : tal f uA uD W H 5 = nI (fb_ct (smb f uA false W) (W * H) + fb_ct (smb f uD true W) (W * H)) := by unfold tal; rw [if_neg (by decide), if_neg (by decide), if_neg (by decide), if_neg (by decide), if_neg (by decide), if_pos rfl]
theorem tal_6 : tal f uA uD W H 6 = nI (fb_ct (wlb f uA false W H) (W * H) + fb_ct (wlb f uD true W H) (W * H)) := by unfold tal; rw [if_neg (by decide), if_neg (by decide), if_neg (by decide), if_neg (by decide), if_neg (by decide), if_neg (by decide), if_pos rfl]
theorem tal_7 : tal f uA uD W H 7 = nI (fb_ct (hwc f uA uD W H 1) (W * H)) := by unfold tal; rw [if_neg (by decide), if_neg (by decide), if_neg (by decide), if_neg (by decide), if_neg (by decide), if_neg (by decide), if_neg (by decide), if_pos rfl]
theorem tal_8 : tal f uA uD W H 8 = nI (fb_ct (hwc f uA uD W H 0) (W * H)) := by unfold tal; rw [if_neg (by decide), if_neg (by decide), if_neg (by decide), if_neg (by decide), if_neg (by decide), if_neg (by decide), if_neg (by decide), if_neg (by decide)]
theorem hwc_iff {p k : Nat} (hp : p < 2 ^ 31) : hwc f uA uD W H (nI p) k = true ↔ f k = 0 ∧ bq1 f uA uD W H k = p := by
  unfold hwc
  rw [bc_bq k hp, Bool.and_eq_true, decide_eq_true_iff, decide_eq_true_iff]
end TT
section LW
variable {N : Nat} {st : RowI} {cA cD : CS} {su : RowJ} {W H : Nat} {gS gA gD : RowR} {K22 : KT22} {t3 o : Int32} {L : Nat} {xs : Nat → Int32}
theorem law_1005 (hN : 600 ≤ N) (hS : ST W H st cA cD su) (hZ : RZ W H st gS) (hA : RZ W H cA.1 gA) (hB : RZ W H cD.1 gD) (hK : KH su t3 K22 o) : ∀ m n k (ho ke : RowI) (hc tr fo fr : Int32), m < n → k + m = W * H → FR W H st cA cD ke tr fo fr →
    mL_law_1005 L xs N su t3 K22 n (nI (W * H)) (nI (fb_ct (fun k => decide (0 < st k)) (W * H))) (dig st cA.1 cD.1 W H) (tld (res st cA.1 cD.1 W H)) (nI k) ho ke hc tr fo fr st (nI W) (nI H) cA cD (nI W) (nI H) W H gS gA gD = some o := by
  have hD := hS.1
  have g36 := dim36 hD
  obtain ⟨hI, hT, _⟩ := res_good (uA := cA.1) (uD := cD.1) hD hS.2.1
  intro m
  induction m with
  | zero =>
    intro n k ho ke hc tr fo fr hn hk hf
    obtain ⟨n, rfl⟩ : ∃ j, n = j + 1 := ⟨n - 1, by omega⟩
    obtain ⟨ho1, ke1, hc1, tr1, fo1, fr1, e1, hf1⟩ := a_digest hN hS hf ho hc
    rw [mL_law_1005]
    dsimp only
    rw [if_pos (nI_le (by omega) (by omega)), e1, Option.bind_some]
    dsimp only
    rw [if_pos (cmp_self _), if_neg (show ¬ (3 : Int32) = 0 by decide)]
    by_cases ht : (2 : Int32) ≤ (t3 - t3 / (3 : Int32) * (3 : Int32))
    · obtain ⟨gS', z1, z2⟩ := forceZ hN hD hA hB hS.2.2.2.2.1 hS.2.2.2.2.2.1 36 37 st gS (zrs_le st) (by omega) hS.2.1 hZ
      obtain ⟨s1, s2, s3, s4⟩ := frc_ok 36 0 st (zrs_le st) hS
      have c3 := a_count hN s1 (v := 3) (by omega)
      have c3 : mX4_count N _ (nI W) (nI H) cA cD su (3 : Int32) = some (.inr (tal _ cA.1 cD.1 W H (3 : Int32))) := c3
      have c7 := a_count hN s1 (v := 7) (by omega)
      have c7 : mX4_count N _ (nI W) (nI H) cA cD su (7 : Int32) = some (.inr (tal _ cA.1 cD.1 W H (7 : Int32))) := c7
      have h7 : fb_ct (hwc (frc cA.1 cD.1 W H 36 0 st).2 cA.1 cD.1 W H 1) (W * H) = 0 := fb_ct_zero.mpr fun j hj => by
        cases q : hwc (frc cA.1 cD.1 W H 36 0 st).2 cA.1 cD.1 W H 1 j
        · rfl
        · exact absurd ((hwc_iff (p := 1) (by omega)).mp q).2 (sgl_none _ _ s3 j (Nat.zero_le _) (by omega))
      have hr2 : ∀ ke2 tr2 fo2 fr2, FR W H (frc cA.1 cD.1 W H 36 0 st).2 cA cD ke2 tr2 fo2 fr2 → R21 ke2 tr2 fo2 fr2 (frc cA.1 cD.1 W H 36 0 st).2 (nI W) (nI H) cA cD su (nI W) (nI H) W H gS' gA gD := fun _ _ _ _ h => ⟨W, H, rfl, rfl, rfl, rfl, rfl, rfl, s1, h, z2, hA, hB⟩
      have hf0 : FR W H (frc cA.1 cD.1 W H 36 0 st).2 cA cD ke1 tr1 fo1 0 := Or.inl rfl
      rw [if_pos ht, a_force hN hS, Option.bind_some]
      dsimp only
      rw [z1, Option.bind_some]
      dsimp only
      rw [if_pos rfl, c3]
      dsimp only [Option.bind_some, Sum.elim_inr]
      rw [tal_3, if_pos (by rw [nI_add]; congr 1), c7]
      dsimp only [Option.bind_some, Sum.elim_inr]
      rw [tal_7, h7, if_pos (show nI 0 = 0 from rfl)]
      by_cases v : tld (res st cA.1 cD.1 W H) < 0
      · rw [if_pos v]
        exact hK _ _ _ _ _ _ _ _ _ _ _ _ _ _ _ _ _ _ (hr2 _ _ _ _ hf0)
      · obtain ⟨hI2, ho2, ke2, hc2, tr2, fo2, fr2, e2, hf2⟩ := a_fill hN s1 hf0 ho1 hc1
        rw [if_neg v, e2, Option.bind_some]
        dsimp only
        by_cases v2 : tld (res (frc cA.1 cD.1 W H 36 0 st).2 cA.1 cD.1 W H) < 0
        · rw [if_pos v2]
          exact hK _ _ _ _ _ _ _ _ _ _ _ _ _ _ _ _ _ _ (hr2 _ _ _ _ hf2)
        · obtain ⟨_, ho3, ke3, hc3, tr3, fo3, fr3, e3, hf3⟩ := a_fill hN s1 hf2 ho2 hc2
          obtain ⟨_, hT2, _⟩ := res_good (uA := cA.1) (uD := cD.1) hD s1.2.1
          have he : tld (res (frc cA.1 cD.1 W H 36 0 st).2 cA.1 cD.1 W H) = tld (res st cA.1 cD.1 W H) := by
            rcases tld_n hI with ⟨a1, a2⟩ | ⟨a1, a2, _⟩
            · rw [a2] at v; exact absurd (by decide) v
            · rcases tld_n hI2 with ⟨b1, b2⟩ | ⟨b1, b2, _⟩
              · rw [b2] at v2; exact absurd (by decide) v2
              · rw [a2, b2, hT a1, hT2 b1, s4]
          rw [if_neg v2, e3, Option.bind_some]
          dsimp only
          rw [if_pos he]
          exact hK _ _ _ _ _ _ _ _ _ _ _ _ _ _ _ _ _ _ (hr2 _ _ _ _ hf3)
    · rw [if_neg ht]
      exact hK _ _ _ _ _ _ _ _ _ _ _ _ _ _ _ _ _ _ ⟨W, H, rfl, rfl, rfl, rfl, rfl, rfl, hS, hf1, hZ, hA, hB⟩
  | succ m ih =>
    intro n k ho ke hc tr fo fr hn hk hf
    obtain ⟨n, rfl⟩ : ∃ j, n = j + 1 := ⟨n - 1, by omega⟩
    have hk2 : k < W * H := by omega
    obtain ⟨ho1, ke1, hc1, tr1, fo1, fr1, e1, hf1⟩ := a_solved hN hS hf ho hc hk2
    obtain ⟨sv0, sv1⟩ := slv_n (uA := cA.1) (uD := cD.1) hD hS.2.1 hk2
    have go := ih n (k + 1) ho1 ke1 hc1 tr1 fo1 fr1 (by omega) (by omega) hf1
    rw [mL_law_1005]
    dsimp only
    rw [if_neg (nI_ge hk2 (by omega)), e1]
    dsimp only [Option.bind_some, Sum.elim_inr]
    by_cases v : (1 : Int32) ≤ tld (res st cA.1 cD.1 W H)
    · obtain ⟨w1, w2⟩ := sv1 v
      rw [if_pos v, a_stone hS hk2]
      dsimp only [Option.bind_some, Sum.elim_inr]
      by_cases z : st k = 0
      · obtain ⟨y, y1, y9, e, hb⟩ := w2 z
        rw [if_pos z, e, if_neg (show ¬ nI y < (1 : Int32) from nI_nlt (a := y) (b := 1) (by omega) (by omega)), a_can hN hS hk2]
        dsimp only [Option.bind_some, Sum.elim_inr]
        rw [shr_bit _ (cn_lt _ _ _ _ _ _) y (by omega), if_pos hb, if_neg (show ¬ (1 : Int32) = 0 by decide), nI_1]
        exact go
      · rw [if_neg z, w1 z, if_pos rfl, nI_1]
        exact go
    · rw [if_neg v, sv0 v, if_pos rfl, nI_1]
      exact go
/-- next is a cell with the fewest -/
theorem law_929 (hN : 600 ≤ N) (hS : ST W H st cA cD su) (hZ : RZ W H st gS) (hA : RZ W H cA.1 gA) (hB : RZ W H cD.1 gD) (hK : KH su t3 K22 o) {j : Nat} (hj : j < W * H) (h6 : ∀ i, i < W * H → st i = 0 → bq1 st cA.1 cD.1 W H j ≤ bq1 st cA.1 cD.1 W H i) (h7 : ∀ i, i < j → st i = 0 → bq1 st cA.1 cD.1 W H j < bq1 st cA.1 cD.1 W H i) (ho ke : RowI) (hc tr fo fr : Int32) (hf : FR W H st cA cD ke tr fo fr) : ∀ m n k, m < n → k + m = W * H →
    mL_law_929 L xs N su t3 K22 n (nI (W * H)) (nI (fb_ct (fun k => decide (0 < st k)) (W * H))) (dig st cA.1 cD.1 W H) (tld (res st cA.1 cD.1 W H)) (nI j) (nI k) ho ke hc tr fo fr st (nI W) (nI H) cA cD (nI W) (nI H) W H gS gA gD = some o := by
  have hD := hS.1
  have g36 := dim36 hD
  intro m
  induction m with
  | zero =>
    intro n k hn hk
    obtain ⟨n, rfl⟩ : ∃ j, n = j + 1 := ⟨n - 1, by omega⟩
    rw [mL_law_929]
    dsimp only
    rw [if_pos (nI_le (by omega) (by omega))]
    exact law_1005 hN hS hZ hA hB hK (W * H) 37 0 _ _ _ _ _ _ (by omega) (by omega) hf
  | succ m ih =>
    intro n k hn hk
    obtain ⟨n, rfl⟩ : ∃ j, n = j + 1 := ⟨n - 1, by omega⟩
    have hk2 : k < W * H := by omega
    have go := ih n (k + 1) (by omega) (by omega)
    have b1 := bq1_le st cA.1 cD.1 W H j
    have b2 := bq1_le st cA.1 cD.1 W H k
    have mj := many_n hN (cn st cA.1 cD.1 W H j) (cn_lt _ _ _ _ _ _)
    have mk := many_n hN (cn st cA.1 cD.1 W H k) (cn_lt _ _ _ _ _ _)
    have mj : mX5_many N (nI (2 * cn st cA.1 cD.1 W H j)) = some (nI (bq1 st cA.1 cD.1 W H j)) := mj
    have mk : mX5_many N (nI (2 * cn st cA.1 cD.1 W H k)) = some (nI (bq1 st cA.1 cD.1 W H k)) := mk
    rw [mL_law_929]
    dsimp only
    rw [if_neg (nI_ge hk2 (by omega)), a_stone hS hk2]
    dsimp only [Option.bind_some, Sum.elim_inr]
    by_cases z : st k = 0
    · have q6 := h6 k hk2 z
      rw [if_pos z, a_can hN hS hk2]
      dsimp only [Option.bind_some, Sum.elim_inr]
      rw [mk, Option.bind_some, a_can hN hS hj]
      dsimp only [Option.bind_some, Sum.elim_inr]
      rw [mj, Option.bind_some, if_neg (nI_nlt q6 (by omega))]
      by_cases c : nI j ≤ nI k
      · rw [if_pos c, nI_1]; exact go
      · have hkj : k < j := by
          refine Nat.not_le.mp fun q => c ?_
          exact nI_le q (by omega)
        have q7 := h7 k hkj z
        rw [if_neg c, Option.bind_some, if_neg (fun q => by have := (nI_eq (a := bq1 st cA.1 cD.1 W H k) (b := bq1 st cA.1 cD.1 W H j) (by omega) (by omega)).mp q; omega), nI_1]
        exact go
    · rw [if_neg z, nI_1]; exact go
/-- from the comparison of the search with the counts -/
theorem law_818 (hN : 600 ≤ N) (hS : ST W H st cA cD su) (hZ : RZ W H st gS) (hA : RZ W H cA.1 gA) (hB : RZ W H cD.1 gD) (hK : KH su t3 K22 o) (ho ke : RowI) (hc tr fo fr : Int32) (hf : FR W H st cA cD ke tr fo fr) :
    mL_law_818 L xs N su t3 K22 (nI (W * H)) (nI (fb_ct (fun k => decide (st k ≠ -1)) (W * H))) (nI (fb_ct (fun k => decide (0 < st k)) (W * H))) (nI (fb_ct (bgn st false W) (W * H) + fb_ct (bgn st true W) (W * H))) (nI (fb_ct (wlb st cA.1 false W H) (W * H) + fb_ct (wlb st cD.1 true W H) (W * H))) (nI (fb_ct (hwc st cA.1 cD.1 W H 0) (W * H))) (dig st cA.1 cD.1 W H) (tld (res st cA.1 cD.1 W H)) (nI (res st cA.1 cD.1 W H).1) (tg st cA.1 cD.1 W H (W * H) 0 (-1) 10) ho ke hc tr fo fr st (nI W) (nI H) cA cD (nI W) (nI H) W H gS gA gD = some o := by
  have hD := hS.1
  have g36 := dim36 hD
  have h3 := ct_three hS.2.1 (W * H) g36
  have l1 := fb_ct_le (fun k => decide (st k ≠ -1)) (W * H)
  have l2 := fb_ct_le (fun k => decide (0 < st k)) (W * H)
  have l3 := fb_ct_le (bgn st false W) (W * H)
  have l4 := fb_ct_le (bgn st true W) (W * H)
  have l5 := fb_ct_le (wlb st cA.1 false W H) (W * H)
  have l6 := fb_ct_le (wlb st cD.1 true W H) (W * H)
  have l7 := fb_ct_le (hwc st cA.1 cD.1 W H 0) (W * H)
  obtain ⟨hI, hT, _⟩ := res_good (uA := cA.1) (uD := cD.1) hD hS.2.1
  have hI1 := hI.1
  have hI2 := hI.2
  -- no holes are left just if next is none
  have s916 : ∀ (s0 s1 : Int32), s1 = s0 → mL_law_916 L xs N su t3 K22 (nI (W * H)) (nI (fb_ct (fun k => decide (0 < st k)) (W * H))) (dig st cA.1 cD.1 W H) (tld (res st cA.1 cD.1 W H)) (tg st cA.1 cD.1 W H (W * H) 0 (-1) 10) s0 s1 ho ke hc tr fo fr st (nI W) (nI H) cA cD (nI W) (nI H) W H gS gA gD = some o := by
    intro s0 s1 e
    rw [mL_law_916, if_pos e]
    rcases tg_spec (W := W) (H := H) (f := st) (uA := cA.1) (uD := cD.1) (W * H) 0 (-1) 10 with ⟨q1, _⟩ | ⟨j, _, q2, q3, q4, q5, q6, q7⟩
    · rw [q1, if_pos (by decide)]
      exact law_1005 hN hS hZ hA hB hK (W * H) 37 0 _ _ _ _ _ _ (by omega) (by omega) hf
    · rw [q5, if_neg (nI_pos (by omega))]
      exact law_929 hN hS hZ hA hB hK (by omega) (fun i hi h0 => q6 i (Nat.zero_le _) (by omega) h0) (fun i hi h0 => q7 i (Nat.zero_le _) hi h0) _ _ _ _ _ _ hf (W * H) 37 0 (by omega) (by omega)
  have s894 : mL_law_894 L xs N su t3 K22 (nI (W * H)) (nI (fb_ct (fun k => decide (st k ≠ -1)) (W * H))) (nI (fb_ct (fun k => decide (0 < st k)) (W * H))) (dig st cA.1 cD.1 W H) (tld (res st cA.1 cD.1 W H)) (tg st cA.1 cD.1 W H (W * H) 0 (-1) 10) ho ke hc tr fo fr st (nI W) (nI H) cA cD (nI W) (nI H) W H gS gA gD = some o := by
    rw [mL_law_894]
    rcases tg_spec (W := W) (H := H) (f := st) (uA := cA.1) (uD := cD.1) (W * H) 0 (-1) 10 with ⟨q1, q2⟩ | ⟨j, _, q2, q3, q4, q5, q6, q7⟩
    · have hh : fb_ct (hol st) (W * H) = 0 := fb_ct_zero.mpr fun i hi => by
        cases q : hol st i
        · rfl
        · have := q2 i (Nat.zero_le _) (by omega) (of_decide_eq_true q)
          have := bq1_le st cA.1 cD.1 W H i
          omega
      rw [if_neg (show ¬ 0 ≤ tg st cA.1 cD.1 W H (W * H) 0 (-1) 10 by rw [q1]; decide), mL_law_904, if_pos (by rw [h3, hh, Nat.add_zero])]
      exact s916 _ _ rfl
    · have hh : 0 < fb_ct (hol st) (W * H) := fb_ct_pos.mpr ⟨j, by omega, decide_eq_true q3⟩
      rw [if_pos (show 0 ≤ tg st cA.1 cD.1 W H (W * H) 0 (-1) 10 by rw [q5]; exact nI_pos' (by omega)), mL_law_904, if_neg (fun q => by have := (nI_eq (by omega) (by omega)).mp q; omega)]
      exact s916 _ _ rfl
  have s879 : ∀ (s0 s1 : Int32), s1 = s0 → mL_law_879 L xs N su t3 K22 (nI (W * H)) (nI (fb_ct (fun k => decide (st k ≠ -1)) (W * H))) (nI (fb_ct (fun k => decide (0 < st k)) (W * H))) (nI (fb_ct (hwc st cA.1 cD.1 W H 0) (W * H))) (dig st cA.1 cD.1 W H) (tld (res st cA.1 cD.1 W H)) (tg st cA.1 cD.1 W H (W * H) 0 (-1) 10) s0 s1 ho ke hc tr fo fr st (nI W) (nI H) cA cD (nI W) (nI H) W H gS gA gD = some o := by
    intro s0 s1 e
    rw [mL_law_879, if_pos e]
    by_cases c : fb_ct (hwc st cA.1 cD.1 W H 0) (W * H) = 0
    · rw [if_pos (show nI (fb_ct (hwc st cA.1 cD.1 W H 0) (W * H)) ≤ 0 by rw [c]; decide)]
      exact s894
    · obtain ⟨k, hk, hw⟩ := fb_ct_pos.mp (Nat.pos_of_ne_zero c)
      obtain ⟨z1, z2⟩ := (hwc_iff (p := 0) (by omega)).mp hw
      have hcn : cn st cA.1 cD.1 W H k = 0 := by
        have key : ∀ x, x < 512 → bcN 9 (2 * x) = 0 → x = 0 := by decide +kernel
        exact key _ (cn_lt _ _ _ _ _ _) z2
      have hn0 := nT_none hD hS.2.1 hk z1 hcn
      rw [if_neg (nI_nle (by omega) (by omega)), if_neg (show ¬ 0 < tld (res st cA.1 cD.1 W H) by
        rcases tld_n hI with ⟨_, a2⟩ | ⟨a1, a2, _⟩
        · rw [a2]; decide
        · rw [a2, hT a1, hn0]; decide)]
      exact s894
  have s843 : mL_law_843 L xs N su t3 K22 (nI (W * H)) (nI (fb_ct (fun k => decide (st k ≠ -1)) (W * H))) (nI (fb_ct (fun k => decide (0 < st k)) (W * H))) (nI (fb_ct (hwc st cA.1 cD.1 W H 0) (W * H))) (dig st cA.1 cD.1 W H) (tld (res st cA.1 cD.1 W H)) (nI (res st cA.1 cD.1 W H).1) (tg st cA.1 cD.1 W H (W * H) 0 (-1) 10) ho ke hc tr fo fr st (nI W) (nI H) cA cD (nI W) (nI H) W H gS gA gD = some o := by
    rw [mL_law_843]
    rcases tld_n hI with ⟨a1, a2⟩ | ⟨a1, a2, a3⟩
    · rw [if_neg (show ¬ tld (res st cA.1 cD.1 W H) < (-1 : Int32) by rw [a2]; decide), if_neg (show ¬ (100 : Int32) < tld (res st cA.1 cD.1 W H) by rw [a2]; decide), if_neg (show ¬ 0 ≤ tld (res st cA.1 cD.1 W H) by rw [a2]; decide), mL_law_866, if_pos (by rw [a1]; rfl)]
      exact s879 _ _ rfl
    · have p0 : 0 ≤ tld (res st cA.1 cD.1 W H) := by rw [a2]; exact nI_pos' (by omega)
      have p1 : ¬ tld (res st cA.1 cD.1 W H) < (-1 : Int32) := by
        rw [Int32.lt_iff_toInt_lt]
        rw [Int32.le_iff_toInt_le] at p0
        have h1 : (-1 : Int32).toInt = -1 := rfl
        have h2 : (0 : Int32).toInt = 0 := rfl
        omega
      rw [if_neg p1, if_neg (show ¬ (100 : Int32) < tld (res st cA.1 cD.1 W H) by rw [a2]; exact nI_nlt (a := 100) (by omega) (by omega)), if_pos p0, mL_law_866, if_neg (show ¬ nI (res st cA.1 cD.1 W H).1 = (4001 : Int32) from fun q => by have := (nI_eq (b := 4001) (by omega) (by omega)).mp q; omega)]
      exact s879 _ _ rfl
  rw [mL_law_818]
  have e1 : nI (fb_ct (wlb st cA.1 false W H) (W * H) + fb_ct (wlb st cD.1 true W H) (W * H)) = nI (fb_ct (bgn st false W) (W * H) + fb_ct (bgn st true W) (W * H)) ↔ aw st cA.1 cD.1 W H = true := by
    rw [aw_ct hD]
    exact nI_eq (by omega) (by omega)
  by_cases c : aw st cA.1 cD.1 W H = true
  · rw [if_pos (e1.mpr c)]
    by_cases c2 : nI (fb_ct (fun k => decide (st k ≠ -1)) (W * H)) = nI (fb_ct (fun k => decide (0 < st k)) (W * H))
    · have hz : fb_ct (hol st) (W * H) = 0 := by
        have := (nI_eq (by omega) (by omega)).mp c2
        omega
      have hr := res_1 c (fun j hj q => by
        have := fb_ct_zero.mp hz j hj
        exact absurd q (of_decide_eq_false this))
      rw [if_pos c2, if_pos (show tld (res st cA.1 cD.1 W H) = (1 : Int32) by rw [hr]; rfl), if_pos (show nI (res st cA.1 cD.1 W H).1 = 0 by rw [hr]; rfl)]
      exact s843
    · rw [if_neg c2]
      exact s843
  · rw [if_neg (fun q => c (e1.mp q))]
    exact s843
end LW
