/-! ===== what the law asks of forcing, of next, of corridors and counts ===== -/
section FA
variable {W H : Nat} {cA cD : CS} {su : RowJ}
theorem sgl_none {f uA uD : RowI} : ∀ m k, sgl f uA uD W H m k = none → ∀ j, k ≤ j → j < k + m → bq1 f uA uD W H j ≠ 1
  | 0, _, _, j, h1, h2 => by omega
  | m + 1, k, h, j, h1, h2 => by
    rw [sgl] at h
    by_cases c : bq1 f uA uD W H k = 1
    · rw [if_pos c] at h; cases h
    · rw [if_neg c] at h
      by_cases e : j = k
      · subst e; exact c
      · exact sgl_none m (k + 1) h j (by omega) (by omega)
theorem ct_pos_upd {f : RowI} {k n M : Nat} (hk : k < M) (h0 : f k = 0) {x : Int32} (hx : 0 < x) : fb_ct (fun j => decide (0 < upd f k x j)) M = fb_ct (fun j => decide (0 < f j)) M + 1 := by
  have h := fb_ct_upd (fun j => decide (0 < f j)) true hk
  rw [if_pos rfl, show (decide (0 < f k)) = false from decide_eq_false (by rw [h0]; decide), if_neg (by decide), Nat.add_zero] at h
  rw [← h]
  refine fb_ct_cong fun j _ => ?_
  by_cases e : j = k
  · subst e; rw [upd_s, if_pos rfl, decide_eq_true hx]
  · rw [upd_n e, if_neg e]
theorem frc_ok : ∀ m c f, zrs f ≤ m → ST W H f cA cD su → ST W H (frc cA.1 cD.1 W H m c f).2 cA cD su ∧ fb_ct (fun j => decide (0 < (frc cA.1 cD.1 W H m c f).2 j)) (W * H) + c = fb_ct (fun j => decide (0 < f j)) (W * H) + (frc cA.1 cD.1 W H m c f).1 ∧ sgl (frc cA.1 cD.1 W H m c f).2 cA.1 cD.1 W H (W * H) 0 = none ∧ nT (frc cA.1 cD.1 W H m c f).2 cA.1 cD.1 W H = nT f cA.1 cD.1 W H
  | 0, c, f, hz, hS => by
    have g36 := dim36 hS.1
    refine ⟨hS, rfl, ?_, rfl⟩
    show sgl f cA.1 cD.1 W H (W * H) 0 = none
    cases hs : sgl f cA.1 cD.1 W H (W * H) 0 with
    | none => rfl
    | some k =>
      obtain ⟨h1, h2, _⟩ := sgl_lay hs
      have h := fb_ct_zero.mp (show fb_ct (hol f) 36 = 0 by unfold zrs at hz; omega) k (by omega)
      exact absurd h2 (of_decide_eq_false h)
  | m + 1, c, f, hz, hS => by
    have g36 := dim36 hS.1
    rw [frc]
    cases hs : sgl f cA.1 cD.1 W H (W * H) 0 with
    | none => exact ⟨hS, rfl, hs, rfl⟩
    | some k =>
      obtain ⟨q1, q2, q3, q4, q5, q6⟩ := sgl_lay hs
      obtain ⟨_, _, hb⟩ := sgl_in _ _ _ hs
      obtain ⟨b1, _, _⟩ := one_b _ q3 hb
      have hz' := zrs_upd (f := f) (k := k) (by omega) q2 (x := nI (loN (2 * cn f cA.1 cD.1 W H k))) (nI_ne0 (by omega) (by omega))
      obtain ⟨r1, r2, r3, r4⟩ := frc_ok m (c + 1) (upd f k (nI (loN (2 * cn f cA.1 cD.1 W H k)))) (by omega) (hS.upd (by rw [q2]; decide) q6)
      refine ⟨r1, ?_, r3, ?_⟩
      · have h := ct_pos_upd (n := 0) q1 q2 (x := nI (loN (2 * cn f cA.1 cD.1 W H k))) (nI_lt (a := 0) (by omega) (by omega))
        rw [h] at r2
        show fb_ct (fun j => decide (0 < (frc cA.1 cD.1 W H m (c + 1) (upd f k (nI (loN (2 * cn f cA.1 cD.1 W H k))))).2 j)) (W * H) + c = _ + (frc cA.1 cD.1 W H m (c + 1) (upd f k (nI (loN (2 * cn f cA.1 cD.1 W H k))))).1
        omega
      · show nT (frc cA.1 cD.1 W H m (c + 1) (upd f k (nI (loN (2 * cn f cA.1 cD.1 W H k))))).2 cA.1 cD.1 W H = _
        rw [r4]
        exact (nT_force hS.1 hS.2.1 q1 q2 q5 q6 b1).symm
theorem tg_spec {f uA uD : RowI} : ∀ m k b w, (tg f uA uD W H m k b w = b ∧ ∀ j, k ≤ j → j < k + m → f j = 0 → w ≤ bq1 f uA uD W H j) ∨ (∃ j, k ≤ j ∧ j < k + m ∧ f j = 0 ∧ bq1 f uA uD W H j < w ∧ tg f uA uD W H m k b w = nI j ∧ (∀ i, k ≤ i → i < k + m → f i = 0 → bq1 f uA uD W H j ≤ bq1 f uA uD W H i) ∧ (∀ i, k ≤ i → i < j → f i = 0 → bq1 f uA uD W H j < bq1 f uA uD W H i))
  | 0, k, b, w => Or.inl ⟨rfl, fun j h1 h2 => by omega⟩
  | m + 1, k, b, w => by
    rw [tg]
    by_cases c : f k = 0 ∧ bq1 f uA uD W H k < w
    · rw [if_pos c]
      right
      rcases tg_spec m (k + 1) (nI k) (bq1 f uA uD W H k) with ⟨h1, h2⟩ | ⟨j, h1, h2, h3, h4, h5, h6, h7⟩
      · refine ⟨k, Nat.le_refl _, by omega, c.1, c.2, h1, fun i i1 i2 i3 => ?_, fun i i1 i2 _ => by omega⟩
        by_cases e : i = k
        · subst e; exact Nat.le_refl _
        · exact h2 i (by omega) (by omega) i3
      · refine ⟨j, by omega, by omega, h3, by omega, h5, fun i i1 i2 i3 => ?_, fun i i1 i2 i3 => ?_⟩
        · by_cases e : i = k
          · subst e; omega
          · exact h6 i (by omega) (by omega) i3
        · by_cases e : i = k
          · subst e; exact h4
          · exact h7 i (by omega) i2 i3
    · rw [if_neg c]
      rcases tg_spec m (k + 1) b w with ⟨h1, h2⟩ | ⟨j, h1, h2, h3, h4, h5, h6, h7⟩
      · left
        refine ⟨h1, fun j j1 j2 j3 => ?_⟩
        by_cases e : j = k
        · subst e
          exact Nat.not_lt.mp fun q => c ⟨j3, q⟩
        · exact h2 j (by omega) (by omega) j3
      · right
        refine ⟨j, by omega, by omega, h3, h4, h5, fun i i1 i2 i3 => ?_, fun i i1 i2 i3 => ?_⟩
        · by_cases e : i = k
          · subst e
            have := Nat.not_lt.mp fun q => c ⟨i3, q⟩
            omega
          · exact h6 i (by omega) (by omega) i3
        · by_cases e : i = k
          · subst e
            have := Nat.not_lt.mp fun q => c ⟨i3, q⟩
            omega
          · exact h7 i (by omega) i2 i3
/-! the corridors' cells are the open cells -/
def sK (f : RowI) (d : Bool) (W H K : Nat) : Nat → Nat
  | 0 => 0
  | b + 1 => sK f d W H K b + (if bgn f d W b = true then lcn f (stp d W) K (fwd d W H b) b else 0)
def sL (f : RowI) (d : Bool) (W H : Nat) : Nat → Nat
  | 0 => 0
  | b + 1 => sL f d W H b + (if bgn f d W b = true then (ln f d W H b).length else 0)
theorem sK_s (hD : Dim W H) {f : RowI} {d : Bool} {K : Nat} (hK : K < W * H) : ∀ M, M ≤ W * H → sK f d W H (K + 1) M = sK f d W H K M + (if f K ≠ -1 ∧ bg f d W K < M then 1 else 0)
  | 0, _ => by rw [if_neg (fun q => absurd q.2 (Nat.not_lt_zero _))]; rfl
  | b + 1, hM => by
    rw [sK, sK, sK_s hD hK b (by omega)]
    by_cases ho : f K = -1
    · rw [if_neg (show ¬ (f K ≠ -1 ∧ bg f d W K < b) from fun q => q.1 ho), if_neg (show ¬ (f K ≠ -1 ∧ bg f d W K < b + 1) from fun q => q.1 ho)]
      by_cases hb : bgn f d W b = true
      · rw [if_pos hb, if_pos hb, lcn_oth hD (b := b) (Or.inl ho) _ b (Or.inr ⟨by omega, rfl⟩) (Or.inr (bgn_t.mp hb).2)]
        omega
      · rw [if_neg hb, if_neg hb]
    · by_cases e : bg f d W K = b
      · have hb : bgn f d W b = true := bgn_t.mpr (by rw [← e]; exact ⟨bg_open hD K hK ho, bg_bg hD K hK⟩)
        have h := lcn_self (f := f) (d := d) hD hK ho
        rw [e] at h
        rw [if_pos hb, if_pos hb, h, if_neg (by omega), if_pos ⟨ho, by omega⟩]
        omega
      · have hif : (if f K ≠ -1 ∧ bg f d W K < b then 1 else 0) = (if f K ≠ -1 ∧ bg f d W K < b + 1 then 1 else 0) := by
          by_cases q : bg f d W K < b
          · rw [if_pos ⟨ho, q⟩, if_pos ⟨ho, by omega⟩]
          · rw [if_neg (fun z => q z.2), if_neg (fun z => by have := z.2; omega)]
        rw [hif]
        by_cases hb : bgn f d W b = true
        · rw [if_pos hb, if_pos hb, lcn_oth hD (b := b) (Or.inr e) _ b (Or.inr ⟨by omega, rfl⟩) (Or.inr (bgn_t.mp hb).2)]
          omega
        · rw [if_neg hb, if_neg hb]
          omega
theorem sK_0 {f : RowI} {d : Bool} : ∀ M, sK f d W H 0 M = 0
  | 0 => rfl
  | b + 1 => by rw [sK, sK_0 b, lcn_ge _ _ (Nat.zero_le _)]; split <;> rfl
theorem sK_n (hD : Dim W H) {f : RowI} {d : Bool} : ∀ K, K ≤ W * H → sK f d W H K (W * H) = fb_ct (fun k => decide (f k ≠ -1)) K
  | 0, _ => by rw [sK_0]; rfl
  | K + 1, hK => by
    rw [sK_s hD (by omega) _ (Nat.le_refl _), sK_n hD K (by omega), fb_ct_succ]
    have hb : bg f d W K < W * H := bg_lt (by omega)
    by_cases c : f K = -1
    · rw [if_neg (fun q => q.1 c), decide_eq_false (fun q => q c)]; rfl
    · rw [if_pos ⟨c, hb⟩, decide_eq_true c]; rfl
theorem sL_sK (hD : Dim W H) {f : RowI} {d : Bool} : ∀ M, M ≤ W * H → sL f d W H M = sK f d W H (W * H) M
  | 0, _ => rfl
  | b + 1, hM => by
    rw [sL, sK, sL_sK hD b (by omega)]
    by_cases hb : bgn f d W b = true
    · rw [if_pos hb, if_pos hb, lcn_len hD _ _ (Or.inr ⟨by omega, rfl⟩)]
      rfl
    · rw [if_neg hb, if_neg hb]
theorem sL_n (hD : Dim W H) {f : RowI} {d : Bool} : sL f d W H (W * H) = fb_ct (fun k => decide (f k ≠ -1)) (W * H) := by
  rw [sL_sK hD _ (Nat.le_refl _), sK_n hD _ (Nat.le_refl _)]
/-! counts -/
theorem ct_three {f : RowI} (hR : SR f) : ∀ M, M ≤ 36 → fb_ct (fun k => decide (f k ≠ -1)) M = fb_ct (fun k => decide (0 < f k)) M + fb_ct (hol f) M
  | 0, _ => rfl
  | M + 1, hM => by
    rw [fb_ct_succ, fb_ct_succ, fb_ct_succ, ct_three hR M (by omega)]
    rcases hR M (by omega) with q | ⟨v, hv, q⟩
    · unfold hol
      rw [q]
      rfl
    · unfold hol
      rw [q, decide_eq_true (nI_m1 v (by omega))]
      by_cases v0 : v = 0
      · subst v0; rfl
      · have hp : decide ((0 : Int32) < nI v) = true := decide_eq_true (nI_lt (a := 0) (by omega) (by omega))
        have hz : decide (nI v = 0) = false := decide_eq_false (nI_ne0 (by omega) (by omega))
        rw [hp, hz]
        simp
        omega
theorem aw_ct (hD : Dim W H) {f uA uD : RowI} : aw f uA uD W H = true ↔ fb_ct (wlb f uA false W H) (W * H) + fb_ct (wlb f uD true W H) (W * H) = fb_ct (bgn f false W) (W * H) + fb_ct (bgn f true W) (W * H) := by
  have a := ct_and (P := bgn f false W) (Q := fun k => wsp f uA false W H k) (n := W * H)
  have b := ct_and (P := bgn f true W) (Q := fun k => wsp f uD true W H k) (n := W * H)
  have a2 := well_all (f := f) (u := uA) (d := false) hD
  have b2 := well_all (f := f) (u := uD) (d := true) hD
  have wa : fb_ct (wlb f uA false W H) (W * H) = fb_ct (fun k => bgn f false W k && wsp f uA false W H k) (W * H) := rfl
  have wb : fb_ct (wlb f uD true W H) (W * H) = fb_ct (fun k => bgn f true W k && wsp f uD true W H k) (W * H) := rfl
  rw [aw_iff, wa, wb]
  constructor
  · intro h
    rw [a.2.mpr (a2.mpr fun k hk ho => (h k hk ho).1), b.2.mpr (b2.mpr fun k hk ho => (h k hk ho).2)]
  · intro h k hk ho
    have h1 := a.1
    have h2 := b.1
    exact ⟨a2.mp (a.2.mp (by omega)) k hk ho, b2.mp (b.2.mp (by omega)) k hk ho⟩
theorem aw_le {f uA uD : RowI} : fb_ct (wlb f uA false W H) (W * H) + fb_ct (wlb f uD true W H) (W * H) ≤ fb_ct (bgn f false W) (W * H) + fb_ct (bgn f true W) (W * H) := by
  have a := (ct_and (P := bgn f false W) (Q := fun k => wsp f uA false W H k) (n := W * H)).1
  have b := (ct_and (P := bgn f true W) (Q := fun k => wsp f uD true W H k) (n := W * H)).1
  exact Nat.add_le_add a b
theorem res_0 {f uA uD : RowI} (h : aw f uA uD W H = false) : res f uA uD W H = (0, 0, none) := by
  unfold res
  rw [h, if_neg (by decide)]
theorem zl_nil {f : RowI} : ∀ m k, (∀ j, k ≤ j → j < k + m → f j ≠ 0) → zl f m k = []
  | 0, _, _ => rfl
  | m + 1, k, h => by rw [zl, if_neg (h k (Nat.le_refl _) (by omega)), zl_nil m (k + 1) (fun j h1 h2 => h j (by omega) (by omega))]
theorem res_1 {f uA uD : RowI} (h : aw f uA uD W H = true) (hz : ∀ j, j < W * H → f j ≠ 0) : res f uA uD W H = (0, 1, some f) := by
  unfold res
  rw [h, if_pos rfl, zl_nil _ _ (fun j _ h2 => hz j (by omega))]
  rfl
/-- what is told of the search -/
theorem tld_n {a : SA} (hI : SI a) : (a.1 = 4001 ∧ tld a = -1) ∨ (a.1 ≤ 4000 ∧ tld a = nI a.2.1 ∧ a.2.1 ≤ 100) := by
  have h1 := hI.1
  unfold tld
  by_cases c : 4000 < a.1
  · left; rw [if_pos c]; exact ⟨by omega, rfl⟩
  · right; rw [if_neg c]; exact ⟨by omega, rfl, hI.2⟩
theorem slv_n {f uA uD : RowI} (hD : Dim W H) (hR : SR f) {k : Nat} (hk : k < W * H) : (¬ (1 : Int32) ≤ tld (res f uA uD W H) → slv f uA uD W H k = 0) ∧ ((1 : Int32) ≤ tld (res f uA uD W H) → (f k ≠ 0 → slv f uA uD W H k = if 0 < f k then f k else 0) ∧ (f k = 0 → ∃ n, 1 ≤ n ∧ n ≤ 9 ∧ slv f uA uD W H k = nI n ∧ (2 * cn f uA uD W H k).testBit n = true)) := by
  have g36 := dim36 hD
  obtain ⟨hI, _, hf⟩ := res_good (uA := uA) (uD := uD) hD hR
  unfold slv
  rcases tld_n hI with ⟨h1, h2⟩ | ⟨h1, h2, h3⟩
  · rw [h2]
    refine ⟨fun _ => ?_, fun q => absurd q (by decide)⟩
    rw [if_pos (show 4000 < (res f uA uD W H).1 by omega)]
    split <;> rfl
  · rw [h2, if_neg (show ¬ 4000 < (res f uA uD W H).1 by omega)]
    by_cases z : (res f uA uD W H).2.1 = 0
    · rw [z]
      refine ⟨fun _ => ?_, fun q => absurd q (by decide)⟩
      rw [if_pos rfl]
      split <;> rfl
    · refine ⟨fun q => absurd (nI_le (a := 1) (by omega) (by omega)) q, fun _ => ?_⟩
      obtain ⟨g, e1, e2⟩ := hf z
      obtain ⟨e3, e4⟩ := e2 k hk
      rw [if_neg z, e1]
      refine ⟨fun h => ?_, fun h => ?_⟩
      · rcases hR k (by omega) with q | ⟨v, hv, q⟩
        · rw [if_pos q, q, if_neg (by decide)]
        · have hn : f k ≠ -1 := by rw [q]; exact nI_m1 v (by omega)
          rw [if_neg hn]
          have hp : 0 < f k := by
            rw [q] at h ⊢
            have : v ≠ 0 := fun e => h (by rw [e]; rfl)
            exact nI_lt (a := 0) (by omega) (by omega)
          rw [if_pos hp]
          exact e3 h
      · rw [if_neg (by rw [h]; decide)]
        exact e4 h
theorem shr_bit : ∀ x, x < 512 → ∀ n, n < 10 → ((nI (2 * x) >>> (nI n &&& 31)) &&& (1 : Int32)) = if (2 * x).testBit n = true then 1 else 0 := by decide +kernel
theorem even_1022 : ∀ x, x < 512 → (nI (2 * x) &&& (1 : Int32)) = 0 ∧ nI (2 * x) ≤ (1022 : Int32) := by decide +kernel
end FA
