/-! ===== the model's counts ===== -/
theorem nI_a0 (a : Nat) : nI a + (0 : Int32) = nI a := nI_add a 0
theorem nI_a1 (a : Nat) : nI a + (1 : Int32) = nI (a + 1) := nI_1 a
def uD2 (uA uD : RowI) (d : Bool) : RowI := if d then uD else uA
def Qc (f uA uD : RowI) (W H : Nat) (what : Int32) (d : Bool) (k : Nat) : Bool :=
  if what = 4 then bgn f d W k else if what = 5 then smb f (uD2 uA uD d) d W k else wlb f (uD2 uA uD d) d W H k
theorem ct_two (P : Nat → Bool) (A B : Nat → Bool) (hA : ∀ k, P (2 * k) = A k) (hB : ∀ k, P (2 * k + 1) = B k) : ∀ k, fb_ct P (2 * k) = fb_ct A k + fb_ct B k
  | 0 => rfl
  | k + 1 => by
    rw [show 2 * (k + 1) = 2 * k + 1 + 1 by omega, fb_ct_succ, fb_ct_succ, fb_ct_succ, fb_ct_succ, ct_two P A B hA hB k, hA, hB]
    omega
section MC
variable {W H : Nat} {f : RowI} {N : Nat} {mu mb me mf uA uD : RowI}
theorem counted_61 (hD : Dim W H) (hN : 600 ≤ N) : mX5_counted_61 N (nI W) (nI H) f N 0 0 = some (nI (fb_ct (fun k => decide (f k ≠ -1)) (W * H)), f) := by
  have g36 := dim36 hD
  refine ct_loop (mX5_counted_61 N (nI W) (nI H) f) (fun k => decide (f k ≠ -1)) (W * H) _ (fun n => ?_) (fun n k hk => ?_) (W * H) N 0 (by omega) (by omega)
  · rw [s_mX5_counted_61, pk_mul, if_pos (nI_le (Nat.le_refl _) (by omega))]
  · rw [s_mX5_counted_61, pk_mul, if_neg (nI_ge (by omega) (by omega)), if_neg (bad_n (by omega) (by omega)), nI_clamp (by omega), nI_a0, nI_a1, nI_1]
    refine ⟨fun h => ?_, fun h => ?_⟩
    · rw [if_neg (of_decide_eq_true h)]
    · rw [if_pos (Classical.not_not.mp (of_decide_eq_false h))]
theorem counted_102 (hD : Dim W H) (hN : 600 ≤ N) : mX5_counted_102 N (nI W) (nI H) f N 0 0 = some (nI (fb_ct (fun k => decide (0 < f k)) (W * H)), f) := by
  have g36 := dim36 hD
  refine ct_loop (mX5_counted_102 N (nI W) (nI H) f) (fun k => decide (0 < f k)) (W * H) _ (fun n => ?_) (fun n k hk => ?_) (W * H) N 0 (by omega) (by omega)
  · rw [s_mX5_counted_102, pk_mul, if_pos (nI_le (Nat.le_refl _) (by omega))]
  · rw [s_mX5_counted_102, pk_mul, if_neg (nI_ge (by omega) (by omega)), if_neg (bad_n (by omega) (by omega)), nI_clamp (by omega), nI_a0, nI_a1, nI_1]
    refine ⟨fun h => ?_, fun h => ?_⟩
    · rw [if_neg (Int32.not_le.mpr (of_decide_eq_true h))]
    · rw [if_pos (Int32.not_lt.mp (of_decide_eq_false h))]
theorem counted_148 (hN : 600 ≤ N) (hD : Dim W H) (hR : SR f) (hM : MS W H f uA uD mu mb me mf) (hA : UR uA) (hB : UR uD) (what : Int32) : mX5_counted_148 N (nI W) (nI H) mu mb me mf what N 0 0 f = some (nI (fb_ct (hwc f uA uD W H (8 - what)) (W * H)), f) := by
  have g36 := dim36 hD
  refine ct_loop (fun n a k => mX5_counted_148 N (nI W) (nI H) mu mb me mf what n a k f) (hwc f uA uD W H (8 - what)) (W * H) _ (fun n => ?_) (fun n k hk => ?_) (W * H) N 0 (by omega) (by omega)
  · show mX5_counted_148 N (nI W) (nI H) mu mb me mf what (n + 1) _ _ f = _
    rw [s_mX5_counted_148, pk_mul, if_pos (nI_le (Nat.le_refl _) (by omega))]
  · show (_ → mX5_counted_148 N (nI W) (nI H) mu mb me mf what (n + 1) _ _ f = mX5_counted_148 N (nI W) (nI H) mu mb me mf what n _ _ f) ∧ (_ → mX5_counted_148 N (nI W) (nI H) mu mb me mf what (n + 1) _ _ f = mX5_counted_148 N (nI W) (nI H) mu mb me mf what n _ _ f)
    rw [s_mX5_counted_148, pk_mul, if_neg (nI_ge (by omega) (by omega)), if_neg (bad_n (by omega) (by omega)), nI_clamp (by omega), can_m hN hD hR hM hA hB hk, Option.bind_some, nI_a0, nI_a1, nI_1]
    unfold hwc
    by_cases c : f k = 0
    · rw [if_pos c, decide_eq_true c, Bool.true_and]
      refine ⟨fun h => ?_, fun h => ?_⟩
      · rw [if_pos (of_decide_eq_true h)]
      · rw [if_neg (of_decide_eq_false h)]
    · rw [if_neg c, decide_eq_false c]
      exact ⟨fun h => by simp at h, fun _ => rfl⟩
theorem at_two (a : Nat) : ∃ (k : Nat) (d : Bool), a = 2 * k + dn d ∧ a / 2 = k ∧ a % 2 = dn d := by
  rcases Nat.mod_two_eq_zero_or_one a with h | h
  · exact ⟨a / 2, false, by show a = 2 * (a / 2) + 0; omega, rfl, h⟩
  · exact ⟨a / 2, true, by show a = 2 * (a / 2) + 1; omega, rfl, h⟩
def Qa (f uA uD : RowI) (W H : Nat) (what : Int32) (a : Nat) : Bool := Qc f uA uD W H what (decide (a % 2 = 1)) (a / 2)
theorem Qa_n {what : Int32} {k : Nat} {d : Bool} : Qa f uA uD W H what (2 * k + dn d) = Qc f uA uD W H what d k := by
  unfold Qa
  cases d
  · rw [show (2 * k + dn false) % 2 = 0 by show (2 * k + 0) % 2 = 0; omega, show (2 * k + dn false) / 2 = k by show (2 * k + 0) / 2 = k; omega]
    rfl
  · rw [show (2 * k + dn true) % 2 = 1 by show (2 * k + 1) % 2 = 1; omega, show (2 * k + dn true) / 2 = k by show (2 * k + 1) / 2 = k; omega]
    rfl
theorem corridors_n (hN : 600 ≤ N) (hD : Dim W H) (hR : SR f) (hM : MS W H f uA uD mu mb me mf) (hA : UR uA) (hB : UR uD) (what : Int32) (hw : what = 4 ∨ what = 5 ∨ what = 6) :
    mX5_corridors N (nI W) (nI H) f mu mb me mf what = some (nI (fb_ct (Qc f uA uD W H what false) (W * H) + fb_ct (Qc f uA uD W H what true) (W * H))) := by
  have g36 := dim36 hD
  obtain ⟨l1, l2, hu, ht⟩ := hM
  have hl : ∀ d, LI d W f (W * H) mb := fun d => by cases d; exact l1; exact l2
  have hud : ∀ d k, k < 36 → mu (36 * dn d + k) = uD2 uA uD d k := fun d k hk => by
    cases d
    · show mu (36 * 0 + k) = uA k
      rw [show 36 * 0 + k = k by omega]
      exact (hu k hk).1
    · exact (hu k hk).2
  have hU : ∀ d, UR (uD2 uA uD d) := fun d => by cases d; exact hA; exact hB
  rw [← ct_two (Qa f uA uD W H what) _ _ (fun k => Qa_n (d := false)) (fun k => Qa_n (d := true))]
  refine ct_loop (mX5_corridors_4 N (nI W) (nI H) f mu mb me mf what) (Qa f uA uD W H what) (2 * (W * H)) _ (fun n => ?_) (fun n a ha => ?_) (2 * (W * H)) N 0 (by omega) (by omega)
  · rw [s_mX5_corridors_4, show (2 : Int32) = nI 2 from rfl, pk_mul, pk_mul, if_pos (nI_le (by rw [Nat.mul_assoc]; exact Nat.le_refl _) (by omega))]
  · obtain ⟨k, d, e1, e2, e3⟩ := at_two a
    have hk : k < W * H := by omega
    have hd := dn_le d
    have q1 : nI a / (2 : Int32) = nI k := by rw [show (2 : Int32) = nI 2 from rfl, pk_div (by omega) (by omega) (by omega), e2]
    have q2 : nI a - nI k * (2 : Int32) = nI (dn d) := by rw [← q1, show (2 : Int32) = nI 2 from rfl, pk_rem (by omega) (by omega) (by omega), e3]
    rw [s_mX5_corridors_4, show ((2 : Int32) * nI W) * nI H = nI (2 * (W * H)) by rw [show (2 : Int32) = nI 2 from rfl, pk_mul, pk_mul, Nat.mul_assoc], if_neg (nI_ge (by omega) (by omega)), if_neg (by decide), if_neg (by decide), q1, q2, if_neg (bad_n (by omega) (by omega)), nI_clamp (by omega), at_n]
    simp only [nI_clamp (show 36 * dn d + k < 2 ^ 31 by omega)]
    rw [nI_1, beginOf_n (by omega), Option.bind_some, hl d k hk, hud d k (by omega), nI_a1]
    subst e1
    rw [Qa_n]
    have hbn : bgn f d W k = (decide (f k ≠ -1) && decide (bg f d W k = k)) := rfl
    have hnb : bg f d W k ≤ k := bg_le
    have enb : (nI (bg f d W k) = nI k) ↔ bg f d W k = k := nI_eq (by omega) (by omega)
    rcases hw with w | w | w
    · subst w
      have eQ : Qc f uA uD W H 4 d k = bgn f d W k := if_pos rfl
      rw [eQ, hbn]
      by_cases c : f k = -1
      · rw [if_pos c, decide_eq_false (show ¬ f k ≠ -1 from fun q => q c)]
        simp
      · rw [if_neg c, decide_eq_true c, Bool.true_and]
        by_cases e : bg f d W k = k
        · rw [if_pos (enb.mpr e), decide_eq_true e, if_pos rfl]
          exact ⟨fun _ => rfl, fun h => by simp at h⟩
        · rw [if_neg (fun q => e (enb.mp q)), decide_eq_false e]
          exact ⟨fun h => by simp at h, fun _ => rfl⟩
    · subst w
      have eQ : Qc f uA uD W H 5 d k = (bgn f d W k && decide (0 < uD2 uA uD d k)) := by
        unfold Qc
        rw [if_neg (by decide), if_pos rfl]
        rfl
      rw [eQ, hbn]
      by_cases c : f k = -1
      · rw [if_pos c, decide_eq_false (show ¬ f k ≠ -1 from fun q => q c)]
        simp
      · rw [if_neg c, decide_eq_true c, Bool.true_and]
        by_cases e : bg f d W k = k
        · rw [if_pos (enb.mpr e), decide_eq_true e, Bool.true_and, if_neg (show ¬ (5 : Int32) = 4 by decide), if_pos rfl, if_neg (bad_n (by omega) (by omega)), mX5_corridors_83, if_neg (show ¬ (5 : Int32) = 6 by decide), nI_a0, nI_1]
          refine ⟨fun h => ?_, fun h => ?_⟩
          · rw [if_pos (of_decide_eq_true h)]
          · rw [if_neg (of_decide_eq_false h)]
        · rw [if_neg (fun q => e (enb.mp q)), decide_eq_false e, Bool.false_and]
          exact ⟨fun h => by simp at h, fun _ => rfl⟩
    · subst w
      have eQ : Qc f uA uD W H 6 d k = (bgn f d W k && wsp f (uD2 uA uD d) d W H k) := by
        unfold Qc
        rw [if_neg (by decide), if_neg (by decide)]
        rfl
      rw [eQ, hbn]
      by_cases c : f k = -1
      · rw [if_pos c, decide_eq_false (show ¬ f k ≠ -1 from fun q => q c)]
        simp
      · rw [if_neg c, decide_eq_true c, Bool.true_and]
        by_cases e : bg f d W k = k
        · rw [if_pos (enb.mpr e), decide_eq_true e, Bool.true_and, if_neg (show ¬ (6 : Int32) = 4 by decide), if_neg (show ¬ (6 : Int32) = 5 by decide), mX5_corridors_83, if_pos rfl, isWell_n hD hN hR ht (hl d) (hud d) (hU d) hk, Option.bind_some, bq, nI_a0, nI_a1, nI_1]
          refine ⟨fun h => ?_, fun h => ?_⟩
          · rw [h, if_pos rfl]
          · rw [h, if_neg (by decide)]
        · rw [if_neg (fun q => e (enb.mp q)), decide_eq_false e, Bool.false_and]
          exact ⟨fun h => by simp at h, fun _ => rfl⟩
/-- what the model counts -/
theorem counted_n (hN : 600 ≤ N) (hD : Dim W H) (hR : SR f) (hM : MS W H f uA uD mu mb me mf) (hA : UR uA) (hB : UR uD) {w : Nat} (hw : w ≤ 8) : mX5_counted N (nI W) (nI H) f mu mb me mf (nI w) = some (tal f uA uD W H (nI w), f) := by
  have key : ∀ what : Int32, what = 4 ∨ what = 5 ∨ what = 6 → ((mX5_corridors N (nI W) (nI H) f mu mb me mf what).bind fun x => some (x, f)) = some (nI (fb_ct (Qc f uA uD W H what false) (W * H) + fb_ct (Qc f uA uD W H what true) (W * H)), f) := fun what h => by
    rw [corridors_n hN hD hR hM hA hB what h, Option.bind_some]
  rw [mX5_counted]
  unfold tal
  have hc : w = 0 ∨ w = 1 ∨ w = 2 ∨ w = 3 ∨ w = 4 ∨ w = 5 ∨ w = 6 ∨ w = 7 ∨ w = 8 := by omega
  rcases hc with rfl | rfl | rfl | rfl | rfl | rfl | rfl | rfl | rfl
  · rw [if_pos (by decide), if_pos (by decide), pk_mul]
  · rw [if_neg (by decide), if_pos (by decide), if_neg (by decide), if_pos (by decide)]
  · rw [if_neg (by decide), if_neg (by decide), if_pos (by decide), if_neg (by decide), if_neg (by decide), if_pos (by decide)]
    exact counted_61 hD hN
  · rw [if_neg (by decide), if_neg (by decide), if_neg (by decide), if_pos (by decide), if_neg (by decide), if_neg (by decide), if_neg (by decide), if_pos (by decide)]
    exact counted_102 hD hN
  · rw [if_neg (by decide), if_neg (by decide), if_neg (by decide), if_neg (by decide), if_pos (by decide), if_neg (by decide), if_neg (by decide), if_neg (by decide), if_neg (by decide), if_pos (by decide)]
    exact key 4 (Or.inl rfl)
  · rw [if_neg (by decide), if_neg (by decide), if_neg (by decide), if_neg (by decide), if_neg (by decide), if_pos (by decide), if_neg (by decide), if_neg (by decide), if_neg (by decide), if_neg (by decide), if_neg (by decide), if_pos (by decide)]
    exact key 5 (Or.inr (Or.inl rfl))
  · rw [if_neg (by decide), if_neg (by decide), if_neg (by decide), if_neg (by decide), if_neg (by decide), if_neg (by decide), if_pos (by decide), if_neg (by decide), if_neg (by decide), if_neg (by decide), if_neg (by decide), if_neg (by decide), if_neg (by decide), if_pos (by decide)]
    exact key 6 (Or.inr (Or.inr rfl))
  · rw [if_neg (by decide), if_neg (by decide), if_neg (by decide), if_neg (by decide), if_neg (by decide), if_neg (by decide), if_neg (by decide), if_neg (by decide), if_neg (by decide), if_neg (by decide), if_neg (by decide), if_neg (by decide), if_neg (by decide), if_neg (by decide), if_pos (by decide)]
    exact counted_148 hN hD hR hM hA hB 7
  · rw [if_neg (by decide), if_neg (by decide), if_neg (by decide), if_neg (by decide), if_neg (by decide), if_neg (by decide), if_neg (by decide), if_neg (by decide), if_neg (by decide), if_neg (by decide), if_neg (by decide), if_neg (by decide), if_neg (by decide), if_neg (by decide), if_neg (by decide)]
    exact counted_148 hN hD hR hM hA hB 8
/-! ===== whether all is well ===== -/
def okc (f uA uD : RowI) (W H k : Nat) : Bool := decide (f k = -1) || (wsp f uA false W H k && wsp f uD true W H k)
def allf (P : Nat → Bool) : Nat → Nat → Bool
  | 0, _ => true
  | m + 1, k => P k && allf P m (k + 1)
theorem allf_t {P : Nat → Bool} : ∀ m k, allf P m k = true ↔ ∀ j, k ≤ j → j < k + m → P j = true
  | 0, k => ⟨fun _ j h1 h2 => absurd h2 (by omega), fun _ => rfl⟩
  | m + 1, k => by
    rw [allf, Bool.and_eq_true, allf_t m (k + 1)]
    constructor
    · rintro ⟨h1, h2⟩ j h3 h4
      rcases Nat.eq_or_lt_of_le h3 with q | q
      · rw [← q]; exact h1
      · exact h2 j q (by omega)
    · intro h
      exact ⟨h k (Nat.le_refl _) (by omega), fun j h1 h2 => h j (by omega) (by omega)⟩
def aw (f uA uD : RowI) (W H : Nat) : Bool := allf (okc f uA uD W H) (W * H) 0
theorem allWell_m (hN : 600 ≤ N) (hD : Dim W H) (hR : SR f) (hM : MS W H f uA uD mu mb me mf) (hA : UR uA) (hB : UR uD) : mX5_isAllWell N (nI W) (nI H) f mu mb me mf = some (if aw f uA uD W H = true then 1 else 0) := by
  have g36 := dim36 hD
  obtain ⟨l1, l2, hu, ht⟩ := hM
  have key : ∀ m n k, m < n → k + m = W * H → mX5_isAllWell_2 N (nI W) (nI H) f mu mb me mf n (nI k) = some (if allf (okc f uA uD W H) m k = true then 1 else 0) := by
    intro m
    induction m with
    | zero =>
      intro n k hn hk
      obtain ⟨n, rfl⟩ : ∃ j, n = j + 1 := ⟨n - 1, by omega⟩
      rw [s_mX5_isAllWell_2, pk_mul, if_pos (nI_le (by omega) (by omega)), allf, if_pos rfl]
    | succ m ih =>
      intro n k hn hk
      obtain ⟨n, rfl⟩ : ∃ j, n = j + 1 := ⟨n - 1, by omega⟩
      have hkW : k < W * H := by omega
      have h := ih n (k + 1) (by omega) (by omega)
      have e1 : mX5_isWell N (nI W) (nI H) f mu mb me mf (nI k) 0 = _ := isWell_n (d := false) (mu := mu) hD hN hR ht l1 (u := uA) (fun j hj => by rw [show 36 * dn false + j = j from Nat.zero_add j]; exact (hu j hj).1) hA hkW
      have e2 : mX5_isWell N (nI W) (nI H) f mu mb me mf (nI k) 1 = _ := isWell_n (d := true) (mu := mu) hD hN hR ht l2 (u := uD) (fun j hj => (hu j hj).2) hB hkW
      rw [s_mX5_isAllWell_2, pk_mul, if_neg (nI_ge (by omega) (by omega)), if_neg (bad_n (by omega) (by omega)), nI_clamp (by omega), nI_1, allf, h, e1, Option.bind_some, e2]
      unfold okc
      by_cases c : f k = -1
      · rw [if_pos c, decide_eq_true c, Bool.true_or, Bool.true_and]
      · rw [if_neg c, decide_eq_false c, Bool.false_or]
        cases wsp f uA false W H k
        · rfl
        · rw [if_pos rfl, if_neg (by decide), Option.bind_some, bq, Bool.true_and]
          cases wsp f uD true W H k
          · rfl
          · rw [if_pos rfl, Bool.true_and]
  exact key (W * H) N 0 (by omega) (by omega)
theorem ct_and {P Q : Nat → Bool} {n : Nat} : fb_ct (fun k => P k && Q k) n ≤ fb_ct P n ∧ (fb_ct (fun k => P k && Q k) n = fb_ct P n ↔ ∀ k, k < n → P k = true → Q k = true) := by
  have h := fb_ct_or (n := n) (p := fun k => P k && Q k) (q := fun k => P k && !Q k) (fun k _ hk => by
    cases hp : P k <;> cases hq : Q k <;> simp [hp, hq] at hk)
  have e : fb_ct (fun k => (P k && Q k) || (P k && !Q k)) n = fb_ct P n := fb_ct_cong (fun k _ => by cases P k <;> cases Q k <;> rfl)
  rw [e] at h
  refine ⟨by omega, ?_⟩
  constructor
  · intro q k hk hp
    have z : fb_ct (fun k => P k && !Q k) n = 0 := by omega
    have := fb_ct_zero.mp z k hk
    cases hq : Q k
    · simp [hp, hq] at this
    · rfl
  · intro q
    have z : fb_ct (fun k => P k && !Q k) n = 0 := fb_ct_zero.mpr (fun k hk => by
      cases hp : P k
      · rfl
      · rw [q k hk hp]; rfl)
    omega
theorem well_all {d : Bool} {u : RowI} (hD : Dim W H) : (∀ k, k < W * H → bgn f d W k = true → wsp f u d W H k = true) ↔ ∀ k, k < W * H → f k ≠ -1 → wsp f u d W H k = true := by
  constructor
  · intro h k hk ho
    rw [← wsp_bg hD hk]
    exact h _ (bg_lt hk) (bgn_t.mpr ⟨bg_open hD k hk ho, bg_bg hD k hk⟩)
  · intro h k hk hb
    exact h k hk (bgn_t.mp hb).1
theorem allWell_c (hN : 600 ≤ N) {cA cD : CS} {su : RowJ} (hS : ST W H f cA cD su) : mX1_isAllWell N f (nI W) (nI H) cA cD su = some (if aw f cA.1 cD.1 W H = true then 1 else 0) := by
  obtain ⟨hD, hR, hA, hB, uA, uD, hT⟩ := hS
  have g36 := dim36 hD
  obtain ⟨a1, a2⟩ := ct_and (P := bgn f false W) (Q := wsp f cA.1 false W H) (n := W * H)
  obtain ⟨b1, b2⟩ := ct_and (P := bgn f true W) (Q := wsp f cD.1 true W H) (n := W * H)
  have c1 := fb_ct_le (bgn f false W) (W * H)
  have c2 := fb_ct_le (bgn f true W) (W * H)
  rw [mX1_isAllWell, wellOf_n hD hN hR hA uA hT, wellOf_n hD hN hR hB uD hT, corridorsOf_n hD hN hA, corridorsOf_n hD hN hB]
  simp only [Option.bind_some, nI_add]
  rw [well_all hD] at a2 b2
  have e : (nI (fb_ct (wlb f cA.1 false W H) (W * H) + fb_ct (wlb f cD.1 true W H) (W * H)) = nI (fb_ct (bgn f false W) (W * H) + fb_ct (bgn f true W) (W * H))) ↔ aw f cA.1 cD.1 W H = true := by
    have w1 : fb_ct (wlb f cA.1 false W H) (W * H) = fb_ct (fun k => bgn f false W k && wsp f cA.1 false W H k) (W * H) := rfl
    have w2 : fb_ct (wlb f cD.1 true W H) (W * H) = fb_ct (fun k => bgn f true W k && wsp f cD.1 true W H k) (W * H) := rfl
    rw [w1, w2, nI_eq (by omega) (by omega)]
    unfold aw
    rw [allf_t]
    constructor
    · intro q j _ hj
      have p1 := a2.mp (by omega) j (by omega)
      have p2 := b2.mp (by omega) j (by omega)
      unfold okc
      by_cases c : f j = -1
      · rw [decide_eq_true c, Bool.true_or]
      · rw [p1 c, p2 c, decide_eq_false c]
        rfl
    · intro q
      have p : ∀ j, j < W * H → f j ≠ -1 → wsp f cA.1 false W H j = true ∧ wsp f cD.1 true W H j = true := by
        intro j hj ho
        have h := q j (Nat.zero_le _) (by omega)
        unfold okc at h
        rw [decide_eq_false ho, Bool.false_or, Bool.and_eq_true] at h
        exact h
      rw [a2.mpr (fun j hj ho => (p j hj ho).1), b2.mpr (fun j hj ho => (p j hj ho).2)]
  by_cases q : aw f cA.1 cD.1 W H = true
  · rw [if_pos (e.mpr q), if_pos q]
  · rw [if_neg (fun r => q (e.mp r)), if_neg q]
end MC
