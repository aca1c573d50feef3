/-! ===== the model's counts ===== -/
theorem nI_a0 (a : Nat) : nI a + (0 : Int32) = nI a := nI_add a 0
theorem nI_a1 (a : Nat) : nI a + (1 : Int32) = nI (a + 1) := nI_1 a
def uD2 (uA uD : RowI) (d : Bool) : RowI := if d then uD else uA
def Qc (f uA uD : RowI) (W H : Nat) (what : Int32) (d : Bool) (k : Nat) : Bool :=
  if what = 4 then bgn f d W k else if what = 5 then smb f (uD2 uA uD d) d W k else wlb f (uD2 uA uD d) d W H k
theorem ct_two (P : Nat → Bool) (A B : Nat → Bool) (hA : ∀ k, P (2 * k) = A k) (hB : ∀ k, P (2 * k + 1) = B k) : ∀ k, fb_ct P (2 * k) = fb_ct A k + fb_ct B k
  | 0 => rfl
  | k + 1 => by
    rw [show 2 * (k + 1) = 2 * k + 1 + 1 by omega, fb_ct_succ, fb_ct_succ, fb_ct_succ, fb_ct_succ, ct_two P A B hA hB k, hA, hB]
    omega
section MC
variable {W H : Nat} {f : RowI} {N : Nat} {mu mb me mf uA uD : RowI}
theorem at_two (a : Nat) : ∃ (k : Nat) (d : Bool), a = 2 * k + dn d ∧ a / 2 = k ∧ a % 2 = dn d := by
  rcases Nat.mod_two_eq_zero_or_one a with h | h
  · exact ⟨a / 2, false, by show a = 2 * (a / 2) + 0; omega, rfl, h⟩
  · exact ⟨a / 2, true, by show a = 2 * (a / 2) + 1; omega, rfl, h⟩
def Qa (f uA uD : RowI) (W H : Nat) (what : Int32) (a : Nat) : Bool := Qc f uA uD W H what (decide (a % 2 = 1)) (a / 2)
theorem Qa_n {what : Int32} {k : Nat} {d : Bool} : Qa f uA uD W H what (2 * k + dn d) = Qc f uA uD W H what d k := by
  unfold Qa
  cases d
  · rw [show (2 * k + dn false) % 2 = 0 by show (2 * k + 0) % 2 = 0; omega, show (2 * k + dn false) / 2 = k by show (2 * k + 0) / 2 = k; omega]
    rfl
  · rw [show (2 * k + dn true) % 2 = 1 by show (2 * k + 1) % 2 = 1; omega, show (2 * k + dn true) / 2 = k by show (2 * k + 1) / 2 = k; omega]
    rfl
/-! ===== whether all is well ===== -/
def okc (f uA uD : RowI) (W H k : Nat) : Bool := decide (f k = -1) || (wsp f uA false W H k && wsp f uD true W H k)
def allf (P : Nat → Bool) : Nat → Nat → Bool
  | 0, _ => true
  | m + 1, k => P k && allf P m (k + 1)
theorem allf_t {P : Nat → Bool} : ∀ m k, allf P m k = true ↔ ∀ j, k ≤ j → j < k + m → P j = true
  | 0, k => ⟨fun _ j h1 h2 => absurd h2 (by omega), fun _ => rfl⟩
  | m + 1, k => by
    rw [allf, Bool.and_eq_true, allf_t m (k + 1)]
    constructor
    · rintro ⟨h1, h2⟩ j h3 h4
      rcases Nat.eq_or_lt_of_le h3 with q | q
      · rw [← q]; exact h1
      · exact h2 j q (by omega)
    · intro h
      exact ⟨h k (Nat.le_refl _) (by omega), fun j h1 h2 => h j (by omega) (by omega)⟩
def aw (f uA uD : RowI) (W H : Nat) : Bool := allf (okc f uA uD W H) (W * H) 0
theorem ct_and {P Q : Nat → Bool} {n : Nat} : fb_ct (fun k => P k && Q k) n ≤ fb_ct P n ∧ (fb_ct (fun k => P k && Q k) n = fb_ct P n ↔ ∀ k, k < n → P k = true → Q k = true) := by
  have h := fb_ct_or (n := n) (p := fun k => P k && Q k) (q := fun k => P k && !Q k) (fun k _ hk => by
    cases hp : P k <;> cases hq : Q k <;> simp [hp, hq] at hk)
  have e : fb_ct (fun k => (P k && Q k) || (P k && !Q k)) n = fb_ct P n := fb_ct_cong (fun k _ => by cases P k <;> cases Q k <;> rfl)
  rw [e] at h
  refine ⟨by omega, ?_⟩
  constructor
  · intro q k hk hp
    have z : fb_ct (fun k => P k && !Q k) n = 0 := by omega
    have := fb_ct_zero.mp z k hk
    cases hq : Q k
    · simp [hp, hq] at this
    · rfl
  · intro q
    have z : fb_ct (fun k => P k && !Q k) n = 0 := fb_ct_zero.mpr (fun k hk => by
      cases hp : P k
      · rfl
      · rw [q k hk hp]; rfl)
    omega
theorem well_all {d : Bool} {u : RowI} (hD : Dim W H) : (∀ k, k < W * H → bgn f d W k = true → wsp f u d W H k = true) ↔ ∀ k, k < W * H → f k ≠ -1 → wsp f u d W H k = true := by
  constructor
  · intro h k hk ho
    rw [← wsp_bg hD hk]
    exact h _ (bg_lt hk) (bgn_t.mpr ⟨bg_open hD k hk ho, bg_bg hD k hk⟩)
  · intro h k hk hb
    exact h k hk (bgn_t.mp hb).1
theorem allWell_c (hN : 600 ≤ N) {cA cD : CS} {su : RowJ} (hS : ST W H f cA cD su) : mX1_isAllWell N f (nI W) (nI H) cA cD su = some (if aw f cA.1 cD.1 W H = true then 1 else 0) := by
  obtain ⟨hD, hR, hA, hB, uA, uD, hT⟩ := hS
  have g36 := dim36 hD
  obtain ⟨a1, a2⟩ := ct_and (P := bgn f false W) (Q := wsp f cA.1 false W H) (n := W * H)
  obtain ⟨b1, b2⟩ := ct_and (P := bgn f true W) (Q := wsp f cD.1 true W H) (n := W * H)
  have c1 := fb_ct_le (bgn f false W) (W * H)
  have c2 := fb_ct_le (bgn f true W) (W * H)
  rw [mX1_isAllWell, wellOf_n hD hN hR hA uA hT, wellOf_n hD hN hR hB uD hT, corridorsOf_n hD hN hA, corridorsOf_n hD hN hB]
  simp only [Option.bind_some, nI_add]
  rw [well_all hD] at a2 b2
  have e : (nI (fb_ct (wlb f cA.1 false W H) (W * H) + fb_ct (wlb f cD.1 true W H) (W * H)) = nI (fb_ct (bgn f false W) (W * H) + fb_ct (bgn f true W) (W * H))) ↔ aw f cA.1 cD.1 W H = true := by
    have w1 : fb_ct (wlb f cA.1 false W H) (W * H) = fb_ct (fun k => bgn f false W k && wsp f cA.1 false W H k) (W * H) := rfl
    have w2 : fb_ct (wlb f cD.1 true W H) (W * H) = fb_ct (fun k => bgn f true W k && wsp f cD.1 true W H k) (W * H) := rfl
    rw [w1, w2, nI_eq (by omega) (by omega)]
    unfold aw
    rw [allf_t]
    constructor
    · intro q j _ hj
      have p1 := a2.mp (by omega) j (by omega)
      have p2 := b2.mp (by omega) j (by omega)
      unfold okc
      by_cases c : f j = -1
      · rw [decide_eq_true c, Bool.true_or]
      · rw [p1 c, p2 c, decide_eq_false c]
        rfl
    · intro q
      have p : ∀ j, j < W * H → f j ≠ -1 → wsp f cA.1 false W H j = true ∧ wsp f cD.1 true W H j = true := by
        intro j hj ho
        have h := q j (Nat.zero_le _) (by omega)
        unfold okc at h
        rw [decide_eq_false ho, Bool.false_or, Bool.and_eq_true] at h
        exact h
      rw [a2.mpr (fun j hj ho => (p j hj ho).1), b2.mpr (fun j hj ho => (p j hj ho).2)]
  by_cases q : aw f cA.1 cD.1 W H = true
  · rw [if_pos (e.mpr q), if_pos q]
  · rw [if_neg (fun r => q (e.mp r)), if_neg q]
end MC
