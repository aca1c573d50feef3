/-! ===== the relation between the class and the model, and every call ===== -/
theorem rng {x : Int32} (lo hi : Nat) (hh : hi < 2 ^ 31) (hl : lo ≤ hi) (h1 : ¬ x < nI lo) (h2 : ¬ nI hi < x) : ∃ a, lo ≤ a ∧ a ≤ hi ∧ x = nI a := by
  rw [Int32.lt_iff_toInt_lt, nI_toInt (by omega)] at h1
  rw [Int32.lt_iff_toInt_lt, nI_toInt (by omega)] at h2
  refine ⟨x.toInt.toNat, by omega, by omega, ?_⟩
  apply Int32.toInt_inj.mp
  rw [nI_toInt (by omega)]
  omega
theorem open_n {f : RowI} {k : Nat} (hk : k < 36) (N : Nat) : mX4_checkOpen N f (nI k) = some (if f k = -1 then .inl 3 else .inr ()) := by
  rw [mX4_checkOpen, mX1_isPillar, rd_n hk]
  by_cases c : f k = -1
  · rw [if_pos c, if_pos c]; rfl
  · rw [if_neg c, if_neg c]; rfl
theorem ou_0 {ou : RowJ} {v : Int64} : vp_updL ou (0 : Int32).toNatClampNeg v 0 = v := rfl
theorem bad01 : ¬ bad (0 : Int32) 1 := by decide
/-! a new floor -/
def zr : Nat → RowI → RowI
  | 0, f => f
  | k + 1, f => upd (zr k f) k 0
theorem zr_at {f : RowI} : ∀ n j, j < n → zr n f j = 0
  | n + 1, j, h => by
    rw [zr]
    by_cases e : j = n
    · subst e; rw [upd_s]
    · rw [upd_n e]; exact zr_at n j (by omega)
theorem zr_z : ∀ n, zr n (fun _ => 0) = fun _ => 0
  | 0 => rfl
  | n + 1 => by rw [zr, zr_z n, upd_id rfl]
section CL
variable {N : Nat}
theorem told_clear {cs : CS} {s : Int32} : ∀ m n k, m < n → k + m = 36 → mX0_clear_7 N n (nI k) (zr k cs.1, cs.2.1, cs.2.2.1, s) = some (zr 36 cs.1, cs.2.1, cs.2.2.1, s) := by
  intro m
  induction m with
  | zero =>
    intro n k hn hk
    obtain ⟨n, rfl⟩ : ∃ j, n = j + 1 := ⟨n - 1, by omega⟩
    obtain rfl : k = 36 := by omega
    rw [s_mX0_clear_7, if_pos (show (36 : Int32) ≤ nI 36 by decide)]
  | succ m ih =>
    intro n k hn hk
    obtain ⟨n, rfl⟩ : ∃ j, n = j + 1 := ⟨n - 1, by omega⟩
    rw [s_mX0_clear_7, if_neg (show ¬ (36 : Int32) ≤ nI k from nI_ge (b := 36) (by omega) (by omega)), wr_n (by omega), nI_1]
    exact ih n (k + 1) (by omega) (by omega)
theorem clear_n {W H : Nat} (hD : Dim W H) (hN : 600 ≤ N) (f : RowI) (co ro : Int32) (cA cD : CS) : ∃ cA' cD', mX1_clear N f co ro cA cD (nI W) (nI H) = some (zr 36 f, nI W, nI H, cA', cD') ∧ JI false W H (zr 36 f) (W * H) cA' ∧ JI true W H (zr 36 f) (W * H) cD' ∧ cA'.1 = zr 36 cA.1 ∧ cD'.1 = zr 36 cD.1 := by
  obtain ⟨cA', cD', hj, h1, h2, h3, h4⟩ := joinCells_n (f := zr 36 f) hD hN (cA := (zr 36 cA.1, cA.2.1, cA.2.2.1, 1)) (cD := (zr 36 cD.1, cD.2.1, cD.2.2.1, nI W)) rfl rfl
  refine ⟨cA', cD', ?_, h1, h2, h3, h4⟩
  have key : ∀ m n k, m < n → k + m = 36 → mX1_clear_12 N cA cD (nI W) n (nI k) (zr k f) (nI W) (nI H) = some (zr 36 f, nI W, nI H, cA', cD') := by
    intro m
    induction m with
    | zero =>
      intro n k hn hk
      obtain ⟨n, rfl⟩ : ∃ j, n = j + 1 := ⟨n - 1, by omega⟩
      obtain rfl : k = 36 := by omega
      have t1 := told_clear (N := N) (cs := cA) (s := 1) 36 N 0 (by omega) (by omega)
      have t2 := told_clear (N := N) (cs := cD) (s := nI W) 36 N 0 (by omega) (by omega)
      rw [s_mX1_clear_12, if_pos (show (36 : Int32) ≤ nI 36 by decide), mX0_clear, show mX0_clear_7 N N (0 : Int32) (cA.1, cA.2.1, cA.2.2.1, 1) = _ from t1, Option.bind_some, mX0_clear, show mX0_clear_7 N N (0 : Int32) (cD.1, cD.2.1, cD.2.2.1, nI W) = _ from t2, Option.bind_some, hj]
      rfl
    | succ m ih =>
      intro n k hn hk
      obtain ⟨n, rfl⟩ : ∃ j, n = j + 1 := ⟨n - 1, by omega⟩
      rw [s_mX1_clear_12, if_neg (show ¬ (36 : Int32) ≤ nI k from nI_ge (b := 36) (by omega) (by omega)), wr_n (by omega), nI_1]
      exact ih n (k + 1) (by omega) (by omega)
  exact key 36 N 0 (by omega) (by omega)
theorem ur_z {u : RowI} (h : ∀ k, k < 36 → u k = 0) : UR u := fun k hk => ⟨0, by omega, h k hk⟩
theorem sr_z {f : RowI} (h : ∀ k, k < 36 → f k = 0) : SR f := fun k hk => Or.inr ⟨0, by omega, h k hk⟩
end CL
