/-! ===== calls, on: pillar, setSum, put, force ===== -/
theorem ne10 : ¬ (1 : Int32) = 0 := by decide
theorem ne20 : ¬ (2 : Int32) = 0 := by decide
theorem ne30 : ¬ (3 : Int32) = 0 := by decide
theorem ix0 {k : Nat} : (36 : Int32) * 0 + nI k = nI k := by rw [show (36 : Int32) * 0 = nI 0 by decide, nI_add, Nat.zero_add]
theorem ix1 {k : Nat} : (36 : Int32) * 1 + nI k = nI (36 + k) := by rw [show (36 : Int32) * 1 = nI 36 by decide, nI_add]
section C2
variable {N : Nat} {ke : RowI} {tr fo fr : Int32} {st : RowI} {co ro : Int32} {cA cD : CS} {su : RowJ} {w h : Int32} {ms mu mb me mf : RowI}
theorem UR.upd {u : RowI} (h : UR u) (k : Nat) {v : Nat} (hv : v ≤ 45) : UR (upd u k (nI v)) := by
  intro j hj
  by_cases e : j = k
  · subst e; rw [upd_s]; exact ⟨v, hv, rfl⟩
  · rw [upd_n e]; exact h j hj
end C2
