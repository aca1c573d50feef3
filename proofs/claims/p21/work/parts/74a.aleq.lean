theorem al_eq {r o : UInt64} (h : alike64 r o = true) (ho : isNaN64 o = false) : r = o := by
  unfold alike64 at h
  rw [Bool.or_eq_true, decide_eq_true_iff, Bool.and_eq_true] at h
  rcases h with h | h
  · exact h
  · rw [h.2] at ho; cases ho
