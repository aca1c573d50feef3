/-! ===== calls, on: those that ask ===== -/
section C3
variable {N : Nat} {ke : RowI} {tr fo fr : Int32} {st : RowI} {co ro : Int32} {cA cD : CS} {su : RowJ} {w h : Int32} {ms mu mb me mf : RowI}
theorem key_n (a b : Nat) : ((46 : Int32) * nI a) + nI b = nI (46 * a + b) := by rw [show (46 : Int32) = nI 46 from rfl, pk_mul, nI_add]
/-- asked, the search is fresh -/
theorem refresh_any {W H : Nat} (hN : 600 ≤ N) (hS : ST W H st cA cD su) (hf : fr = 0 ∨ (fr = 1 ∧ tr = nI (res st cA.1 cD.1 W H).1 ∧ fo = nI (res st cA.1 cD.1 W H).2.1 ∧ KR (res st cA.1 cD.1 W H) ke ∧ SI (res st cA.1 cD.1 W H))) (ho : RowI) (hc : Int32) :
    ∃ ho' ke' hc', mX3_refresh N ho ke hc tr fo fr st (nI W) (nI H) cA cD su = some (ho', ke', hc', nI (res st cA.1 cD.1 W H).1, nI (res st cA.1 cD.1 W H).2.1, 1, st) ∧ KR (res st cA.1 cD.1 W H) ke' ∧ SI (res st cA.1 cD.1 W H) := by
  rcases hf with rfl | ⟨rfl, rfl, rfl, h4, h5⟩
  · exact refresh_n hN hS ho ke hc tr fo
  · exact ⟨ho, ke, hc, by rw [mX3_refresh, if_neg ne10], h4, h5⟩
end C3
