/-! ===== the search: the model ===== -/
def lg (a : SA) : Int32 := if 4000 < a.1 then 1 else 0
section SM
variable {W H : Nat} {mu mb me mf uA uD : RowI} {N : Nat}
theorem over_m {a : SA} (h : SI a) : mX5_isOver N (nI a.2.1) (lg a) = some (if over a = true then 1 else 0) := by
  obtain ⟨h1, h2⟩ := h
  rw [mX5_isOver]
  unfold over lg
  by_cases c : 4000 < a.1
  · rw [if_pos c, if_neg (by decide), decide_eq_true c, Bool.true_or, if_pos rfl]
  · rw [if_neg c, if_pos rfl, decide_eq_false c, Bool.false_or]
    by_cases e : 100 ≤ a.2.1
    · rw [if_pos (show nI a.2.1 = (100 : Int32) from (nI_eq (b := 100) (by omega) (by omega)).mpr (by omega)), decide_eq_true e, if_pos rfl]
    · rw [if_neg (show ¬ nI a.2.1 = (100 : Int32) from fun q => by have := (nI_eq (b := 100) (by omega) (by omega)).mp q; omega), decide_eq_false e, if_neg (by decide)]
theorem fill_78 (hN : 600 ≤ N) (hD : Dim W H) (R : Int32 → Int32 → RowI → RowI → RowI → RowI → RowI → Int32 → Int32 → Int32 → RowI → Int32 → Option (RowI × Int32 × Int32 × Int32 × RowI)) {f : RowI} {c : Nat} (hc : c < W * H) (h0 : f c = 0) (hR0 : SR f) (hM : MS W H f uA uD mu mb me mf) (hA : UR uA) (hB : UR uD) (R' : Nat → SA → SA)
    (hR : ∀ n a mk, 1 ≤ n → n ≤ 9 → SI a → a.2.1 < 100 → a.1 ≤ 4000 → KR a mk → ∃ mk', R (nI W) (nI H) (upd f c (nI n)) mu mb me mf (nI a.1) (nI a.2.1) 0 mk (nI (c + 1)) = some (upd f c (nI n), nI (R' n a).1, nI (R' n a).2.1, lg (R' n a), mk') ∧ KR (R' n a) mk' ∧ SI (R' n a)) :
    ∀ m n k a mk, m < n → k + m = 10 → 1 ≤ k → SI a → KR a mk → ∃ mk', mX5_fill_78 N R (nI W) (nI H) mu mb me mf n (nI c) (nI k) f (nI a.1) (nI a.2.1) (lg a) mk = some (f, nI (srl (fun n => (2 * cn f uA uD W H c).testBit n) R' m k a).1, nI (srl (fun n => (2 * cn f uA uD W H c).testBit n) R' m k a).2.1, lg (srl (fun n => (2 * cn f uA uD W H c).testBit n) R' m k a), mk') ∧ KR (srl (fun n => (2 * cn f uA uD W H c).testBit n) R' m k a) mk' ∧ SI (srl (fun n => (2 * cn f uA uD W H c).testBit n) R' m k a) := by
  have g36 := dim36 hD
  have hset : cn f uA uD W H c = stf (fun n => wsp (upd f c (nI n)) uA false W H c && wsp (upd f c (nI n)) uD true W H c) 9 := if_pos h0
  intro m
  induction m with
  | zero =>
    intro n k a mk hn hk h1 hS hK
    obtain ⟨n, rfl⟩ : ∃ j, n = j + 1 := ⟨n - 1, by omega⟩
    obtain rfl : k = 10 := by omega
    rw [s_mX5_fill_78, if_pos (show (9 : Int32) < nI 10 by decide)]
    exact ⟨mk, rfl, hK, hS⟩
  | succ m ih =>
    intro n k a mk hn hk h1 hS hK
    obtain ⟨n, rfl⟩ : ∃ j, n = j + 1 := ⟨n - 1, by omega⟩
    have hP : (2 * cn f uA uD W H c).testBit k = (wsp (upd f c (nI k)) uA false W H c && wsp (upd f c (nI k)) uD true W H c) := by
      obtain ⟨k, rfl⟩ : ∃ j, k = j + 1 := ⟨k - 1, by omega⟩
      rw [hset, Nat.testBit_succ, Nat.mul_div_cancel_left _ (by decide), stf_bit, decide_eq_true (show k < 9 by omega), Bool.true_and]
    rw [s_mX5_fill_78, if_neg (show ¬ (9 : Int32) < nI k from nI_nlt (a := 9) (by omega) (by omega)), over_m hS, Option.bind_some, bq, srl]
    cases ho1 : over a
    · obtain ⟨o1, o2⟩ := over_f ho1
      have skip : SI (a.1 + 1, a.2) := ⟨by show a.1 + 1 ≤ 4001; omega, hS.2⟩
      rw [if_neg (show ¬ false = true by decide), if_neg (show ¬ false = true by decide), show nI a.1 + (1 : Int32) = nI (a.1 + 1) from nI_1 _, nI_1]
      by_cases c1 : 4000 < a.1 + 1
      · have el : lg (a.1 + 1, a.2) = 1 := if_pos c1
        rw [if_neg (show ¬ nI (a.1 + 1) ≤ (4000 : Int32) from nI_ge (a := 4000) c1 (by omega)), if_neg (show ¬ (1 : Int32) = 0 by decide), if_neg (show ¬ (a.1 + 1 ≤ 4000 ∧ (2 * cn f uA uD W H c).testBit k = true) by omega)]
        have := ih n (k + 1) (a.1 + 1, a.2) mk (by omega) (by omega) (by omega) skip hK
        rw [el] at this
        exact this
      · have el : lg (a.1 + 1, a.2) = 0 := if_neg c1
        rw [if_pos (show nI (a.1 + 1) ≤ (4000 : Int32) from nI_le (b := 4000) (by omega) (by omega)), if_pos rfl, stands_n hN hD hR0 hM hA hB hc h0 (by omega), Option.bind_some]
        dsimp only
        rw [bq, ← hP]
        cases hb : (2 * cn f uA uD W H c).testBit k
        · rw [if_neg (show ¬ false = true by decide), if_neg (show ¬ (a.1 + 1 ≤ 4000 ∧ false = true) by simp)]
          have := ih n (k + 1) (a.1 + 1, a.2) mk (by omega) (by omega) (by omega) skip hK
          rw [el] at this
          exact this
        · obtain ⟨mk1, e1, e2, e3⟩ := hR k (a.1 + 1, a.2) mk h1 (by omega) skip o2 (by show a.1 + 1 ≤ 4000; omega) hK
          have e1 : R (nI W) (nI H) (upd f c (nI k)) mu mb me mf (nI (a.1 + 1)) (nI a.2.1) 0 mk (nI (c + 1)) = _ := e1
          rw [if_pos rfl, if_pos (show a.1 + 1 ≤ 4000 ∧ true = true from ⟨by omega, rfl⟩), if_neg (bad_n (by omega) (by omega))]
          simp only [nI_clamp (show c < 2 ^ 31 by omega)]
          rw [show nI c + (1 : Int32) = nI (c + 1) from nI_1 _, e1, Option.bind_some, if_neg (bad_n (by omega) (by omega))]
          dsimp only
          rw [upd_upd, upd_id h0]
          exact ih n (k + 1) _ mk1 (by omega) (by omega) (by omega) e3 e2
    · rw [if_pos rfl, if_pos rfl]
      exact ⟨mk, rfl, hK, hS⟩
theorem fill_2 (hD : Dim W H) (R : Int32 → Int32 → RowI → RowI → RowI → RowI → RowI → Int32 → Int32 → Int32 → RowI → Int32 → Option (RowI × Int32 × Int32 × Int32 × RowI)) {f : RowI} {mt mv ml : Int32} {mk : RowI} : ∀ m n k, m < n → k + m = W * H →
    mX5_fill_2 N R (nI W) (nI H) f mu mb me mf mt mv ml mk n (nI k) = mX5_fill_30 N R (nI W) (nI H) f mu mb me mf mt mv ml mk (nI ((zl f m k).headD (W * H))) ∧ ∀ c cs, zl f m k = c :: cs → cs = zl f (W * H - (c + 1)) (c + 1) := by
  have g36 := dim36 hD
  intro m
  induction m with
  | zero =>
    intro n k hn hk
    obtain ⟨n, rfl⟩ : ∃ j, n = j + 1 := ⟨n - 1, by omega⟩
    obtain rfl : k = W * H := by omega
    rw [s_mX5_fill_2, pk_mul, if_pos (nI_le (Nat.le_refl _) (by omega))]
    exact ⟨rfl, fun c cs h => by simp [zl] at h⟩
  | succ m ih =>
    intro n k hn hk
    obtain ⟨n, rfl⟩ : ∃ j, n = j + 1 := ⟨n - 1, by omega⟩
    rw [s_mX5_fill_2, pk_mul, if_neg (nI_ge (by omega) (by omega)), if_neg (bad_n (by omega) (by omega)), nI_clamp (by omega), zl]
    by_cases c : f k = 0
    · rw [if_pos c, if_pos c]
      refine ⟨rfl, fun c cs h => ?_⟩
      simp only [List.cons.injEq] at h
      obtain ⟨rfl, rfl⟩ := h
      rw [show W * H - (k + 1) = m by omega]
    · rw [if_neg c, if_neg c, nI_1]
      exact ih n (k + 1) (by omega) (by omega)
theorem fill_n (hN : 600 ≤ N) (hD : Dim W H) (hA : UR uA) (hB : UR uD) : ∀ (cs : List Nat) d k f a mk, cs.length < d → k ≤ W * H → cs = zl f (W * H - k) k → SR f → MS W H f uA uD mu mb me mf → SI a → a.2.1 < 100 → KR a mk →
    ∃ mk', mX5_fill N d (nI W) (nI H) f mu mb me mf (nI a.1) (nI a.2.1) (lg a) mk (nI k) = some (f, nI (srch (fun f k => cn f uA uD W H k) cs f a).1, nI (srch (fun f k => cn f uA uD W H k) cs f a).2.1, lg (srch (fun f k => cn f uA uD W H k) cs f a), mk') ∧ KR (srch (fun f k => cn f uA uD W H k) cs f a) mk' ∧ SI (srch (fun f k => cn f uA uD W H k) cs f a) := by
  have g36 := dim36 hD
  intro cs
  induction cs with
  | nil =>
    intro d k f a mk hd hk hz hR hM hI h100 hK
    obtain ⟨d, rfl⟩ : ∃ j, d = j + 1 := ⟨d - 1, by omega⟩
    obtain ⟨h1, _⟩ := fill_2 (N := N) (mu := mu) (mb := mb) (me := me) (mf := mf) hD (mX5_fill N d) (f := f) (mt := nI a.1) (mv := nI a.2.1) (ml := lg a) (mk := mk) (W * H - k) N k (by omega) (by omega)
    rw [s_mX5_fill, h1, ← hz, List.headD_nil, mX5_fill_30, pk_mul, if_pos rfl, show nI a.2.1 + (1 : Int32) = nI (a.2.1 + 1) from nI_1 _]
    have hI' : SI (srch (fun f k => cn f uA uD W H k) [] f a) := ⟨hI.1, by show a.2.1 + 1 ≤ 100; omega⟩
    by_cases c : a.2.1 = 0
    · rw [if_pos (by rw [c]; exact nI_0)]
      refine ⟨_, rfl, fun _ => ⟨f, ?_, fun j hj => ?_⟩, hI'⟩
      · show (if a.2.1 = 0 then some f else a.2.2) = some f
        rw [if_pos c]
      · rw [pk_cpy_in (by omega) (by omega)]
        show f (0 + j) = f j
        rw [Nat.zero_add]
    · rw [if_neg (nI_ne0 (by omega) (by have := hI.2; omega))]
      refine ⟨mk, rfl, fun _ => ?_, hI'⟩
      show ∃ g, (if a.2.1 = 0 then some f else a.2.2) = some g ∧ _
      rw [if_neg c]
      exact hK c
  | cons c cs ih =>
    intro d k f a mk hd hk hz hR hM hI h100 hK
    obtain ⟨d, rfl⟩ : ∃ j, d = j + 1 := ⟨d - 1, by omega⟩
    simp only [List.length_cons] at hd
    obtain ⟨h1, h2⟩ := fill_2 (N := N) (mu := mu) (mb := mb) (me := me) (mf := mf) hD (mX5_fill N d) (f := f) (mt := nI a.1) (mv := nI a.2.1) (ml := lg a) (mk := mk) (W * H - k) N k (by omega) (by omega)
    obtain ⟨q1, q2, hc0⟩ := zl_in (f := f) (W * H - k) k c (by rw [← hz]; exact List.mem_cons_self)
    have hcs := h2 c cs hz.symm
    have hcW : c < W * H := by omega
    rw [s_mX5_fill, h1, ← hz, List.headD_cons, mX5_fill_30, pk_mul, if_neg (fun e => by have := (nI_eq (by omega) (by omega)).mp e; omega)]
    exact fill_78 hN hD (mX5_fill N d) hcW hc0 hR hM hA hB (fun n b => srch (fun f k => cn f uA uD W H k) cs (upd f c (nI n)) b) (fun n b mk1 h1 h9 bI b100 b4 bK => by
      have el : lg b = 0 := if_neg (by omega)
      have := ih d (c + 1) (upd f c (nI n)) b mk1 (by omega) (by omega) (by
        rw [hcs]
        exact zl_cong _ _ (fun j hj => (upd_n (by omega)).symm)) (hR.upd c h9) (hM.upd (by rw [hc0]; decide) h9) bI b100 bK
      rw [el] at this
      exact this) 9 N 1 a mk (by omega) (by omega) (by omega) hI hK
/-- CryptSumsModel.look -/
theorem look_m (hN : 600 ≤ N) (hD : Dim W H) {f : RowI} (hR : SR f) (hM : MS W H f uA uD mu mb me mf) (hA : UR uA) (hB : UR uD) (mt mv ml : Int32) (mk : RowI) : ∃ mk', mX5_look N (nI W) (nI H) f mu mb me mf mt mv ml mk = some (f, nI (res f uA uD W H).1, nI (res f uA uD W H).2.1, lg (res f uA uD W H), mk') ∧ KR (res f uA uD W H) mk' ∧ SI (res f uA uD W H) := by
  have key : ∀ m n k mk, m < n → k + m = 36 → ∃ mk', mX5_look_17 N (nI W) (nI H) f mu mb me mf n (nI k) 0 0 0 mk = some (f, nI (res f uA uD W H).1, nI (res f uA uD W H).2.1, lg (res f uA uD W H), mk') ∧ KR (res f uA uD W H) mk' ∧ SI (res f uA uD W H) := by
    intro m
    induction m with
    | zero =>
      intro n k mk hn hk
      obtain ⟨n, rfl⟩ : ∃ j, n = j + 1 := ⟨n - 1, by omega⟩
      obtain rfl : k = 36 := by omega
      rw [s_mX5_look_17, if_pos (show (36 : Int32) ≤ nI 36 by decide), allWell_m hN hD hR hM hA hB, Option.bind_some, bq]
      unfold res
      cases aw f uA uD W H
      · rw [if_neg (by decide), if_neg (by decide)]
        exact ⟨mk, rfl, fun h => absurd rfl h, by show 0 ≤ 4001; omega, by show 0 ≤ 100; omega⟩
      · have hlen := zl_len (f := f) (W * H) 0
        have g36 := dim36 hD
        obtain ⟨mk', q1, q2, q3⟩ := fill_n (mu := mu) (mb := mb) (me := me) (mf := mf) hN hD hA hB (zl f (W * H) 0) 40 0 f (0, 0, none) mk (by omega) (by omega) rfl hR hM ⟨by show 0 ≤ 4001; omega, by show 0 ≤ 100; omega⟩ (by show 0 < 100; omega) (fun h => absurd rfl h)
        have q1 : mX5_fill N 40 (nI W) (nI H) f mu mb me mf 0 0 0 mk 0 = _ := q1
        rw [if_pos rfl, if_pos rfl, q1, Option.bind_some]
        exact ⟨mk', rfl, q2, q3⟩
    | succ m ih =>
      intro n k mk hn hk
      obtain ⟨n, rfl⟩ : ∃ j, n = j + 1 := ⟨n - 1, by omega⟩
      rw [s_mX5_look_17, if_neg (show ¬ (36 : Int32) ≤ nI k from nI_ge (b := 36) (by omega) (by omega)), if_neg (bad_n (by omega) (by omega)), nI_1]
      exact ih n (k + 1) _ (by omega) (by omega)
  exact key 36 N 0 mk (by omega) (by omega)
end SM
