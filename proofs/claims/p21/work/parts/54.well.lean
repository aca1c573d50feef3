/-! ===== a corridor's stones as a list of numbers: their set, how many, how many are wanting, their sum ===== -/
def bv (v : Nat) : Nat := if v = 0 then 0 else 2 ^ (v - 1)
def gX : List Nat → Nat
  | [] => 0
  | v :: D => bv v ||| gX D
def nzc : List Nat → Nat
  | [] => 0
  | v :: D => (if v = 0 then 0 else 1) + nzc D
def zc : List Nat → Nat
  | [] => 0
  | v :: D => (if v = 0 then 1 else 0) + zc D
def smD : List Nat → Nat
  | [] => 0
  | v :: D => v + smD D
theorem bv_lt {v : Nat} (h : v ≤ 9) : bv v < 512 := by
  unfold bv
  split
  · decide
  · have h9 : 2 ^ (v - 1) < 2 ^ 9 := Nat.pow_lt_pow_right (by decide) (by omega)
    exact h9
theorem gX_lt : ∀ D : List Nat, (∀ v ∈ D, v ≤ 9) → gX D < 512
  | [], _ => by decide
  | v :: D, h => Nat.or_lt_two_pow (n := 9) (bv_lt (h v List.mem_cons_self)) (gX_lt D (fun u hu => h u (List.mem_cons_of_mem _ hu)))
theorem len_zc : ∀ D : List Nat, nzc D + zc D = D.length
  | [] => rfl
  | v :: D => by
    have := len_zc D
    simp only [nzc, zc, List.length_cons]
    split <;> omega
theorem smD_le : ∀ D : List Nat, (∀ v ∈ D, v ≤ 9) → smD D ≤ 9 * D.length
  | [], _ => Nat.le_refl _
  | v :: D, h => by
    have h1 := h v List.mem_cons_self
    have h2 := smD_le D (fun u hu => h u (List.mem_cons_of_mem _ hu))
    simp only [smD, List.length_cons]
    omega
theorem two_or (a b : Nat) : 2 * (a ||| b) = 2 * a ||| 2 * b := by
  apply Nat.eq_of_testBit_eq
  intro i
  cases i with
  | zero => simp [Nat.testBit_or]
  | succ i => rw [Nat.testBit_or, Nat.testBit_succ, Nat.testBit_succ, Nat.testBit_succ, Nat.mul_div_cancel_left _ (by decide), Nat.mul_div_cancel_left _ (by decide), Nat.mul_div_cancel_left _ (by decide), Nat.testBit_or]
theorem two_and (a b : Nat) : 2 * (a &&& b) = 2 * a &&& 2 * b := by
  apply Nat.eq_of_testBit_eq
  intro i
  cases i with
  | zero => simp [Nat.testBit_and]
  | succ i => rw [Nat.testBit_and, Nat.testBit_succ, Nat.testBit_succ, Nat.testBit_succ, Nat.mul_div_cancel_left _ (by decide), Nat.mul_div_cancel_left _ (by decide), Nat.mul_div_cancel_left _ (by decide), Nat.testBit_and]
theorem two_bv {v : Nat} (h : 1 ≤ v) : 2 * bv v = 2 ^ v := by
  unfold bv
  rw [if_neg (by omega), Nat.mul_comm, ← Nat.pow_succ]
  congr 1
  omega
theorem two_ob (x : Nat) {v : Nat} (h : 1 ≤ v) : 2 * (x ||| bv v) = 2 * x ||| 2 ^ v := by rw [two_or, two_bv h]
theorem obv {x v : Nat} (hx : x < 512) (hv : v ≤ 9) : x ||| bv v < 512 := Nat.or_lt_two_pow (n := 9) hx (bv_lt hv)
theorem or_bv {x v : Nat} (hx : x < 512) (hv : v ≤ 9) (h1 : 1 ≤ v) : nI (2 * x) ||| ((1 : Int32) <<< (nI v &&& 31)) = nI (2 * (x ||| bv v)) := by
  rw [one_shl v (by omega), fa_or, two_ob x h1]
/-- no stone twice -/
def dup (x : Nat) : List Nat → Bool
  | [] => false
  | v :: D => if v = 0 then dup x D else ((2 * x).testBit v || dup (x ||| bv v) D)
theorem bcX_le : ∀ (D : List Nat) (x : Nat), x < 512 → (∀ v ∈ D, v ≤ 9) → bcN 9 (2 * (x ||| gX D)) ≤ bcN 9 (2 * x) + nzc D
  | [], x, _, _ => by simp [gX, nzc]
  | v :: D, x, hx, h => by
    have h1 := h v List.mem_cons_self
    have ih := bcX_le D (x ||| bv v) (obv hx h1) (fun u hu => h u (List.mem_cons_of_mem _ hu))
    rw [gX, nzc, ← Nat.or_assoc]
    by_cases v0 : v = 0
    · subst v0
      have e : x ||| bv 0 = x := by simp [bv]
      rw [e] at ih ⊢
      rw [if_pos rfl]
      omega
    · have hb := bc_or x hx v (by omega) (by omega)
      rw [two_ob x (by omega : 1 ≤ v)] at ih
      rw [if_neg v0]
      split at hb <;> omega
theorem dup_iff : ∀ (D : List Nat) (x : Nat), x < 512 → (∀ v ∈ D, v ≤ 9) → (dup x D = false ↔ bcN 9 (2 * (x ||| gX D)) = bcN 9 (2 * x) + nzc D) ∧ (dup x D = false → smN 9 (2 * (x ||| gX D)) = smN 9 (2 * x) + smD D)
  | [], x, _, _ => by simp [gX, nzc, dup, smD]
  | v :: D, x, hx, h => by
    have h1 := h v List.mem_cons_self
    have hD := fun u hu => h u (List.mem_cons_of_mem v hu)
    have ih := dup_iff D (x ||| bv v) (obv hx h1) hD
    have le := bcX_le D (x ||| bv v) (obv hx h1) hD
    rw [gX, nzc, smD, ← Nat.or_assoc, dup]
    by_cases v0 : v = 0
    · subst v0
      have e : x ||| bv 0 = x := by simp [bv]
      rw [e] at ih ⊢
      simp only [if_true, Nat.zero_add]
      exact ih
    · have hb := bc_or x hx v (by omega) (by omega)
      have hs := sm_or x hx v (by omega) (by omega)
      rw [two_ob x (by omega : 1 ≤ v)] at ih le
      rw [if_neg v0, if_neg v0]
      cases ht : (2 * x).testBit v
      · rw [ht] at hb hs
        simp only [Bool.false_or] at *
        refine ⟨ih.1.trans ?_, fun q => ?_⟩
        · simp at hb
          omega
        · have := ih.2 q
          simp at hs
          omega
      · rw [ht] at hb
        simp at hb
        refine ⟨⟨fun q => by simp at q, fun q => ?_⟩, fun q => by simp at q⟩
        omega
/-- whether a corridor with these stones and this sum (0: none) is well -/
def wl (D : List Nat) (s : Nat) : Bool := decide (bcN 9 (2 * gX D) = nzc D) && (decide (s = 0) || (decide (smD D ≤ s) && tb (gX D) (zc D) (s - smD D)))
theorem gX_mid (n : Nat) (B : List Nat) : ∀ A : List Nat, gX (A ++ n :: B) = gX (A ++ 0 :: B) ||| bv n
  | [] => by
    show bv n ||| gX B = (bv 0 ||| gX B) ||| bv n
    rw [show bv 0 = 0 from rfl, Nat.zero_or, Nat.or_comm]
  | v :: A => by
    show bv v ||| gX (A ++ n :: B) = (bv v ||| gX (A ++ 0 :: B)) ||| bv n
    rw [gX_mid n B A, Nat.or_assoc]
theorem nzc_mid {n : Nat} (h : 1 ≤ n) (B : List Nat) : ∀ A : List Nat, nzc (A ++ n :: B) = nzc (A ++ 0 :: B) + 1
  | [] => by
    show (if n = 0 then 0 else 1) + nzc B = (if 0 = 0 then 0 else 1) + nzc B + 1
    rw [if_neg (by omega), if_pos rfl]
    omega
  | v :: A => by
    show (if v = 0 then 0 else 1) + nzc (A ++ n :: B) = (if v = 0 then 0 else 1) + nzc (A ++ 0 :: B) + 1
    rw [nzc_mid h B A]
    omega
theorem zc_mid {n : Nat} (h : 1 ≤ n) (B : List Nat) : ∀ A : List Nat, zc (A ++ n :: B) + 1 = zc (A ++ 0 :: B)
  | [] => by
    show (if n = 0 then 1 else 0) + zc B + 1 = (if 0 = 0 then 1 else 0) + zc B
    rw [if_neg (by omega), if_pos rfl]
    omega
  | v :: A => by
    show (if v = 0 then 1 else 0) + zc (A ++ n :: B) + 1 = (if v = 0 then 1 else 0) + zc (A ++ 0 :: B)
    have := zc_mid h B A
    omega
theorem smD_mid (n : Nat) (B : List Nat) : ∀ A : List Nat, smD (A ++ n :: B) = smD (A ++ 0 :: B) + n
  | [] => by show n + smD B = 0 + smD B + n; omega
  | v :: A => by
    show v + smD (A ++ n :: B) = v + smD (A ++ 0 :: B) + n
    rw [smD_mid n B A]
    omega
/-- well with one more number -/
theorem wl_mid {A B : List Nat} (h9 : ∀ v ∈ A ++ 0 :: B, v ≤ 9) {n : Nat} (h1 : 1 ≤ n) (hn : n ≤ 9) (s : Nat) : wl (A ++ n :: B) s = (decide (bcN 9 (2 * gX (A ++ 0 :: B)) = nzc (A ++ 0 :: B)) && !(2 * gX (A ++ 0 :: B)).testBit n && (decide (s = 0) || (decide (smD (A ++ 0 :: B) + n ≤ s) && tb (gX (A ++ 0 :: B) ||| bv n) (zc (A ++ 0 :: B) - 1) (s - (smD (A ++ 0 :: B) + n))))) := by
  have hx := gX_lt _ h9
  have le := bcX_le (A ++ 0 :: B) 0 (by decide) h9
  have e0 : bcN 9 (2 * 0) = 0 := by decide
  rw [Nat.zero_or, e0] at le
  have hb := bc_or _ hx n (by omega) h1
  have hz := zc_mid h1 B A
  unfold wl
  rw [gX_mid, nzc_mid h1, smD_mid, show zc (A ++ n :: B) = zc (A ++ 0 :: B) - 1 by omega, two_ob _ h1, hb]
  cases ht : (2 * gX (A ++ 0 :: B)).testBit n
  · simp
  · rw [decide_eq_false (by simp; omega)]
    simp
/-! ===== sets by their members ===== -/
def stf (P : Nat → Bool) : Nat → Nat
  | 0 => 0
  | n + 1 => if P (n + 1) then stf P n ||| 2 ^ n else stf P n
theorem stf_lt (P : Nat → Bool) : ∀ n, stf P n < 2 ^ n
  | 0 => Nat.one_pos
  | n + 1 => by
    have := stf_lt P n
    have hp : 2 ^ (n + 1) = 2 * 2 ^ n := by rw [Nat.pow_succ, Nat.mul_comm]
    rw [stf]
    split
    · exact Nat.or_lt_two_pow (by omega) (by omega)
    · omega
theorem stf_bit (P : Nat → Bool) (i : Nat) : ∀ n, (stf P n).testBit i = (decide (i < n) && P (i + 1))
  | 0 => by simp [stf]
  | n + 1 => by
    have ih := stf_bit P i n
    rw [stf]
    by_cases e : i = n
    · subst e
      have hl := Nat.testBit_lt_two_pow (stf_lt P i)
      cases hP : P (i + 1)
      · simp [hl]
      · simp [Nat.testBit_or]
    · have e2 : decide (i < n + 1) = decide (i < n) := decide_eq_decide.mpr (by omega)
      rw [e2]
      split
      · rw [Nat.testBit_or, ih, Nat.testBit_two_pow, decide_eq_false (show ¬ n = i by omega), Bool.or_false]
      · exact ih
theorem stf_cong {P Q : Nat → Bool} : ∀ n, (∀ i, 1 ≤ i → i ≤ n → P i = Q i) → stf P n = stf Q n
  | 0, _ => rfl
  | n + 1, h => by rw [stf, stf, h (n + 1) (by omega) (by omega), stf_cong n (fun i h1 h2 => h i h1 (by omega))]
theorem stf_and (P Q : Nat → Bool) (n : Nat) : stf P n &&& stf Q n = stf (fun i => P i && Q i) n := by
  apply Nat.eq_of_testBit_eq
  intro i
  rw [Nat.testBit_and, stf_bit, stf_bit, stf_bit]
  cases decide (i < n) <;> simp
theorem stf_not {x : Nat} (hx : x < 512) : stf (fun n => !(2 * x).testBit n) 9 = 511 - x := by
  apply Nat.eq_of_testBit_eq
  intro i
  rw [stf_bit, Nat.testBit_succ, Nat.mul_div_cancel_left _ (by decide), show 511 - x = 2 ^ 9 - (x + 1) by omega, Nat.testBit_two_pow_sub_succ (n := 9) hx]
theorem stf_no {P : Nat → Bool} (h : ∀ i, 1 ≤ i → i ≤ 9 → P i = false) : stf P 9 = 0 := by
  rw [stf_cong 9 h]
  decide
theorem stf_or {P : Nat → Bool} {n : Nat} (hn : n < 9) (h : P (n + 1) = true) : nI (2 * stf P n) ||| ((1 : Int32) <<< (nI (n + 1) &&& 31)) = nI (2 * stf P (n + 1)) := by
  have hl := stf_lt P n
  have h9 : 2 ^ n ≤ 2 ^ 8 := Nat.pow_le_pow_right (by decide) (by omega)
  rw [or_bv (by omega) (by omega) (by omega), stf, if_pos h]
  rfl
/-! ===== the class's look ===== -/
section LOOK
variable {W H : Nat} {f : RowI} {d : Bool}
theorem look_26 (hD : Dim W H) {N : Nat} {cs : CS} (hs : cs.2.2.2 = nI (stp d W)) (b : Nat) : ∀ (D : List Nat) m n i x c t, D.length < n → line f (stp d W) m (b + i * stp d W) = D.map nI → (m = 0 ∨ (b + i * stp d W < W * H ∧ fwd d W H (b + i * stp d W) = m)) → x < 512 → (∀ v ∈ D, v ≤ 9) → i + D.length ≤ 6 →
    mX0_look_26 N f cs (nI b) n (nI (i + D.length)) (nI i) (nI (2 * x), nI c, nI t) = some (nI (2 * (x ||| gX D)), nI (c + nzc D), nI (t + smD D)) := by
  intro D
  induction D with
  | nil =>
    intro m n i x c t hn hl hc hx h9 hL
    obtain ⟨n, rfl⟩ : ∃ j, n = j + 1 := ⟨n - 1, by simp at hn; omega⟩
    simp only [List.length_nil, Nat.add_zero] at hL ⊢
    rw [s_mX0_look_26, if_pos (nI_le (Nat.le_refl i) (by omega))]
    simp [gX, nzc, smD]
  | cons v D ih =>
    intro m n i x c t hn hl hc hx h9 hL
    obtain ⟨n, rfl⟩ : ∃ j, n = j + 1 := ⟨n - 1, by simp at hn; omega⟩
    have h1 := h9 v List.mem_cons_self
    have hD9 := fun u hu => h9 u (List.mem_cons_of_mem v hu)
    rcases hc with hc | ⟨hk, hf⟩
    · subst hc
      simp [line] at hl
    · obtain ⟨g36, gf, _, _, gs, _, _, g2, _⟩ := geo hD d hk
      obtain ⟨m, rfl⟩ : ∃ j, m = j + 1 := ⟨m - 1, by omega⟩
      rw [line_succ] at hl
      by_cases c1 : f (b + i * stp d W) = -1
      · rw [if_pos c1] at hl; simp at hl
      · rw [if_neg c1] at hl
        simp only [List.map_cons, List.cons.injEq] at hl
        obtain ⟨e1, e2⟩ := hl
        have ek : b + i * stp d W + stp d W = b + (i + 1) * stp d W := by rw [Nat.succ_mul]; omega
        rw [ek] at e2
        have hm : m = 0 ∨ (b + (i + 1) * stp d W < W * H ∧ fwd d W H (b + (i + 1) * stp d W) = m) := by
          rw [← ek]
          rcases g2 with g2 | ⟨g2, g3, _⟩
          · exact Or.inl (by omega)
          · exact Or.inr ⟨g2, by omega⟩
        simp only [List.length_cons] at hn hL ⊢
        have er : rd f (nI b + nI i * cs.2.2.2) = nI v := by rw [hs, pk_mul, nI_add, rd_n (by omega), e1]
        rw [s_mX0_look_26, if_neg (nI_ge (by omega) (by omega)), er, nI_1]
        have ei : i + (D.length + 1) = i + 1 + D.length := by omega
        by_cases v0 : v = 0
        · subst v0
          rw [if_pos (by decide), ei, ih m n (i + 1) x c t (by omega) e2 hm hx hD9 (by omega)]
          simp [gX, nzc, smD, bv]
        · rw [if_neg (nI_nle (by omega) (by omega))]
          show mX0_look_26 N f cs (nI b) n (nI (i + (D.length + 1))) (nI (i + 1)) (nI (2 * x) ||| ((1 : Int32) <<< (nI v &&& 31)), nI c + 1, nI t + nI v) = _
          rw [or_bv hx h1 (by omega), nI_1, nI_add, ei, ih m n (i + 1) (x ||| bv v) (c + 1) (t + v) (by omega) e2 hm (obv hx h1) hD9 (by omega)]
          simp only [gX, nzc, smD, if_neg v0, Nat.or_assoc]
          rw [show c + 1 + nzc D = c + (1 + nzc D) by omega, show t + v + smD D = t + (v + smD D) by omega]
/-- what the class's words say of a corridor that begins at b -/
theorem look_n (hD : Dim W H) {N : Nat} (hN : 600 ≤ N) {cs : CS} {b : Nat} (hb : b < W * H) {D : List Nat} (hl : ln f d W H b = D.map nI) (h9 : ∀ v ∈ D, v ≤ 9) (hs : cs.2.2.2 = nI (stp d W)) (hz : cs.2.2.1 b = nI D.length) : mX0_look N f cs (nI b) = some (nI (2 * gX D), nI (nzc D), nI (smD D)) ∧ D.length ≤ 6 := by
  obtain ⟨g36, gf, g6, _⟩ := geo hD d hb
  have hlen : D.length ≤ 6 := by
    have h1 := line_len (f := f) (stp d W) (fwd d W H b) b
    rw [show line f (stp d W) (fwd d W H b) b = D.map nI from hl, List.length_map] at h1
    omega
  refine ⟨?_, hlen⟩
  have h := look_26 (f := f) hD (N := N) hs b D (fwd d W H b) N 0 0 0 0 (by omega) (by rw [Nat.zero_mul]; exact hl) (by rw [Nat.zero_mul]; exact Or.inr ⟨hb, rfl⟩) (by decide) h9 (by omega)
  rw [Nat.zero_add, Nat.zero_or, Nat.zero_add, Nat.zero_add] at h
  rw [mX0_look, rd_n (by omega), hz]
  exact h
end LOOK
