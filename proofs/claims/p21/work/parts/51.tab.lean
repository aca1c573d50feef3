/-! ===== the table of Partitions: SS h X c = the sums that c numbers of X, of 1 to h, can make, as bits ===== -/
def SS : Nat → Nat → Nat → Nat
  | 0, _, c => if c = 0 then 1 else 0
  | h + 1, X, c => if X.testBit (h + 1) then SS h X c ||| (if c = 0 then 0 else SS h X (c - 1) <<< (h + 1)) else SS h X c
def tri : Nat → Nat
  | 0 => 0
  | h + 1 => tri h + (h + 1)
theorem SS_succ (h X c : Nat) : SS (h + 1) X c = if X.testBit (h + 1) then SS h X c ||| (if c = 0 then 0 else SS h X (c - 1) <<< (h + 1)) else SS h X c := rfl
theorem SS_lt : ∀ h X c, SS h X c < 2 ^ (tri h + 1)
  | 0, X, c => by
    unfold SS
    split <;> decide
  | h + 1, X, c => by
    have h1 := SS_lt h X c
    have h2 := SS_lt h X (c - 1)
    have ht : tri (h + 1) = tri h + (h + 1) := rfl
    have hp : 2 ^ (tri h + 1) ≤ 2 ^ (tri (h + 1) + 1) := Nat.pow_le_pow_right (by decide) (by omega)
    rw [SS_succ]
    split
    · apply Nat.or_lt_two_pow (by omega)
      split
      · exact Nat.two_pow_pos _
      · rw [Nat.shiftLeft_eq]
        have e : 2 ^ (tri (h + 1) + 1) = 2 ^ (tri h + 1) * 2 ^ (h + 1) := by rw [← Nat.pow_add]; congr 1; omega
        rw [e]
        exact Nat.mul_lt_mul_of_pos_right h2 (Nat.two_pow_pos _)
    · omega
theorem SS_lt9 (X c : Nat) : SS 9 X c < 2 ^ 46 := SS_lt 9 X c
theorem SS_cong : ∀ h {X Y : Nat} (c : Nat), (∀ n, n ≤ h → X.testBit n = Y.testBit n) → SS h X c = SS h Y c
  | 0, _, _, _, _ => rfl
  | h + 1, X, Y, c, a => by
    rw [SS_succ, SS_succ, a (h + 1) (Nat.le_refl _), SS_cong h c (fun n hn => a n (by omega)), SS_cong h (c - 1) (fun n hn => a n (by omega))]
theorem SS_cut {h X : Nat} (hX : X < 2 ^ (h + 1)) (c : Nat) : ∀ k, SS (h + k) X c = SS h X c
  | 0 => rfl
  | k + 1 => by
    have h1 : X < 2 ^ (h + k + 1) := Nat.lt_of_lt_of_le hX (Nat.pow_le_pow_right (by decide) (by omega))
    show SS (h + k + 1) X c = _
    rw [SS_succ, Nat.testBit_lt_two_pow h1, if_neg (by decide), SS_cut hX c k]
theorem SS_top {h y : Nat} (hh : h < 9) (hy : y < 2 ^ h) (c : Nat) : SS 9 (2 * (2 ^ h + y)) c = SS 9 (2 * y) c ||| (if c = 0 then 0 else SS 9 (2 * y) (c - 1) <<< (h + 1)) := by
  have hp : 2 ^ (h + 1) = 2 * 2 ^ h := by rw [Nat.pow_succ, Nat.mul_comm]
  have hp2 : 2 ^ (h + 1 + 1) = 2 * 2 ^ (h + 1) := by rw [Nat.pow_succ, Nat.mul_comm]
  have e : 2 * (2 ^ h + y) = 2 ^ (h + 1) + 2 * y := by omega
  obtain ⟨k, hk⟩ : ∃ k, 9 = h + 1 + k := ⟨8 - h, by omega⟩
  have hX : 2 ^ (h + 1) + 2 * y < 2 ^ (h + 1 + 1) := by omega
  have hY : 2 * y < 2 ^ (h + 1) := by omega
  have cy : ∀ c, SS h (2 ^ (h + 1) + 2 * y) c = SS 9 (2 * y) c := by
    intro c
    rw [SS_cong h c (fun n hn => Nat.testBit_two_pow_add_gt (by omega) (2 * y)), hk, show h + 1 + k = h + (k + 1) by omega, SS_cut hY c (k + 1)]
  rw [e]
  have e1 : SS 9 (2 ^ (h + 1) + 2 * y) c = SS (h + 1) (2 ^ (h + 1) + 2 * y) c := by
    rw [hk, SS_cut hX c k]
  rw [e1, SS_succ, Nat.testBit_two_pow_add_eq, Nat.testBit_lt_two_pow hY, cy, cy]
  rfl
def TBto (L : Nat) (su : RowJ) : Prop := ∀ x, x < L → ∀ c, c < 7 → su (x * 7 + c) = lN (SS 9 (2 * x) c)
theorem ix_n {x c : Nat} (hx : x < 512) (hc : c < 7) : ((nI (2 * x) >>> ((1 : Int32) &&& 31)) * (7 : Int32)) + nI c = nI (x * 7 + c) := by
  rw [pk_shrN (by omega) _ 1 (by decide), show (7 : Int32) = nI 7 from rfl, pk_mul, nI_add]
  congr 2
  omega
theorem sumsOf_n {N : Nat} {su : RowJ} {x c : Nat} (hx : x < 512) (hc : c < 7) : mX2_sumsOf N su (nI (2 * x)) (nI c) = some (su (x * 7 + c)) := by
  have h1 : ¬ (3584 : Int32) ≤ nI (x * 7 + c) := nI_ge (b := 3584) (by omega) (by omega)
  rw [mX2_sumsOf, ix_n hx hc, if_neg (nI_pos (by omega)), if_neg h1, if_neg (bad_n (by omega) (by omega)), nI_clamp (by omega)]
theorem keepSums_n {N : Nat} {su : RowJ} {v : Int64} {x c : Nat} (hx : x < 512) (hc : c < 7) : mX2_keepSums N su (nI (2 * x)) (nI c) v = some (vp_updL su (x * 7 + c) v) := by
  have h1 : ¬ (3584 : Int32) ≤ nI (x * 7 + c) := nI_ge (b := 3584) (by omega) (by omega)
  rw [mX2_keepSums, ix_n hx hc, if_neg (nI_pos (by omega)), if_neg h1, if_neg (bad_n (by omega) (by omega)), nI_clamp (by omega)]
theorem shr_c : ∀ t, t < 64 → (((nI t).toInt64 &&& 63).toBitVec.smod 64).toNat = t := by decide +kernel
/-- the question that all the class asks of its table -/
theorem make_n {N : Nat} {su : RowJ} {x c t : Nat} (hx : x < 512) (hc : c < 7) (ht : t ≤ 45) (hT : su (x * 7 + c) = lN (SS 9 (2 * x) c)) : mX2_make N su (nI (2 * x)) (nI c) (nI t) = some (if (SS 9 (2 * x) c).testBit t then 1 else 0) := by
  have h1 : ¬ (3584 : Int32) ≤ nI (x * 7 + c) := nI_ge (b := 3584) (by omega) (by omega)
  have h2 : ¬ (7 : Int32) ≤ nI c := nI_ge (b := 7) (by omega) (by omega)
  have h3 : nI t ≤ (45 : Int32) := nI_le (b := 45) (by omega) (by omega)
  have hS := SS_lt9 (2 * x) c
  rw [mX2_make, if_neg (nI_pos (by omega)), if_neg h2, if_neg (nI_pos (by omega)), if_pos h3, ix_n hx hc, if_neg (nI_pos (by omega)), if_neg h1, if_neg (bad_n (by omega) (by omega)), nI_clamp (by omega), hT, pf_shr (shr_c t (by omega)) (by omega), show (1 : Int64) = lN 1 from rfl]
  have h4 : lN (SS 9 (2 * x) c / 2 ^ t) &&& lN 1 = lN (SS 9 (2 * x) c / 2 ^ t % 2) := wb_a1 (Nat.lt_of_le_of_lt (Nat.div_le_self _ _) (by omega))
  rw [h4, Nat.testBit_eq_decide_div_mod_eq]
  have h5 := Nat.mod_lt (SS 9 (2 * x) c / 2 ^ t) (show 0 < 2 by decide)
  rcases Nat.eq_zero_or_pos (SS 9 (2 * x) c / 2 ^ t % 2) with z | z
  · rw [z]; rfl
  · have e : SS 9 (2 * x) c / 2 ^ t % 2 = 1 := by omega
    rw [e]; rfl
theorem make_neg {N : Nat} {su : RowJ} {p1 p2 p3 : Int32} (h : p3 < 0) : mX2_make N su p1 p2 p3 = some 0 := by
  rw [mX2_make]
  by_cases a : p2 < 0
  · rw [if_pos a]
  · rw [if_neg a]
    by_cases b : (7 : Int32) ≤ p2
    · rw [if_pos b]
    · rw [if_neg b, if_pos h]
theorem vL_s {f : RowJ} {k : Nat} {x : Int64} : vp_updL f k x k = x := if_pos rfl
theorem vL_n {f : RowJ} {k j : Nat} {x : Int64} (h : j ≠ k) : vp_updL f k x j = f j := if_neg h
theorem ah9 (N : Nat) {h y : Nat} (hh : h < 9) (hy : y < 2 ^ h) : ∀ m n c su, m < n → c + m = 7 → TBto (2 ^ h + y) su → (∀ c', c' < c → su ((2 ^ h + y) * 7 + c') = lN (SS 9 (2 * (2 ^ h + y)) c')) →
    ∃ su', mX2_addHighest_9 N (nI (2 * y)) (nI (h + 1)) n (nI (2 * (2 ^ h + y))) (nI c) su = some su' ∧ TBto (2 ^ h + y + 1) su' := by
  have hp : 2 ^ h ≤ 2 ^ 8 := Nat.pow_le_pow_right (by decide) (by omega)
  intro m
  induction m with
  | zero =>
    intro n c su hn hc hT hc2
    obtain ⟨n, rfl⟩ : ∃ j, n = j + 1 := ⟨n - 1, by omega⟩
    obtain rfl : c = 7 := by omega
    refine ⟨su, ?_, ?_⟩
    · rw [s_mX2_addHighest_9, if_pos (by decide)]
    · intro x hx c hc
      rcases Nat.lt_or_ge x (2 ^ h + y) with q | q
      · exact hT x q c hc
      · obtain rfl : x = 2 ^ h + y := by omega
        exact hc2 c hc
  | succ m ih =>
    intro n c su hn hc hT hc2
    obtain ⟨n, rfl⟩ : ∃ j, n = j + 1 := ⟨n - 1, by omega⟩
    have g7 : ¬ (7 : Int32) ≤ nI c := nI_ge (b := 7) (by omega) (by omega)
    have ry : ∀ c, c < 7 → su (y * 7 + c) = lN (SS 9 (2 * y) c) := fun c hc => hT y (by have := Nat.two_pow_pos h; omega) c hc
    have key : ∀ v, v = lN (SS 9 (2 * (2 ^ h + y)) c) → ∃ su', ((mX2_keepSums N su (nI (2 * (2 ^ h + y))) (nI c) v).bind fun x56 => mX2_addHighest_9 N (nI (2 * y)) (nI (h + 1)) n (nI (2 * (2 ^ h + y))) (nI c + 1) x56) = some su' ∧ TBto (2 ^ h + y + 1) su' := by
      intro v hv
      rw [keepSums_n (by omega) (by omega), Option.bind_some, nI_1]
      refine ih n (c + 1) _ (by omega) (by omega) ?_ ?_
      · intro x hx c' hc'
        rw [vL_n (by omega)]
        exact hT x hx c' hc'
      · intro c' hc'
        rcases Nat.lt_or_ge c' c with q | q
        · rw [vL_n (by omega)]
          exact hc2 c' q
        · obtain rfl : c' = c := by omega
          rw [vL_s, hv]
    rw [s_mX2_addHighest_9, if_neg g7, sumsOf_n (by omega) (by omega), Option.bind_some, ry c (by omega)]
    by_cases c0 : c = 0
    · subst c0
      rw [if_pos nI_0, mX2_addHighest_45]
      refine key _ ?_
      rw [SS_top hh hy, if_pos rfl, show (0 : Int64) = lN 0 from rfl, wb_or (by have := SS_lt9 (2 * y) 0; omega) (by omega)]
    · rw [if_neg (nI_ne0 (by omega) (by omega)), show nI c - (1 : Int32) = nI (c - 1) from pk_sub (b := 1) (by omega), sumsOf_n (by omega) (by omega), Option.bind_some, ry (c - 1) (by omega), wb_shl _ (by omega), mX2_addHighest_45]
      refine key _ ?_
      have b1 := SS_lt9 (2 * y) (c - 1)
      have b2 : 2 ^ (h + 1) ≤ 2 ^ 9 := Nat.pow_le_pow_right (by decide) (by omega)
      have b3 : SS 9 (2 * y) (c - 1) * 2 ^ (h + 1) ≤ 2 ^ 46 * 2 ^ 9 := Nat.mul_le_mul (by omega) b2
      rw [SS_top hh hy, if_neg c0, wb_or (by have := SS_lt9 (2 * y) c; omega) (by omega), Nat.shiftLeft_eq]
theorem in30 (N : Nat) {h : Nat} (hh : h < 9) (hN : 600 ≤ N) : ∀ m n y su (K : Int32 → RowJ → Option RowJ), m < n → y + m = 2 ^ h → TBto (2 ^ h + y) su → (∀ su', TBto (2 ^ (h + 1)) su' → ∃ r, K (nI (h + 2)) su' = some r ∧ TBto 512 r) →
    ∃ r, mX2_init_30 N K n (nI (h + 1)) (nI (2 * y)) su = some r ∧ TBto 512 r := by
  have hp : 2 ^ h ≤ 2 ^ 8 := Nat.pow_le_pow_right (by decide) (by omega)
  have hp1 : 2 ^ (h + 1) = 2 * 2 ^ h := by rw [Nat.pow_succ, Nat.mul_comm]
  intro m
  induction m with
  | zero =>
    intro n y su K hn hy hT hK
    obtain ⟨n, rfl⟩ : ∃ j, n = j + 1 := ⟨n - 1, by omega⟩
    rw [s_mX2_init_30, one_shl _ (by omega), if_pos (nI_le (by omega) (by omega)), nI_1]
    exact hK su (by rw [show 2 ^ (h + 1) = 2 ^ h + y by omega]; exact hT)
  | succ m ih =>
    intro n y su K hn hy hT hK
    obtain ⟨n, rfl⟩ : ∃ j, n = j + 1 := ⟨n - 1, by omega⟩
    have e : nI (2 * y) ||| nI (2 ^ (h + 1)) = nI (2 * (2 ^ h + y)) := by
      have h3 := Nat.two_pow_add_eq_or_of_lt (i := h + 1) (b := 2 * y) (by omega) 1
      rw [Nat.mul_one] at h3
      rw [fa_or, Nat.or_comm, ← h3]
      congr 1
      omega
    obtain ⟨su', h1, h2⟩ := ah9 N hh (show y < 2 ^ h by omega) 7 N 0 su (by omega) (by omega) hT (fun c' h => absurd h (Nat.not_lt_zero _))
    rw [s_mX2_init_30, one_shl _ (by omega), if_neg (nI_ge (by omega) (by omega)), mX2_addHighest, one_shl _ (by omega), e, show (0 : Int32) = nI 0 from rfl, h1, Option.bind_some, show nI (2 * y) + 2 = nI (2 * (y + 1)) from by rw [show (2 : Int32) = nI 2 from rfl, nI_add]; rfl]
    exact ih n (y + 1) su' K (by omega) (by omega) h2 hK
theorem in22 (N : Nat) (hN : 600 ≤ N) : ∀ m n h su, m < n → h + m = 9 → TBto (2 ^ h) su → ∃ r, mX2_init_22 N n (nI (h + 1)) su = some r ∧ TBto 512 r := by
  intro m
  induction m with
  | zero =>
    intro n h su hn hh hT
    obtain ⟨n, rfl⟩ : ∃ j, n = j + 1 := ⟨n - 1, by omega⟩
    obtain rfl : h = 9 := by omega
    refine ⟨su, ?_, hT⟩
    rw [s_mX2_init_22, if_pos (by decide)]
  | succ m ih =>
    intro n h su hn hh hT
    obtain ⟨n, rfl⟩ : ∃ j, n = j + 1 := ⟨n - 1, by omega⟩
    have hp : 2 ^ h ≤ 2 ^ 8 := Nat.pow_le_pow_right (by decide) (by omega)
    rw [s_mX2_init_22, if_neg (show ¬ (9 : Int32) < nI (h + 1) from nI_nlt (a := 9) (by omega) (by omega)), show (0 : Int32) = nI (2 * 0) from rfl]
    exact in30 N (by omega) hN (2 ^ h) N 0 su _ (by omega) (by omega) hT (fun su' h1 => ih n (h + 1) su' (by omega) (by omega) h1)
theorem tab_class (N : Nat) (hN : 600 ≤ N) : ∃ su, mX2_init N (fun _ => 0) = some su ∧ TBto 512 su := by
  rw [mX2_init, show (0 : Int32) = nI 0 from rfl, show mX2_keepSums N (fun _ => 0) (nI 0) (nI 0) (1 : Int64) = some (vp_updL (fun _ => 0) (0 * 7 + 0) 1) from keepSums_n (x := 0) (c := 0) (by omega) (by omega), Option.bind_some]
  refine in22 N hN 9 N 0 _ (by omega) (by omega) ?_
  intro x hx c hc
  obtain rfl : x = 0 := by omega
  have d : ∀ c, c < 7 → (if c = 0 then (1 : Int64) else 0) = lN (SS 9 0 c) := by decide +kernel
  rw [show 2 * 0 = 0 from rfl, ← d c hc]
  by_cases c0 : c = 0
  · subst c0; rfl
  · rw [vL_n (by omega), if_neg c0]
