/-! ===== the model's table: the sets in the order of their keys; and what is asked of it ===== -/
def kap (x : Nat) : Nat := 46 * bcN 9 (2 * x) + smN 9 (2 * x)
def isK (K x : Nat) : Bool := decide (kap x = K)
def stt (K : Nat) : Nat := fb_ct (fun x => decide (kap x < K)) 512
def inn (K n : Nat) : Nat := fb_ct (isK K) n
def kpos (x : Nat) : Nat := stt (kap x) + inn (kap x) x
theorem kap_lt {x : Nat} (h : x < 512) : kap x < 460 := by
  have h1 := bc_le x h
  have h2 := sm_le x h
  unfold kap
  omega
theorem kap_iff {x K : Nat} (h : x < 512) : kap x = K ↔ bcN 9 (2 * x) = K / 46 ∧ smN 9 (2 * x) = K % 46 := by
  have h2 := sm_le x h
  unfold kap
  omega
theorem isK_t {K x : Nat} : isK K x = true ↔ kap x = K := by unfold isK; exact decide_eq_true_iff
theorem inn_t {K x : Nat} (h : kap x = K) : inn K (x + 1) = inn K x + 1 := by
  unfold inn
  rw [fb_ct_succ, isK_t.mpr h]
  rfl
theorem inn_f {K x : Nat} (h : kap x ≠ K) : inn K (x + 1) = inn K x := by
  unfold inn
  have e : isK K x = false := by
    cases q : isK K x
    · rfl
    · exact absurd (isK_t.mp q) h
  rw [fb_ct_succ, e]
  rfl
theorem inn_mono {K a b : Nat} (h : a ≤ b) : inn K a ≤ inn K b := fb_ct_mono _ h
theorem stt_s (K : Nat) : stt (K + 1) = stt K + inn K 512 := by
  have h := fb_ct_or (n := 512) (p := fun x => decide (kap x < K)) (q := isK K) (fun k _ hk => by
    have h1 := of_decide_eq_true hk.1
    have h2 := isK_t.mp hk.2
    omega)
  unfold stt inn
  rw [← h]
  apply fb_ct_cong
  intro k _
  by_cases a : kap k < K
  · rw [decide_eq_true a, decide_eq_true (show kap k < K + 1 by omega)]; rfl
  · rw [decide_eq_false a, Bool.false_or]
    unfold isK
    exact decide_eq_decide.mpr (by omega)
theorem stt_le (K : Nat) : stt K ≤ 512 := fb_ct_le _ _
theorem stt_mono {a b : Nat} (h : a ≤ b) : stt a ≤ stt b := fb_ct_sub (fun k _ hk => decide_eq_true (Nat.lt_of_lt_of_le (of_decide_eq_true hk) h))
theorem inn_lt {K x : Nat} (h : x < 512) (hx : kap x = K) : inn K x < inn K 512 := by
  have h1 := inn_t hx
  have h2 := inn_mono (K := K) (show x + 1 ≤ 512 from h)
  omega
theorem place_lt {K x : Nat} (h : x < 512) (hx : kap x = K) : stt K + inn K x < stt (K + 1) := by
  have h1 := inn_lt h hx
  have h2 := stt_s K
  omega
theorem stt_0 : stt 0 = 0 := fb_ct_zero.mpr (fun k _ => decide_eq_false (Nat.not_lt_zero _))
/-! ===== asked: whether so many numbers make a sum ===== -/
theorem no_more {K x y : Nat} (h : inn K x = inn K y) (hxy : x ≤ y) : ∀ z, x ≤ z → z < y → kap z ≠ K := by
  intro z h1 h2 hk
  have a := inn_mono (K := K) h1
  have b := inn_t hk
  have c := inn_mono (K := K) (show z + 1 ≤ y from h2)
  omega
theorem next_in {K x : Nat} (h : inn K x < inn K 512) : ∃ i, x ≤ i ∧ i < 512 ∧ kap i = K ∧ inn K i = inn K x := by
  obtain ⟨i, h1, h2, h3⟩ := fb_ct_kth h
  have h2 := isK_t.mp h2
  refine ⟨i, ?_, h1, h2, h3⟩
  rcases Nat.lt_or_ge i x with q | q
  · have a := inn_t h2
    have b := inn_mono (K := K) (show i + 1 ≤ x from q)
    have c : inn K i = inn K x := h3
    omega
  · exact q
def mdP (K X : Nat) (x : Nat) : Prop := ∃ i, x ≤ i ∧ i < 512 ∧ kap i = K ∧ (2 * i) &&& X = 0
theorem bc_top : ∀ h, h < 9 → ∀ y, y < 2 ^ h → bcN 9 (2 * (2 ^ h + y)) = bcN 9 (2 * y) + 1 ∧ smN 9 (2 * (2 ^ h + y)) = smN 9 (2 * y) + (h + 1) := by decide +kernel
/-- the two tables say the same: there are c numbers of Z that make t -/
theorem SS_iff (Z : Nat) : ∀ h, h ≤ 9 → ∀ c t, (∃ x, x < 2 ^ h ∧ bcN 9 (2 * x) = c ∧ smN 9 (2 * x) = t ∧ ∀ n, (2 * x).testBit n = true → Z.testBit n = true) ↔ (SS h Z c).testBit t = true := by
  intro h
  induction h with
  | zero =>
    intro _ c t
    constructor
    · rintro ⟨x, hx, h1, h2, _⟩
      obtain rfl : x = 0 := by omega
      have e1 : bcN 9 (2 * 0) = 0 := by decide
      have e2 : smN 9 (2 * 0) = 0 := by decide
      rw [e1] at h1
      rw [e2] at h2
      subst h1 h2
      show Nat.testBit (if (0 : Nat) = 0 then 1 else 0) 0 = true
      decide
    · intro h
      unfold SS at h
      by_cases c0 : c = 0
      · rw [if_pos c0] at h
        have t0 : t = 0 := by
          cases t with
          | zero => rfl
          | succ t =>
            rw [Nat.testBit_succ] at h
            simp at h
        subst c0 t0
        exact ⟨0, by decide, by decide, by decide, fun n hn => by simp at hn⟩
      · rw [if_neg c0] at h
        simp at h
  | succ h ih =>
    intro hh c t
    have hp : 2 ^ (h + 1) = 2 * 2 ^ h := by rw [Nat.pow_succ, Nat.mul_comm]
    have ih := ih (by omega)
    rw [SS_succ]
    have bits : ∀ y, y < 2 ^ h → ∀ n, (2 * (2 ^ h + y)).testBit n = (decide (n = h + 1) || (2 * y).testBit n) := by
      intro y hy n
      rw [show 2 * (2 ^ h + y) = 2 ^ (h + 1) + 2 * y by omega]
      rcases Nat.lt_trichotomy n (h + 1) with q | q | q
      · rw [Nat.testBit_two_pow_add_gt q, decide_eq_false (by omega), Bool.false_or]
      · subst q
        rw [Nat.testBit_two_pow_add_eq, Nat.testBit_lt_two_pow (show 2 * y < 2 ^ (h + 1) by omega)]
        simp
      · have h3 : 2 ^ (h + 2) ≤ 2 ^ n := Nat.pow_le_pow_right (by decide) q
        have h4 : 2 ^ (h + 2) = 2 * 2 ^ (h + 1) := by rw [Nat.pow_succ, Nat.mul_comm]
        rw [Nat.testBit_lt_two_pow (show 2 ^ (h + 1) + 2 * y < 2 ^ n by omega), Nat.testBit_lt_two_pow (show 2 * y < 2 ^ n by omega), decide_eq_false (by omega)]
        rfl
    by_cases hZ : Z.testBit (h + 1) = true
    · rw [hZ, if_pos rfl, Nat.testBit_or, Bool.or_eq_true]
      constructor
      · rintro ⟨x, hx, h1, h2, h3⟩
        rcases Nat.lt_or_ge x (2 ^ h) with q | q
        · exact Or.inl ((ih c t).mp ⟨x, q, h1, h2, h3⟩)
        · right
          obtain ⟨y, rfl⟩ : ∃ y, x = 2 ^ h + y := ⟨x - 2 ^ h, by omega⟩
          have hy : y < 2 ^ h := by omega
          obtain ⟨b1, b2⟩ := bc_top h (by omega) y hy
          rw [if_neg (by omega), Nat.testBit_shiftLeft, Bool.and_eq_true]
          refine ⟨decide_eq_true (by omega), (ih (c - 1) (t - (h + 1))).mp ⟨y, hy, by omega, by omega, fun n hn => h3 n (by rw [bits y hy, hn]; simp)⟩⟩
      · rintro (q | q)
        · obtain ⟨x, h1, h2⟩ := (ih c t).mpr q
          exact ⟨x, by omega, h2⟩
        · by_cases c0 : c = 0
          · rw [if_pos c0] at q; simp at q
          · rw [if_neg c0, Nat.testBit_shiftLeft, Bool.and_eq_true] at q
            have q1 := of_decide_eq_true q.1
            obtain ⟨y, hy, h2, h3, h4⟩ := (ih (c - 1) (t - (h + 1))).mpr q.2
            obtain ⟨b1, b2⟩ := bc_top h (by omega) y hy
            refine ⟨2 ^ h + y, by omega, by omega, by omega, fun n hn => ?_⟩
            rw [bits y hy, Bool.or_eq_true] at hn
            rcases hn with r | r
            · rw [of_decide_eq_true r]; exact hZ
            · exact h4 n r
    · rw [if_neg hZ]
      constructor
      · rintro ⟨x, hx, h1, h2, h3⟩
        rcases Nat.lt_or_ge x (2 ^ h) with q | q
        · exact (ih c t).mp ⟨x, q, h1, h2, h3⟩
        · obtain ⟨y, rfl⟩ : ∃ y, x = 2 ^ h + y := ⟨x - 2 ^ h, by omega⟩
          exact absurd (h3 (h + 1) (by rw [bits y (by omega)]; simp)) hZ
      · intro q
        obtain ⟨x, h1, h2⟩ := (ih c t).mpr q
        exact ⟨x, by omega, h2⟩
/-- c numbers, none of 2 * z, make t -/
def tb (z c t : Nat) : Bool := (SS 9 (2 * (511 - z)) c).testBit t
theorem hi_0 {x n : Nat} (hx : x < 512) (hn : (2 * x).testBit n = true) : 1 ≤ n ∧ n < 10 := by
  constructor
  · cases n with
    | zero => simp at hn
    | succ n => omega
  · rcases Nat.lt_or_ge n 10 with q | q
    · exact q
    · have h3 : 2 ^ 10 ≤ 2 ^ n := Nat.pow_le_pow_right (by decide) q
      rw [Nat.testBit_lt_two_pow (show 2 * x < 2 ^ n by omega)] at hn
      cases hn
theorem tb_iff {z : Nat} (hz : z < 512) {c t : Nat} (ht : t ≤ 45) : mdP (46 * c + t) (2 * z) 0 ↔ tb z c t = true := by
  unfold tb
  rw [← SS_iff _ 9 (Nat.le_refl _)]
  constructor
  · rintro ⟨i, _, h2, h3, h4⟩
    have h5 := sm_le i h2
    have h6 : bcN 9 (2 * i) = c ∧ smN 9 (2 * i) = t := by unfold kap at h3; omega
    refine ⟨i, h2, h6.1, h6.2, fun n hn => ?_⟩
    obtain ⟨q1, q2⟩ := hi_0 h2 hn
    rw [not_tb z hz n q2 q1]
    have h7 : ((2 * i) &&& (2 * z)).testBit n = false := by rw [h4]; simp
    rw [Nat.testBit_and, hn, Bool.true_and] at h7
    rw [h7]
    rfl
  · rintro ⟨i, h2, h5, h6, h7⟩
    refine ⟨i, Nat.zero_le _, h2, by unfold kap; omega, ?_⟩
    apply Nat.eq_of_testBit_eq
    intro n
    rw [Nat.testBit_and, Nat.zero_testBit]
    by_cases hn : (2 * i).testBit n = true
    · obtain ⟨q1, q2⟩ := hi_0 h2 hn
      have h8 := h7 n hn
      rw [not_tb z hz n q2 q1] at h8
      cases hq : (2 * z).testBit n
      · simp
      · rw [hq] at h8; cases h8
    · simp at hn
      rw [hn]
      rfl
/-! ===== ways and forced ===== -/
def fA (K : Nat) : Nat → Int32
  | 0 => 1022
  | x + 1 => if kap x = K then fA K x &&& nI (2 * x) else fA K x
theorem fA_no {K x : Nat} : ∀ y, x ≤ y → (∀ z, x ≤ z → z < y → kap z ≠ K) → fA K y = fA K x := by
  intro y
  induction y with
  | zero =>
    intro h _
    have e : x = 0 := by omega
    rw [e]
  | succ y ih =>
    intro h a
    rcases Nat.eq_or_lt_of_le h with q | q
    · rw [q]
    · rw [fA, if_neg (a y (by omega) (by omega)), ih (by omega) (fun z h1 h2 => a z h1 (by omega))]
theorem part_n {N : Nat} (hN : 600 ≤ N) {x c t : Nat} (hx : x < 512) (hc : c ≤ 9) (ht : t ≤ 45) : mX4_isPartition N (nI (2 * x)) (nI c) (nI t) = some (if kap x = 46 * c + t then 1 else 0) := by
  have b1 := bc_le x hx
  have b2 := sm_le x hx
  rw [mX4_isPartition, bc_x x hx]
  by_cases c1 : bcN 9 (2 * x) = c
  · rw [if_pos (by rw [c1]), tot_x (by omega) x hx, Option.bind_some]
    by_cases c2 : smN 9 (2 * x) = t
    · rw [if_pos (by rw [c2]), if_pos (by unfold kap; omega)]
    · rw [if_neg (fun e => c2 ((nI_eq (by omega) (by omega)).mp e)), if_neg (by unfold kap; omega)]
  · rw [if_neg (fun e => c1 ((nI_eq (by omega) (by omega)).mp e)), if_neg (by unfold kap; omega)]
theorem ways_10 {N : Nat} (hN : 600 ≤ N) {c t : Nat} (hc : c ≤ 9) (ht : t ≤ 45) : ∀ m n x, m < n → x + m = 512 → mX4_ways_10 N (nI c) (nI t) n (nI (inn (46 * c + t) x)) (nI (2 * x)) = some (.inr (nI (inn (46 * c + t) 512))) := by
  intro m
  induction m with
  | zero =>
    intro n x hn hx
    obtain ⟨n, rfl⟩ : ∃ j, n = j + 1 := ⟨n - 1, by omega⟩
    obtain rfl : x = 512 := by omega
    rw [s_mX4_ways_10, if_pos (show (1022 : Int32) < nI (2 * 512) by decide)]
  | succ m ih =>
    intro n x hn hx
    obtain ⟨n, rfl⟩ : ∃ j, n = j + 1 := ⟨n - 1, by omega⟩
    have e2 : nI (2 * x) + 2 = nI (2 * (x + 1)) := by rw [show (2 : Int32) = nI 2 from rfl, nI_add]; rfl
    rw [s_mX4_ways_10, if_neg (show ¬ (1022 : Int32) < nI (2 * x) from nI_nlt (a := 1022) (by omega) (by omega)), part_n hN (by omega) hc ht, Option.bind_some, e2]
    by_cases k : kap x = 46 * c + t
    · rw [if_pos k, if_neg (by decide), nI_1, ← inn_t k]
      exact ih n (x + 1) (by omega) (by omega)
    · rw [if_neg k, if_pos rfl, ← inn_f k]
      exact ih n (x + 1) (by omega) (by omega)
theorem forced_15 {N : Nat} (hN : 600 ≤ N) {c t : Nat} (hc : c ≤ 9) (ht : t ≤ 45) : ∀ m n x, m < n → x + m = 512 → mX4_forced_15 N (nI c) (nI t) n (nI (inn (46 * c + t) x)) (fA (46 * c + t) x) (nI (2 * x)) = some (.inr (if inn (46 * c + t) 512 = 0 then 0 else fA (46 * c + t) 512)) := by
  intro m
  induction m with
  | zero =>
    intro n x hn hx
    obtain ⟨n, rfl⟩ : ∃ j, n = j + 1 := ⟨n - 1, by omega⟩
    obtain rfl : x = 512 := by omega
    have hle : inn (46 * c + t) 512 ≤ 512 := fb_ct_le _ _
    rw [s_mX4_forced_15, if_pos (show (1022 : Int32) < nI (2 * 512) by decide)]
    by_cases z : inn (46 * c + t) 512 = 0
    · rw [z, if_pos nI_0, if_pos rfl]
    · rw [if_neg (nI_ne0 (by omega) (by omega)), if_neg z]
  | succ m ih =>
    intro n x hn hx
    obtain ⟨n, rfl⟩ : ∃ j, n = j + 1 := ⟨n - 1, by omega⟩
    have e2 : nI (2 * x) + 2 = nI (2 * (x + 1)) := by rw [show (2 : Int32) = nI 2 from rfl, nI_add]; rfl
    have e3 : fA (46 * c + t) (x + 1) = if kap x = 46 * c + t then fA (46 * c + t) x &&& nI (2 * x) else fA (46 * c + t) x := rfl
    have h := ih n (x + 1) (by omega) (by omega)
    rw [s_mX4_forced_15, if_neg (show ¬ (1022 : Int32) < nI (2 * x) from nI_nlt (a := 1022) (by omega) (by omega)), part_n hN (by omega) hc ht, Option.bind_some, e2]
    by_cases k : kap x = 46 * c + t
    · rw [if_pos k, if_neg (by decide), nI_1, ← inn_t k]
      rw [e3, if_pos k] at h
      exact h
    · rw [if_neg k, if_pos rfl, ← inn_f k]
      rw [e3, if_neg k] at h
      exact h
