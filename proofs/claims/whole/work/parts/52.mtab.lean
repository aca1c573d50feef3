/-! ===== the model's table: the sets in the order of their keys; and what is asked of it ===== -/
def kap (x : Nat) : Nat := 46 * bcN 9 (2 * x) + smN 9 (2 * x)
def isK (K x : Nat) : Bool := decide (kap x = K)
def stt (K : Nat) : Nat := fb_ct (fun x => decide (kap x < K)) 512
def inn (K n : Nat) : Nat := fb_ct (isK K) n
def kpos (x : Nat) : Nat := stt (kap x) + inn (kap x) x
theorem kap_lt {x : Nat} (h : x < 512) : kap x < 460 := by
  have h1 := bc_le x h
  have h2 := sm_le x h
  unfold kap
  omega
theorem kap_iff {x K : Nat} (h : x < 512) : kap x = K ↔ bcN 9 (2 * x) = K / 46 ∧ smN 9 (2 * x) = K % 46 := by
  have h2 := sm_le x h
  unfold kap
  omega
theorem isK_t {K x : Nat} : isK K x = true ↔ kap x = K := by unfold isK; exact decide_eq_true_iff
theorem inn_t {K x : Nat} (h : kap x = K) : inn K (x + 1) = inn K x + 1 := by
  unfold inn
  rw [fb_ct_succ, isK_t.mpr h]
  rfl
theorem inn_f {K x : Nat} (h : kap x ≠ K) : inn K (x + 1) = inn K x := by
  unfold inn
  have e : isK K x = false := by
    cases q : isK K x
    · rfl
    · exact absurd (isK_t.mp q) h
  rw [fb_ct_succ, e]
  rfl
theorem inn_mono {K a b : Nat} (h : a ≤ b) : inn K a ≤ inn K b := fb_ct_mono _ h
theorem stt_s (K : Nat) : stt (K + 1) = stt K + inn K 512 := by
  have h := fb_ct_or (n := 512) (p := fun x => decide (kap x < K)) (q := isK K) (fun k _ hk => by
    have h1 := of_decide_eq_true hk.1
    have h2 := isK_t.mp hk.2
    omega)
  unfold stt inn
  rw [← h]
  apply fb_ct_cong
  intro k _
  by_cases a : kap k < K
  · rw [decide_eq_true a, decide_eq_true (show kap k < K + 1 by omega)]; rfl
  · rw [decide_eq_false a, Bool.false_or]
    unfold isK
    exact decide_eq_decide.mpr (by omega)
theorem stt_le (K : Nat) : stt K ≤ 512 := fb_ct_le _ _
theorem stt_mono {a b : Nat} (h : a ≤ b) : stt a ≤ stt b := fb_ct_sub (fun k _ hk => decide_eq_true (Nat.lt_of_lt_of_le (of_decide_eq_true hk) h))
theorem inn_lt {K x : Nat} (h : x < 512) (hx : kap x = K) : inn K x < inn K 512 := by
  have h1 := inn_t hx
  have h2 := inn_mono (K := K) (show x + 1 ≤ 512 from h)
  omega
theorem place_lt {K x : Nat} (h : x < 512) (hx : kap x = K) : stt K + inn K x < stt (K + 1) := by
  have h1 := inn_lt h hx
  have h2 := stt_s K
  omega
/-- what the model's table is -/
def MTB (me mf : RowI) : Prop := (∀ x, x < 512 → me (kpos x) = nI (2 * x)) ∧ ∀ K, K ≤ 460 → mf K = nI (stt K)
def MTx (K x : Nat) (me : RowI) : Prop := ∀ z, z < 512 → (kap z < K ∨ (kap z = K ∧ z < x)) → me (kpos z) = nI (2 * z)
theorem MTx.next {K : Nat} {me : RowI} (h : MTx K 512 me) : MTx (K + 1) 0 me := by
  intro z hz hq
  refine h z hz ?_
  rcases hq with q | q
  · rcases Nat.lt_or_ge (kap z) K with r | r
    · exact Or.inl r
    · exact Or.inr ⟨by omega, hz⟩
  · exact absurd q.2 (Nat.not_lt_zero _)
theorem i84 (N : Nat) (hN : 600 ≤ N) (w h : Int32) (ms mb mf : RowI) {K : Nat} (hK : K < 460) (Kc : Int32 → Int32 → RowI → RowI → Option (RowI × RowI × RowI)) (P : RowI × RowI × RowI → Prop)
    (hKc : ∀ me, MTx (K + 1) 0 me → ∃ r, Kc (nI (stt (K + 1))) (nI (K + 1)) me mf = some r ∧ P r) : ∀ m n x me, m < n → x + m = 512 → MTx K x me → ∃ r, mX5_init_84 N w h ms mb Kc n (nI (stt K + inn K x)) (nI K) (nI (2 * x)) me mf = some r ∧ P r := by
  intro m
  induction m with
  | zero =>
    intro n x me hn hx hT
    obtain ⟨n, rfl⟩ : ∃ j, n = j + 1 := ⟨n - 1, by omega⟩
    obtain rfl : x = 512 := by omega
    rw [s_mX5_init_84, if_pos (show (1024 : Int32) ≤ nI (2 * 512) by decide), nI_1, ← stt_s]
    exact hKc me hT.next
  | succ m ih =>
    intro n x me hn hx hT
    obtain ⟨n, rfl⟩ : ∃ j, n = j + 1 := ⟨n - 1, by omega⟩
    have hx5 : x < 512 := by omega
    have e2 : nI (2 * x) + 2 = nI (2 * (x + 1)) := by rw [show (2 : Int32) = nI 2 from rfl, nI_add]; rfl
    have e46 : nI K / (46 : Int32) = nI (K / 46) := pk_div (d := 46) (by omega) (by omega) (by omega)
    have m46 : nI K - nI K / (46 : Int32) * (46 : Int32) = nI (K % 46) := pk_rem (d := 46) (by omega) (by omega) (by omega)
    have b1 := bc_le x hx5
    have b2 := sm_le x hx5
    have no : kap x ≠ K → ∃ r, mX5_init_84 N w h ms mb Kc n (nI (stt K + inn K x)) (nI K) (nI (2 * x) + 2) me mf = some r ∧ P r := by
      intro hne
      have := ih n (x + 1) me (by omega) (by omega) (fun z hz hq => hT z hz (by
        rcases hq with q | q
        · exact Or.inl q
        · refine Or.inr ⟨q.1, ?_⟩
          rcases Nat.lt_or_ge z x with r | r
          · exact r
          · obtain rfl : z = x := by omega
            exact absurd q.1 hne))
      rw [inn_f hne] at this
      rw [e2]
      exact this
    rw [s_mX5_init_84, if_neg (show ¬ (1024 : Int32) ≤ nI (2 * x) from nI_ge (b := 1024) (by omega) (by omega)), if_neg (by decide), bc_x x hx5]
    by_cases c1 : bcN 9 (2 * x) = K / 46
    · rw [if_pos (by rw [e46, c1]), sum_x (by omega) x hx5, Option.bind_some, if_neg (by decide), m46]
      by_cases c2 : smN 9 (2 * x) = K % 46
      · have hk : kap x = K := (kap_iff hx5).mpr ⟨c1, c2⟩
        have hp := place_lt hx5 hk
        have hle := stt_le (K + 1)
        rw [if_pos (by rw [c2]), if_neg (bad_n (by omega) (by omega)), nI_clamp (by omega), nI_1, e2]
        have := ih n (x + 1) (upd me (stt K + inn K x) (nI (2 * x))) (by omega) (by omega) (fun z hz hq => by
          by_cases hzx : z = x
          · subst hzx
            have e : kpos z = stt K + inn K z := by unfold kpos; rw [hk]
            rw [e, upd_s]
          · have hq2 : kap z < K ∨ (kap z = K ∧ z < x) := by
              rcases hq with q | q
              · exact Or.inl q
              · exact Or.inr ⟨q.1, by omega⟩
            rw [upd_n, hT z hz hq2]
            rcases hq2 with q | q
            · have h1 := place_lt hz rfl
              have h2 := stt_mono (show kap z + 1 ≤ K from q)
              unfold kpos
              omega
            · have h1 := inn_t q.1
              have h2 := inn_mono (K := K) (show z + 1 ≤ x from q.2)
              unfold kpos
              rw [q.1]
              omega)
        rw [inn_t hk, show stt K + (inn K x + 1) = stt K + inn K x + 1 from (Nat.add_assoc _ _ _).symm] at this
        exact this
      · rw [if_neg (fun e => c2 ((nI_eq (by omega) (by omega)).mp e))]
        exact no (fun e => c2 ((kap_iff hx5).mp e).2)
    · rw [if_neg (fun e => c1 ((nI_eq (by omega) (by omega)).mp (by rw [e46] at e; exact e)))]
      exact no (fun e => c1 ((kap_iff hx5).mp e).1)
theorem i68 (N : Nat) (hN : 600 ≤ N) (w h : Int32) (ms mb mb' : RowI) (hl : mX5_link N w h ms mb = some mb') : ∀ m n K me mf, m < n → K + m = 460 → MTx K 0 me → (∀ K', K' < K → mf K' = nI (stt K')) →
    ∃ r, mX5_init_68 N w h ms mb n (nI (stt K)) (nI K) me mf = some r ∧ (r.1 = mb' ∧ MTB r.2.1 r.2.2) := by
  intro m
  induction m with
  | zero =>
    intro n K me mf hn hK hT hF
    obtain ⟨n, rfl⟩ : ∃ j, n = j + 1 := ⟨n - 1, by omega⟩
    obtain rfl : K = 460 := by omega
    rw [s_mX5_init_68, if_pos (show (460 : Int32) ≤ nI 460 by decide), if_neg (show ¬ bad (460 : Int32) 461 from bad_n (k := 460) (by omega) (by omega)), hl, Option.bind_some]
    refine ⟨_, rfl, rfl, ?_, ?_⟩
    · intro x hx
      exact hT x hx (Or.inl (kap_lt hx))
    · intro K hK
      show upd mf (nI 460).toNatClampNeg _ K = _
      rw [nI_clamp (by omega)]
      by_cases e : K = 460
      · subst e; rw [upd_s]
      · rw [upd_n e, hF K (by omega)]
  | succ m ih =>
    intro n K me mf hn hK hT hF
    obtain ⟨n, rfl⟩ : ∃ j, n = j + 1 := ⟨n - 1, by omega⟩
    rw [s_mX5_init_68, if_neg (show ¬ (460 : Int32) ≤ nI K from nI_ge (b := 460) (by omega) (by omega)), if_neg (bad_n (by omega) (by omega)), nI_clamp (by omega)]
    have := i84 N hN w h ms mb (upd mf K (nI (stt K))) (show K < 460 by omega) (mX5_init_68 N w h ms mb n) (fun r => r.1 = mb' ∧ MTB r.2.1 r.2.2) (fun me hm => ih n (K + 1) me _ (by omega) (by omega) hm (fun K' hk' => by
      by_cases e : K' = K
      · subst e; rw [upd_s]
      · rw [upd_n e, hF K' (by omega)])) 512 N 0 me (by omega) (by omega) hT
    rw [show inn K 0 = 0 from rfl, Nat.add_zero] at this
    rw [show (0 : Int32) = nI (2 * 0) from rfl]
    exact this
theorem stt_0 : stt 0 = 0 := fb_ct_zero.mpr (fun k _ => decide_eq_false (Nat.not_lt_zero _))
theorem tab_model (N : Nat) (hN : 600 ≤ N) (w h : Int32) (ms mb mb' me mf : RowI) (hl : mX5_link N w h ms mb = some mb') : ∃ me' mf', mX5_init N w h ms mb me mf = some (mb', me', mf') ∧ MTB me' mf' := by
  have h := i68 N hN w h ms mb mb' hl 460 N 0 me mf (by omega) (by omega) (fun z _ hq => absurd hq (by omega)) (fun K' h => absurd h (Nat.not_lt_zero _))
  rw [stt_0] at h
  obtain ⟨⟨r1, r2, r3⟩, h1, h2, h3⟩ := h
  refine ⟨r2, r3, ?_, h3⟩
  rw [mX5_init, ← h2]
  exact h1
/-! ===== asked: whether so many numbers make a sum ===== -/
theorem no_more {K x y : Nat} (h : inn K x = inn K y) (hxy : x ≤ y) : ∀ z, x ≤ z → z < y → kap z ≠ K := by
  intro z h1 h2 hk
  have a := inn_mono (K := K) h1
  have b := inn_t hk
  have c := inn_mono (K := K) (show z + 1 ≤ y from h2)
  omega
theorem next_in {K x : Nat} (h : inn K x < inn K 512) : ∃ i, x ≤ i ∧ i < 512 ∧ kap i = K ∧ inn K i = inn K x := by
  obtain ⟨i, h1, h2, h3⟩ := fb_ct_kth h
  have h2 := isK_t.mp h2
  refine ⟨i, ?_, h1, h2, h3⟩
  rcases Nat.lt_or_ge i x with q | q
  · have a := inn_t h2
    have b := inn_mono (K := K) (show i + 1 ≤ x from q)
    have c : inn K i = inn K x := h3
    omega
  · exact q
def mdP (K X : Nat) (x : Nat) : Prop := ∃ i, x ≤ i ∧ i < 512 ∧ kap i = K ∧ (2 * i) &&& X = 0
theorem made_17 {N : Nat} {me mf : RowI} (hT : MTB me mf) {K X : Nat} (hK : K < 460) (hX : X < 1024) : ∀ m n x, m < n → x ≤ 512 → inn K x + m = inn K 512 →
    (mdP K X x → mX5_isMade_17 N me mf (nI X) n (nI K) (nI (stt K + inn K x)) = some 1) ∧ (¬ mdP K X x → mX5_isMade_17 N me mf (nI X) n (nI K) (nI (stt K + inn K x)) = some 0) := by
  intro m
  induction m with
  | zero =>
    intro n x hn hx hm
    obtain ⟨n, rfl⟩ : ∃ j, n = j + 1 := ⟨n - 1, by omega⟩
    have hs := stt_s K
    have hle := stt_le (K + 1)
    have e : mX5_isMade_17 N me mf (nI X) (n + 1) (nI K) (nI (stt K + inn K x)) = some 0 := by
      rw [s_mX5_isMade_17, show nI K + (1 : Int32) = nI (K + 1) from nI_1 K, if_neg (bad_n (by omega) (by omega)), nI_clamp (by omega), hT.2 (K + 1) (by omega), if_pos (nI_le (by omega) (by omega))]
    refine ⟨fun h => ?_, fun _ => e⟩
    obtain ⟨i, h1, h2, h3, _⟩ := h
    exact absurd h3 (no_more (show inn K x = inn K 512 by omega) hx i h1 h2)
  | succ m ih =>
    intro n x hn hx hm
    obtain ⟨n, rfl⟩ : ∃ j, n = j + 1 := ⟨n - 1, by omega⟩
    obtain ⟨i, hi1, hi2, hi3, hi4⟩ := next_in (show inn K x < inn K 512 by omega)
    have hs := stt_s K
    have hle := stt_le (K + 1)
    have hp := place_lt hi2 hi3
    have hme : me (stt K + inn K i) = nI (2 * i) := by
      have h := hT.1 i hi2
      unfold kpos at h
      rw [hi3] at h
      exact h
    have e : mX5_isMade_17 N me mf (nI X) (n + 1) (nI K) (nI (stt K + inn K x)) = if nI (2 * i) &&& nI X = 0 then some 1 else mX5_isMade_17 N me mf (nI X) n (nI K) (nI (stt K + inn K (i + 1))) := by
      rw [s_mX5_isMade_17, show nI K + (1 : Int32) = nI (K + 1) from nI_1 K, if_neg (bad_n (by omega) (by omega)), nI_clamp (by omega), hT.2 (K + 1) (by omega), ← hi4, if_neg (nI_ge (by omega) (by omega)), if_neg (bad_n (by omega) (by omega)), nI_clamp (by omega), hme, nI_1, inn_t hi3, show stt K + (inn K i + 1) = stt K + inn K i + 1 from (Nat.add_assoc _ _ _).symm]
    have hc : (nI (2 * i) &&& nI X = 0) ↔ (2 * i) &&& X = 0 := by
      rw [fa_and]
      constructor
      · intro h
        rcases Nat.eq_zero_or_pos ((2 * i) &&& X) with z | z
        · exact z
        · exact absurd h (nI_ne0 z (Nat.lt_of_le_of_lt Nat.and_le_right (by omega)))
      · intro h
        rw [h]
        exact nI_0
    obtain ⟨ih1, ih2⟩ := ih n (i + 1) (by omega) (by omega) (by rw [inn_t hi3]; omega)
    rw [e]
    by_cases c : (2 * i) &&& X = 0
    · rw [if_pos (hc.mpr c)]
      exact ⟨fun _ => rfl, fun h => absurd ⟨i, hi1, hi2, hi3, c⟩ h⟩
    · rw [if_neg (fun q => c (hc.mp q))]
      have hh : mdP K X x ↔ mdP K X (i + 1) := by
        constructor
        · rintro ⟨j, h1, h2, h3, h4⟩
          refine ⟨j, ?_, h2, h3, h4⟩
          rcases Nat.lt_or_ge j i with q | q
          · exact absurd h3 (no_more hi4.symm hi1 j h1 q)
          · rcases Nat.eq_or_lt_of_le q with r | r
            · subst r; exact absurd h4 c
            · exact r
        · rintro ⟨j, h1, h2, h3, h4⟩
          exact ⟨j, by omega, h2, h3, h4⟩
      exact ⟨fun h => ih1 (hh.mp h), fun h => ih2 (fun q => h (hh.mpr q))⟩
theorem bc_top : ∀ h, h < 9 → ∀ y, y < 2 ^ h → bcN 9 (2 * (2 ^ h + y)) = bcN 9 (2 * y) + 1 ∧ smN 9 (2 * (2 ^ h + y)) = smN 9 (2 * y) + (h + 1) := by decide +kernel
/-- the two tables say the same: there are c numbers of Z that make t -/
theorem SS_iff (Z : Nat) : ∀ h, h ≤ 9 → ∀ c t, (∃ x, x < 2 ^ h ∧ bcN 9 (2 * x) = c ∧ smN 9 (2 * x) = t ∧ ∀ n, (2 * x).testBit n = true → Z.testBit n = true) ↔ (SS h Z c).testBit t = true := by
  intro h
  induction h with
  | zero =>
    intro _ c t
    constructor
    · rintro ⟨x, hx, h1, h2, _⟩
      obtain rfl : x = 0 := by omega
      have e1 : bcN 9 (2 * 0) = 0 := by decide
      have e2 : smN 9 (2 * 0) = 0 := by decide
      rw [e1] at h1
      rw [e2] at h2
      subst h1 h2
      show Nat.testBit (if (0 : Nat) = 0 then 1 else 0) 0 = true
      decide
    · intro h
      unfold SS at h
      by_cases c0 : c = 0
      · rw [if_pos c0] at h
        have t0 : t = 0 := by
          cases t with
          | zero => rfl
          | succ t =>
            rw [Nat.testBit_succ] at h
            simp at h
        subst c0 t0
        exact ⟨0, by decide, by decide, by decide, fun n hn => by simp at hn⟩
      · rw [if_neg c0] at h
        simp at h
  | succ h ih =>
    intro hh c t
    have hp : 2 ^ (h + 1) = 2 * 2 ^ h := by rw [Nat.pow_succ, Nat.mul_comm]
    have ih := ih (by omega)
    rw [SS_succ]
    have bits : ∀ y, y < 2 ^ h → ∀ n, (2 * (2 ^ h + y)).testBit n = (decide (n = h + 1) || (2 * y).testBit n) := by
      intro y hy n
      rw [show 2 * (2 ^ h + y) = 2 ^ (h + 1) + 2 * y by omega]
      rcases Nat.lt_trichotomy n (h + 1) with q | q | q
      · rw [Nat.testBit_two_pow_add_gt q, decide_eq_false (by omega), Bool.false_or]
      · subst q
        rw [Nat.testBit_two_pow_add_eq, Nat.testBit_lt_two_pow (show 2 * y < 2 ^ (h + 1) by omega)]
        simp
      · have h3 : 2 ^ (h + 2) ≤ 2 ^ n := Nat.pow_le_pow_right (by decide) q
        have h4 : 2 ^ (h + 2) = 2 * 2 ^ (h + 1) := by rw [Nat.pow_succ, Nat.mul_comm]
        rw [Nat.testBit_lt_two_pow (show 2 ^ (h + 1) + 2 * y < 2 ^ n by omega), Nat.testBit_lt_two_pow (show 2 * y < 2 ^ n by omega), decide_eq_false (by omega)]
        rfl
    by_cases hZ : Z.testBit (h + 1) = true
    · rw [hZ, if_pos rfl, Nat.testBit_or, Bool.or_eq_true]
      constructor
      · rintro ⟨x, hx, h1, h2, h3⟩
        rcases Nat.lt_or_ge x (2 ^ h) with q | q
        · exact Or.inl ((ih c t).mp ⟨x, q, h1, h2, h3⟩)
        · right
          obtain ⟨y, rfl⟩ : ∃ y, x = 2 ^ h + y := ⟨x - 2 ^ h, by omega⟩
          have hy : y < 2 ^ h := by omega
          obtain ⟨b1, b2⟩ := bc_top h (by omega) y hy
          rw [if_neg (by omega), Nat.testBit_shiftLeft, Bool.and_eq_true]
          refine ⟨decide_eq_true (by omega), (ih (c - 1) (t - (h + 1))).mp ⟨y, hy, by omega, by omega, fun n hn => h3 n (by rw [bits y hy, hn]; simp)⟩⟩
      · rintro (q | q)
        · obtain ⟨x, h1, h2⟩ := (ih c t).mpr q
          exact ⟨x, by omega, h2⟩
        · by_cases c0 : c = 0
          · rw [if_pos c0] at q; simp at q
          · rw [if_neg c0, Nat.testBit_shiftLeft, Bool.and_eq_true] at q
            have q1 := of_decide_eq_true q.1
            obtain ⟨y, hy, h2, h3, h4⟩ := (ih (c - 1) (t - (h + 1))).mpr q.2
            obtain ⟨b1, b2⟩ := bc_top h (by omega) y hy
            refine ⟨2 ^ h + y, by omega, by omega, by omega, fun n hn => ?_⟩
            rw [bits y hy, Bool.or_eq_true] at hn
            rcases hn with r | r
            · rw [of_decide_eq_true r]; exact hZ
            · exact h4 n r
    · rw [if_neg hZ]
      constructor
      · rintro ⟨x, hx, h1, h2, h3⟩
        rcases Nat.lt_or_ge x (2 ^ h) with q | q
        · exact (ih c t).mp ⟨x, q, h1, h2, h3⟩
        · obtain ⟨y, rfl⟩ : ∃ y, x = 2 ^ h + y := ⟨x - 2 ^ h, by omega⟩
          exact absurd (h3 (h + 1) (by rw [bits y (by omega)]; simp)) hZ
      · intro q
        obtain ⟨x, h1, h2⟩ := (ih c t).mpr q
        exact ⟨x, by omega, h2⟩
/-- c numbers, none of 2 * z, make t -/
def tb (z c t : Nat) : Bool := (SS 9 (2 * (511 - z)) c).testBit t
theorem hi_0 {x n : Nat} (hx : x < 512) (hn : (2 * x).testBit n = true) : 1 ≤ n ∧ n < 10 := by
  constructor
  · cases n with
    | zero => simp at hn
    | succ n => omega
  · rcases Nat.lt_or_ge n 10 with q | q
    · exact q
    · have h3 : 2 ^ 10 ≤ 2 ^ n := Nat.pow_le_pow_right (by decide) q
      rw [Nat.testBit_lt_two_pow (show 2 * x < 2 ^ n by omega)] at hn
      cases hn
theorem tb_iff {z : Nat} (hz : z < 512) {c t : Nat} (ht : t ≤ 45) : mdP (46 * c + t) (2 * z) 0 ↔ tb z c t = true := by
  unfold tb
  rw [← SS_iff _ 9 (Nat.le_refl _)]
  constructor
  · rintro ⟨i, _, h2, h3, h4⟩
    have h5 := sm_le i h2
    have h6 : bcN 9 (2 * i) = c ∧ smN 9 (2 * i) = t := by unfold kap at h3; omega
    refine ⟨i, h2, h6.1, h6.2, fun n hn => ?_⟩
    obtain ⟨q1, q2⟩ := hi_0 h2 hn
    rw [not_tb z hz n q2 q1]
    have h7 : ((2 * i) &&& (2 * z)).testBit n = false := by rw [h4]; simp
    rw [Nat.testBit_and, hn, Bool.true_and] at h7
    rw [h7]
    rfl
  · rintro ⟨i, h2, h5, h6, h7⟩
    refine ⟨i, Nat.zero_le _, h2, by unfold kap; omega, ?_⟩
    apply Nat.eq_of_testBit_eq
    intro n
    rw [Nat.testBit_and, Nat.zero_testBit]
    by_cases hn : (2 * i).testBit n = true
    · obtain ⟨q1, q2⟩ := hi_0 h2 hn
      have h8 := h7 n hn
      rw [not_tb z hz n q2 q1] at h8
      cases hq : (2 * z).testBit n
      · simp
      · rw [hq] at h8; cases h8
    · simp at hn
      rw [hn]
      rfl
theorem made_n {N : Nat} (hN : 600 ≤ N) {me mf : RowI} (hT : MTB me mf) {z c t : Nat} (hz : z < 512) (hc : c ≤ 9) (ht : t ≤ 45) : mX5_isMade N me mf (nI c) (nI t) (nI (2 * z)) = some (if tb z c t then 1 else 0) := by
  have e : (46 : Int32) * nI c + nI t = nI (46 * c + t) := by rw [show (46 : Int32) = nI 46 from rfl, pk_mul, nI_add]
  have h0 : inn (46 * c + t) 0 = 0 := rfl
  have hs := stt_le (46 * c + t + 1)
  have hs2 := stt_s (46 * c + t)
  obtain ⟨h1, h2⟩ := made_17 (N := N) hT (K := 46 * c + t) (X := 2 * z) (by omega) (by omega) (inn (46 * c + t) 512) N 0 (by omega) (by omega) (by omega)
  rw [h0, Nat.add_zero] at h1 h2
  rw [mX5_isMade, e, if_neg (bad_n (by omega) (by omega)), nI_clamp (by omega), hT.2 _ (by omega)]
  by_cases q : tb z c t = true
  · rw [q, if_pos rfl]
    exact h1 ((tb_iff hz ht).mpr q)
  · rw [if_neg q]
    exact h2 (fun r => q ((tb_iff hz ht).mp r))
/-! ===== ways and forced ===== -/
def fA (K : Nat) : Nat → Int32
  | 0 => 1022
  | x + 1 => if kap x = K then fA K x &&& nI (2 * x) else fA K x
theorem fA_no {K x : Nat} : ∀ y, x ≤ y → (∀ z, x ≤ z → z < y → kap z ≠ K) → fA K y = fA K x := by
  intro y
  induction y with
  | zero =>
    intro h _
    have e : x = 0 := by omega
    rw [e]
  | succ y ih =>
    intro h a
    rcases Nat.eq_or_lt_of_le h with q | q
    · rw [q]
    · rw [fA, if_neg (a y (by omega) (by omega)), ih (by omega) (fun z h1 h2 => a z h1 (by omega))]
theorem part_n {N : Nat} (hN : 600 ≤ N) {x c t : Nat} (hx : x < 512) (hc : c ≤ 9) (ht : t ≤ 45) : mX4_isPartition N (nI (2 * x)) (nI c) (nI t) = some (if kap x = 46 * c + t then 1 else 0) := by
  have b1 := bc_le x hx
  have b2 := sm_le x hx
  rw [mX4_isPartition, bc_x x hx]
  by_cases c1 : bcN 9 (2 * x) = c
  · rw [if_pos (by rw [c1]), tot_x (by omega) x hx, Option.bind_some]
    by_cases c2 : smN 9 (2 * x) = t
    · rw [if_pos (by rw [c2]), if_pos (by unfold kap; omega)]
    · rw [if_neg (fun e => c2 ((nI_eq (by omega) (by omega)).mp e)), if_neg (by unfold kap; omega)]
  · rw [if_neg (fun e => c1 ((nI_eq (by omega) (by omega)).mp e)), if_neg (by unfold kap; omega)]
theorem ways_10 {N : Nat} (hN : 600 ≤ N) {c t : Nat} (hc : c ≤ 9) (ht : t ≤ 45) : ∀ m n x, m < n → x + m = 512 → mX4_ways_10 N (nI c) (nI t) n (nI (inn (46 * c + t) x)) (nI (2 * x)) = some (.inr (nI (inn (46 * c + t) 512))) := by
  intro m
  induction m with
  | zero =>
    intro n x hn hx
    obtain ⟨n, rfl⟩ : ∃ j, n = j + 1 := ⟨n - 1, by omega⟩
    obtain rfl : x = 512 := by omega
    rw [s_mX4_ways_10, if_pos (show (1022 : Int32) < nI (2 * 512) by decide)]
  | succ m ih =>
    intro n x hn hx
    obtain ⟨n, rfl⟩ : ∃ j, n = j + 1 := ⟨n - 1, by omega⟩
    have e2 : nI (2 * x) + 2 = nI (2 * (x + 1)) := by rw [show (2 : Int32) = nI 2 from rfl, nI_add]; rfl
    rw [s_mX4_ways_10, if_neg (show ¬ (1022 : Int32) < nI (2 * x) from nI_nlt (a := 1022) (by omega) (by omega)), part_n hN (by omega) hc ht, Option.bind_some, e2]
    by_cases k : kap x = 46 * c + t
    · rw [if_pos k, if_neg (by decide), nI_1, ← inn_t k]
      exact ih n (x + 1) (by omega) (by omega)
    · rw [if_neg k, if_pos rfl, ← inn_f k]
      exact ih n (x + 1) (by omega) (by omega)
theorem forced_15 {N : Nat} (hN : 600 ≤ N) {c t : Nat} (hc : c ≤ 9) (ht : t ≤ 45) : ∀ m n x, m < n → x + m = 512 → mX4_forced_15 N (nI c) (nI t) n (nI (inn (46 * c + t) x)) (fA (46 * c + t) x) (nI (2 * x)) = some (.inr (if inn (46 * c + t) 512 = 0 then 0 else fA (46 * c + t) 512)) := by
  intro m
  induction m with
  | zero =>
    intro n x hn hx
    obtain ⟨n, rfl⟩ : ∃ j, n = j + 1 := ⟨n - 1, by omega⟩
    obtain rfl : x = 512 := by omega
    have hle : inn (46 * c + t) 512 ≤ 512 := fb_ct_le _ _
    rw [s_mX4_forced_15, if_pos (show (1022 : Int32) < nI (2 * 512) by decide)]
    by_cases z : inn (46 * c + t) 512 = 0
    · rw [z, if_pos nI_0, if_pos rfl]
    · rw [if_neg (nI_ne0 (by omega) (by omega)), if_neg z]
  | succ m ih =>
    intro n x hn hx
    obtain ⟨n, rfl⟩ : ∃ j, n = j + 1 := ⟨n - 1, by omega⟩
    have e2 : nI (2 * x) + 2 = nI (2 * (x + 1)) := by rw [show (2 : Int32) = nI 2 from rfl, nI_add]; rfl
    have e3 : fA (46 * c + t) (x + 1) = if kap x = 46 * c + t then fA (46 * c + t) x &&& nI (2 * x) else fA (46 * c + t) x := rfl
    have h := ih n (x + 1) (by omega) (by omega)
    rw [s_mX4_forced_15, if_neg (show ¬ (1022 : Int32) < nI (2 * x) from nI_nlt (a := 1022) (by omega) (by omega)), part_n hN (by omega) hc ht, Option.bind_some, e2]
    by_cases k : kap x = 46 * c + t
    · rw [if_pos k, if_neg (by decide), nI_1, ← inn_t k]
      rw [e3, if_pos k] at h
      exact h
    · rw [if_neg k, if_pos rfl, ← inn_f k]
      rw [e3, if_neg k] at h
      exact h
theorem forced_41 {N : Nat} {me mf : RowI} (hT : MTB me mf) {K : Nat} (hK : K < 460) : ∀ m n x, m < n → x ≤ 512 → inn K x + m = inn K 512 → mX5_forcedOf_41 N me mf n (nI K) (fA K x) (nI (stt K + inn K x)) = some (fA K 512) := by
  intro m
  induction m with
  | zero =>
    intro n x hn hx hm
    obtain ⟨n, rfl⟩ : ∃ j, n = j + 1 := ⟨n - 1, by omega⟩
    have hs := stt_s K
    have hle := stt_le (K + 1)
    rw [s_mX5_forcedOf_41, show nI K + (1 : Int32) = nI (K + 1) from nI_1 K, if_neg (bad_n (by omega) (by omega)), nI_clamp (by omega), hT.2 (K + 1) (by omega), if_pos (nI_le (by omega) (by omega)), fA_no 512 hx (no_more (show inn K x = inn K 512 by omega) hx)]
  | succ m ih =>
    intro n x hn hx hm
    obtain ⟨n, rfl⟩ : ∃ j, n = j + 1 := ⟨n - 1, by omega⟩
    obtain ⟨i, hi1, hi2, hi3, hi4⟩ := next_in (show inn K x < inn K 512 by omega)
    have hs := stt_s K
    have hle := stt_le (K + 1)
    have hp := place_lt hi2 hi3
    have hme : me (stt K + inn K i) = nI (2 * i) := by
      have h := hT.1 i hi2
      unfold kpos at h
      rw [hi3] at h
      exact h
    have e3 : fA K (i + 1) = fA K x &&& nI (2 * i) := by rw [fA, if_pos hi3, fA_no i hi1 (no_more hi4.symm hi1)]
    have h := ih n (i + 1) (by omega) (by omega) (by rw [inn_t hi3]; omega)
    rw [s_mX5_forcedOf_41, show nI K + (1 : Int32) = nI (K + 1) from nI_1 K, if_neg (bad_n (by omega) (by omega)), nI_clamp (by omega), hT.2 (K + 1) (by omega), ← hi4, if_neg (nI_ge (by omega) (by omega)), if_neg (bad_n (by omega) (by omega)), nI_clamp (by omega), hme, nI_1, ← e3]
    rw [inn_t hi3, show stt K + (inn K i + 1) = stt K + inn K i + 1 from (Nat.add_assoc _ _ _).symm] at h
    exact h
