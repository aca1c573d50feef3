/-! ===== the law's own numbers of a sum: lists that rise ===== -/
def inc : Nat → List Nat → Prop
  | _, [] => True
  | low, a :: l => low ≤ a ∧ inc (a + 1) l
theorem inc_ge : ∀ (l : List Nat) (low : Nat), inc low l → ∀ v ∈ l, low ≤ v
  | [], _, _, v, hv => absurd hv List.not_mem_nil
  | a :: l, low, h, v, hv => by
    rcases List.mem_cons.mp hv with q | q
    · rw [q]; exact h.1
    · have := inc_ge l (a + 1) h.2 v q
      have := h.1
      omega
theorem inc_snoc : ∀ (l : List Nat) (low a : Nat), inc low (l ++ [a]) ↔ (inc low l ∧ low ≤ a ∧ ∀ v ∈ l, v < a)
  | [], low, a => by simp [inc]
  | b :: l, low, a => by
    have ih := inc_snoc l (b + 1) a
    show (low ≤ b ∧ inc (b + 1) (l ++ [a])) ↔ ((low ≤ b ∧ inc (b + 1) l) ∧ low ≤ a ∧ ∀ v ∈ b :: l, v < a)
    rw [ih]
    constructor
    · rintro ⟨h1, h2, h3, h4⟩
      refine ⟨⟨h1, h2⟩, by omega, fun v hv => ?_⟩
      rcases List.mem_cons.mp hv with q | q
      · rw [q]; omega
      · exact h4 v q
    · rintro ⟨⟨h1, h2⟩, h3, h4⟩
      exact ⟨h1, h2, h4 b List.mem_cons_self, fun v hv => h4 v (List.mem_cons_of_mem _ hv)⟩
theorem inc_last : ∀ (l : List Nat) (low m : Nat), inc low l → m ∈ l → (∀ v ∈ l, v ≤ m) → ∃ l', l = l' ++ [m]
  | [], _, _, _, h, _ => absurd h List.not_mem_nil
  | b :: l, low, m, hi, hm, hl => by
    rcases List.mem_cons.mp hm with q | q
    · cases l with
      | nil => exact ⟨[], by rw [q]; rfl⟩
      | cons x l =>
        have h1 := hi.2.1
        have h2 := hl x (List.mem_cons_of_mem _ List.mem_cons_self)
        omega
    · obtain ⟨l', e⟩ := inc_last l (b + 1) m hi.2 q (fun v hv => hl v (List.mem_cons_of_mem _ hv))
      exact ⟨b :: l', by rw [e]; rfl⟩
theorem smD_snoc : ∀ (l : List Nat) (a : Nat), smD (l ++ [a]) = smD l + a
  | [], a => by simp [smD]
  | b :: l, a => by
    show b + smD (l ++ [a]) = b + smD l + a
    rw [smD_snoc l a]
    omega
/-- the class's table, by lists -/
theorem SS_list (Z : Nat) : ∀ h c t, (SS h Z c).testBit t = true ↔ ∃ l : List Nat, inc 1 l ∧ (∀ v ∈ l, v ≤ h ∧ Z.testBit v = true) ∧ l.length = c ∧ smD l = t
  | 0, c, t => by
    unfold SS
    constructor
    · intro q
      by_cases c0 : c = 0
      · rw [if_pos c0, show (1 : Nat) = 2 ^ 0 from rfl, Nat.testBit_two_pow] at q
        exact ⟨[], trivial, fun v hv => absurd hv List.not_mem_nil, c0.symm, of_decide_eq_true q⟩
      · rw [if_neg c0] at q
        simp at q
    · rintro ⟨l, h1, h2, h3, h4⟩
      cases l with
      | nil =>
        have c0 : c = 0 := h3.symm
        have t0 : t = 0 := h4.symm
        rw [if_pos c0, t0]
        decide
      | cons a l =>
        have q := (h2 a List.mem_cons_self).1
        have := h1.1
        omega
  | h + 1, c, t => by
    have ih := SS_list Z h
    rw [SS_succ]
    have keep : (SS h Z c).testBit t = true → ∃ l : List Nat, inc 1 l ∧ (∀ v ∈ l, v ≤ h + 1 ∧ Z.testBit v = true) ∧ l.length = c ∧ smD l = t := fun q => by
      obtain ⟨l, h1, h2, h3, h4⟩ := (ih c t).mp q
      exact ⟨l, h1, fun v hv => ⟨Nat.le_succ_of_le (h2 v hv).1, (h2 v hv).2⟩, h3, h4⟩
    constructor
    · intro q
      by_cases b : Z.testBit (h + 1) = true
      · rw [if_pos b, Nat.testBit_or, Bool.or_eq_true] at q
        rcases q with q | q
        · exact keep q
        · by_cases c0 : c = 0
          · rw [if_pos c0] at q
            simp at q
          · rw [if_neg c0, Nat.testBit_shiftLeft, Bool.and_eq_true, decide_eq_true_iff] at q
            obtain ⟨l, h1, h2, h3, h4⟩ := (ih (c - 1) (t - (h + 1))).mp q.2
            refine ⟨l ++ [h + 1], (inc_snoc _ _ _).mpr ⟨h1, by omega, fun v hv => Nat.lt_succ_of_le (h2 v hv).1⟩, fun v hv => ?_, ?_, ?_⟩
            · rcases List.mem_append.mp hv with r | r
              · exact ⟨Nat.le_succ_of_le (h2 v r).1, (h2 v r).2⟩
              · rw [List.mem_singleton.mp r]; exact ⟨Nat.le_refl _, b⟩
            · rw [List.length_append, h3]
              show c - 1 + 1 = c
              omega
            · rw [smD_snoc, h4]
              have := q.1
              omega
      · rw [if_neg b] at q
        exact keep q
    · rintro ⟨l, h1, h2, h3, h4⟩
      by_cases m : (h + 1) ∈ l
      · have b := (h2 _ m).2
        obtain ⟨l', e⟩ := inc_last l 1 (h + 1) h1 m (fun v hv => (h2 v hv).1)
        subst e
        obtain ⟨g1, g2, g3⟩ := (inc_snoc _ _ _).mp h1
        rw [List.length_append] at h3
        rw [smD_snoc] at h4
        have h3 : l'.length + 1 = c := h3
        rw [if_pos b, Nat.testBit_or, if_neg (by omega), Nat.testBit_shiftLeft, (ih (c - 1) (t - (h + 1))).mpr ⟨l', g1, fun v hv => ⟨Nat.le_of_lt_succ (g3 v hv), (h2 v (List.mem_append_left _ hv)).2⟩, by omega, by omega⟩, decide_eq_true (show t ≥ h + 1 by omega)]
        simp
      · have q : (SS h Z c).testBit t = true := (ih c t).mpr ⟨l, h1, fun v hv => ⟨by
          have := (h2 v hv).1
          have : v ≠ h + 1 := fun e => m (e ▸ hv)
          omega, (h2 v hv).2⟩, h3, h4⟩
        by_cases b : Z.testBit (h + 1) = true
        · rw [if_pos b, Nat.testBit_or, q]
          rfl
        · rw [if_neg b]
          exact q
/-- whether so many numbers from low on, of those not in X, make a sum -/
def mk (X : Nat) : Nat → Nat → Nat → Bool
  | 0, s, _ => decide (s = 0)
  | m + 1, s, low => (List.range 10).any (fun n => decide (low ≤ n) && decide (n ≤ s) && !X.testBit n && mk X m (s - n) (n + 1))
theorem mk_iff (X : Nat) : ∀ m s low, 1 ≤ low → (mk X m s low = true ↔ ∃ l : List Nat, inc low l ∧ (∀ v ∈ l, v ≤ 9 ∧ X.testBit v = false) ∧ l.length = m ∧ smD l = s)
  | 0, s, low, _ => by
    unfold mk
    rw [decide_eq_true_iff]
    constructor
    · rintro rfl
      exact ⟨[], trivial, fun v hv => absurd hv List.not_mem_nil, rfl, rfl⟩
    · rintro ⟨l, _, _, h3, h4⟩
      cases l with
      | nil => exact h4.symm
      | cons a l => simp at h3
  | m + 1, s, low, hlow => by
    unfold mk
    rw [List.any_eq_true]
    constructor
    · rintro ⟨n, hn, h⟩
      rw [Bool.and_eq_true, Bool.and_eq_true, Bool.and_eq_true, decide_eq_true_iff, decide_eq_true_iff, Bool.not_eq_true'] at h
      obtain ⟨⟨⟨h1, h2⟩, h3⟩, h4⟩ := h
      obtain ⟨l, g1, g2, g3, g4⟩ := (mk_iff X m (s - n) (n + 1) (by omega)).mp h4
      have h10 := List.mem_range.mp hn
      refine ⟨n :: l, ⟨h1, g1⟩, fun v hv => ?_, by rw [List.length_cons, g3], by show n + smD l = s; omega⟩
      rcases List.mem_cons.mp hv with q | q
      · rw [q]; exact ⟨by omega, h3⟩
      · exact g2 v q
    · rintro ⟨l, h1, h2, h3, h4⟩
      cases l with
      | nil => simp at h3
      | cons a l =>
        have ha := h2 a List.mem_cons_self
        have h4 : a + smD l = s := h4
        refine ⟨a, List.mem_range.mpr (by omega), ?_⟩
        rw [Bool.and_eq_true, Bool.and_eq_true, Bool.and_eq_true, decide_eq_true_iff, decide_eq_true_iff, Bool.not_eq_true']
        exact ⟨⟨⟨h1.1, by omega⟩, ha.2⟩, (mk_iff X m (s - a) (a + 1) (by omega)).mpr ⟨l, h1.2, fun v hv => h2 v (List.mem_cons_of_mem _ hv), by simpa using h3, by omega⟩⟩
theorem mk_tb {x : Nat} (hx : x < 512) (m s : Nat) : mk (2 * x) m s 1 = tb x m s := by
  apply Bool.eq_iff_iff.mpr
  rw [mk_iff (2 * x) m s 1 (Nat.le_refl _)]
  unfold tb
  rw [SS_list]
  constructor
  · rintro ⟨l, h1, h2, h3, h4⟩
    refine ⟨l, h1, fun v hv => ⟨(h2 v hv).1, ?_⟩, h3, h4⟩
    have g1 := inc_ge l 1 h1 v hv
    have g2 := (h2 v hv).1
    rw [not_tb x hx v (by omega) g1, (h2 v hv).2]
    rfl
  · rintro ⟨l, h1, h2, h3, h4⟩
    refine ⟨l, h1, fun v hv => ⟨(h2 v hv).1, ?_⟩, h3, h4⟩
    have g1 := inc_ge l 1 h1 v hv
    have g2 := (h2 v hv).1
    have g3 := (h2 v hv).2
    rw [not_tb x hx v (by omega) g1] at g3
    cases q : (2 * x).testBit v
    · rfl
    · rw [q] at g3; cases g3
/-! the law's isMade -/
def UB (u : RowI) (X : Nat) : Prop := ∀ v, 1 ≤ v → v ≤ 9 → u v = if X.testBit v = true then 1 else 0
theorem mk_ge {X m s low : Nat} (h : 10 ≤ low ∨ s < low) : mk X (m + 1) s low = false := by
  rw [mk, Bool.eq_false_iff]
  intro q
  obtain ⟨n, hn, hq⟩ := List.any_eq_true.mp q
  rw [Bool.and_eq_true, Bool.and_eq_true, Bool.and_eq_true, decide_eq_true_iff, decide_eq_true_iff] at hq
  have := List.mem_range.mp hn
  obtain ⟨⟨⟨h1, h2⟩, _⟩, _⟩ := hq
  omega
theorem mk_s {X m s low : Nat} (h1 : low < 10) (h2 : low ≤ s) : mk X (m + 1) s low = ((!X.testBit low && mk X m (s - low) (low + 1)) || mk X (m + 1) s (low + 1)) := by
  apply Bool.eq_iff_iff.mpr
  rw [Bool.or_eq_true, Bool.and_eq_true, Bool.not_eq_true']
  rw [mk, mk, List.any_eq_true, List.any_eq_true]
  constructor
  · rintro ⟨n, hn, h⟩
    rw [Bool.and_eq_true, Bool.and_eq_true, Bool.and_eq_true, decide_eq_true_iff, decide_eq_true_iff, Bool.not_eq_true'] at h
    obtain ⟨⟨⟨g1, g2⟩, g3⟩, g4⟩ := h
    by_cases e : n = low
    · subst e; exact Or.inl ⟨g3, g4⟩
    · refine Or.inr ⟨n, hn, ?_⟩
      rw [Bool.and_eq_true, Bool.and_eq_true, Bool.and_eq_true, decide_eq_true_iff, decide_eq_true_iff, Bool.not_eq_true']
      exact ⟨⟨⟨by omega, g2⟩, g3⟩, g4⟩
  · rintro (⟨g3, g4⟩ | ⟨n, hn, h⟩)
    · refine ⟨low, List.mem_range.mpr h1, ?_⟩
      rw [Bool.and_eq_true, Bool.and_eq_true, Bool.and_eq_true, decide_eq_true_iff, decide_eq_true_iff, Bool.not_eq_true']
      exact ⟨⟨⟨Nat.le_refl _, h2⟩, g3⟩, g4⟩
    · refine ⟨n, hn, ?_⟩
      rw [Bool.and_eq_true, Bool.and_eq_true, Bool.and_eq_true, decide_eq_true_iff, decide_eq_true_iff, Bool.not_eq_true'] at h ⊢
      obtain ⟨⟨⟨g1, g2⟩, g3⟩, g4⟩ := h
      exact ⟨⟨⟨by omega, g2⟩, g3⟩, g4⟩
theorem isMade_n {N : Nat} (hN : 600 ≤ N) {u : RowI} {X : Nat} (hU : UB u X) : ∀ d m s low, m < d → m ≤ 100 → 1 ≤ low → low ≤ 10 → s ≤ 45 → mX5_isMade N d u (nI m) (nI s) (nI low) = some (if mk X m s low = true then 1 else 0) := by
  intro d
  induction d with
  | zero => intro m s low h; omega
  | succ d ihd =>
    intro m s low hm hm1 h1 h10 hs
    rw [mX5_isMade]
    dsimp only
    cases m with
    | zero =>
      rw [if_pos nI_0, mk]
      by_cases c : s = 0
      · rw [if_pos (show nI s = 0 by rw [c]; exact nI_0), decide_eq_true c]; rfl
      · rw [if_neg (nI_ne0 (by omega) (by omega)), decide_eq_false c]; rfl
    | succ m =>
      rw [if_neg (nI_ne0 (by omega) (by omega))]
      have key : ∀ k n low, k < n → low + k = 10 → 1 ≤ low → mX5_isMade_17 N (mX5_isMade N d) u (nI (m + 1)) (nI s) n (nI low) = some (if mk X (m + 1) s low = true then 1 else 0) := by
        intro k
        induction k with
        | zero =>
          intro n low hn hk hl
          obtain ⟨n, rfl⟩ : ∃ j, n = j + 1 := ⟨n - 1, by omega⟩
          rw [mX5_isMade_17]
          dsimp only
          rw [if_pos (show (10 : Int32) ≤ nI low by rw [show low = 10 by omega]; decide), mk_ge (Or.inl (by omega))]
          rfl
        | succ k ih =>
          intro n low hn hk hl
          obtain ⟨n, rfl⟩ : ∃ j, n = j + 1 := ⟨n - 1, by omega⟩
          have e10 : ¬ (10 : Int32) ≤ nI low := nI_ge (b := 10) (by omega) (by omega)
          rw [mX5_isMade_17]
          dsimp only
          rw [if_neg e10]
          by_cases c : s < low
          · rw [if_pos (nI_lt c (by omega)), mk_ge (Or.inr c)]
            rfl
          · have i2 := ih n (low + 1) (by omega) (by omega) (by omega)
            rw [if_neg (nI_nlt (by omega) (by omega)), if_neg (bad_n (by omega) (by omega)), nI_clamp (by omega), hU low hl (by omega), mk_s (by omega) (by omega), nI_1]
            cases hb : X.testBit low
            · rw [if_neg (show ¬ (false = true) by decide), if_pos rfl, nI_pred, pk_sub (by omega), ihd m (s - low) (low + 1) (by omega) (by omega) (by omega) (by omega) (by omega), Option.bind_some, bq]
              cases hq : mk X m (s - low) (low + 1)
              · rw [if_neg (by decide), i2]; rfl
              · rw [if_pos rfl]; rfl
            · rw [if_pos rfl, if_neg (by decide), i2]; rfl
      exact key (10 - low) N low (by omega) (by omega) h1
theorem isMade_neg {N : Nat} (hN : 600 ≤ N) {u : RowI} {d m : Nat} {s : Int32} (hs : s < 0) : mX5_isMade N (d + 1) u (nI m) s 1 = some 0 := by
  obtain ⟨N, rfl⟩ : ∃ j, N = j + 1 := ⟨N - 1, by omega⟩
  rw [mX5_isMade]
  dsimp only
  by_cases c : nI m = 0
  · rw [if_pos c, if_neg (fun q => by rw [q] at hs; exact absurd hs (by decide))]
  · rw [if_neg c, mX5_isMade_17]
    dsimp only
    rw [if_neg (by decide), if_pos (by
      rw [Int32.lt_iff_toInt_lt] at hs ⊢
      have h1 : (0 : Int32).toInt = 0 := rfl
      have h2 : (1 : Int32).toInt = 1 := rfl
      omega)]
