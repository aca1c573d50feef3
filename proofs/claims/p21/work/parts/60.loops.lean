/-! ===== the first single cell, the tightest, forcing, the mean, the checksum: class and model ===== -/
def bq1 (f uA uD : RowI) (W H k : Nat) : Nat := bcN 9 (2 * cn f uA uD W H k)
theorem bc_cn (f uA uD : RowI) (W H k : Nat) : bc (nI (2 * cn f uA uD W H k)) = nI (bq1 f uA uD W H k) := bc_x _ (cn_lt f uA uD W H k)
theorem bq1_le (f uA uD : RowI) (W H k : Nat) : bq1 f uA uD W H k ≤ 9 := bc_le _ (cn_lt f uA uD W H k)
theorem cn_no {f uA uD : RowI} {W H k : Nat} (h : f k ≠ 0) : cn f uA uD W H k = 0 := if_neg h
theorem bq1_no {f uA uD : RowI} {W H k : Nat} (h : f k ≠ 0) : bq1 f uA uD W H k = 0 := by unfold bq1; rw [cn_no h]; decide
def sgl (f uA uD : RowI) (W H : Nat) : Nat → Nat → Option Nat
  | 0, _ => none
  | m + 1, k => if bq1 f uA uD W H k = 1 then some k else sgl f uA uD W H m (k + 1)
theorem sgl_in {f uA uD : RowI} {W H : Nat} : ∀ m k j, sgl f uA uD W H m k = some j → k ≤ j ∧ j < k + m ∧ bq1 f uA uD W H j = 1
  | 0, _, _, h => by cases h
  | m + 1, k, j, h => by
    rw [sgl] at h
    split at h
    · cases h; exact ⟨Nat.le_refl _, by omega, by assumption⟩
    · have := sgl_in m (k + 1) j h
      exact ⟨by omega, by omega, this.2.2⟩
def sgi (o : Option Nat) : Int32 := o.elim (-1) nI
section LP
variable {W H : Nat} {f : RowI} {N : Nat} {cA cD : CS} {su : RowJ} {mu mb me mf uA uD : RowI}
theorem first_c (hN : 600 ≤ N) (hS : ST W H f cA cD su) : mX1_firstSingle N f (nI W) (nI H) cA cD su = some (sgi (sgl f cA.1 cD.1 W H (W * H) 0)) := by
  have g36 := dim36 hS.1
  have key : ∀ m n k, m < n → k + m = W * H → mX1_firstSingle_2 N f (nI W) (nI H) cA cD su n (nI k) = some (sgi (sgl f cA.1 cD.1 W H m k)) := by
    intro m
    induction m with
    | zero =>
      intro n k hn hk
      obtain ⟨n, rfl⟩ : ∃ j, n = j + 1 := ⟨n - 1, by omega⟩
      rw [s_mX1_firstSingle_2, mX1_cells, pk_mul, Option.bind_some, if_pos (nI_le (by omega) (by omega))]
      rfl
    | succ m ih =>
      intro n k hn hk
      obtain ⟨n, rfl⟩ : ∃ j, n = j + 1 := ⟨n - 1, by omega⟩
      have hb := bq1_le f cA.1 cD.1 W H k
      rw [s_mX1_firstSingle_2, mX1_cells, pk_mul, Option.bind_some, if_neg (nI_ge (by omega) (by omega)), can_c hN hS (by omega), Option.bind_some, bc_cn, nI_1, sgl]
      by_cases c : bq1 f cA.1 cD.1 W H k = 1
      · rw [if_pos (show nI (bq1 f cA.1 cD.1 W H k) = (1 : Int32) by rw [c]; rfl), if_pos c]
        rfl
      · rw [if_neg (show ¬ nI (bq1 f cA.1 cD.1 W H k) = (1 : Int32) from fun q => c ((nI_eq (b := 1) (by omega) (by omega)).mp q)), if_neg c]
        exact ih n (k + 1) (by omega) (by omega)
  exact key (W * H) N 0 (by omega) (by omega)
/-! the tightest -/
def tg (f uA uD : RowI) (W H : Nat) : Nat → Nat → Int32 → Nat → Int32
  | 0, _, b, _ => b
  | m + 1, k, b, w => if f k = 0 ∧ bq1 f uA uD W H k < w then tg f uA uD W H m (k + 1) (nI k) (bq1 f uA uD W H k) else tg f uA uD W H m (k + 1) b w
theorem next_c (hN : 600 ≤ N) (hS : ST W H f cA cD su) : mX1_tightest N f (nI W) (nI H) cA cD su = some (tg f cA.1 cD.1 W H (W * H) 0 (-1) 10) := by
  have g36 := dim36 hS.1
  have key : ∀ m n k b w, m < n → k + m = W * H → w ≤ 10 → mX1_tightest_7 N f (nI W) (nI H) cA cD su n b (nI w) (nI k) = some (tg f cA.1 cD.1 W H m k b w) := by
    intro m
    induction m with
    | zero =>
      intro n k b w hn hk hw
      obtain ⟨n, rfl⟩ : ∃ j, n = j + 1 := ⟨n - 1, by omega⟩
      rw [s_mX1_tightest_7, mX1_cells, pk_mul, Option.bind_some, if_pos (nI_le (by omega) (by omega))]
      rfl
    | succ m ih =>
      intro n k b w hn hk hw
      obtain ⟨n, rfl⟩ : ∃ j, n = j + 1 := ⟨n - 1, by omega⟩
      have hb := bq1_le f cA.1 cD.1 W H k
      rw [s_mX1_tightest_7, mX1_cells, pk_mul, Option.bind_some, if_neg (nI_ge (by omega) (by omega)), can_c hN hS (by omega), Option.bind_some, mX1_isHole, rd_n (by omega), bc_cn, nI_1, tg]
      by_cases c : f k = 0
      · rw [if_pos c, Option.bind_some, if_neg (show ¬ (1 : Int32) = 0 by decide)]
        by_cases e : bq1 f cA.1 cD.1 W H k < w
        · rw [if_neg (nI_ge e (by omega)), if_pos ⟨c, e⟩]
          exact ih n (k + 1) _ _ (by omega) (by omega) (by omega)
        · rw [if_pos (nI_le (show w ≤ bq1 f cA.1 cD.1 W H k by omega) (by omega)), if_neg (fun q => e q.2)]
          exact ih n (k + 1) _ _ (by omega) (by omega) hw
      · rw [if_neg c, Option.bind_some, if_pos rfl, if_neg (fun q => c q.1)]
        exact ih n (k + 1) _ _ (by omega) (by omega) hw
  exact key (W * H) N 0 (-1) 10 (by omega) (by omega) (by omega)
/-! the mean -/
def sbq (f uA uD : RowI) (W H : Nat) : Nat → Nat
  | 0 => 0
  | k + 1 => sbq f uA uD W H k + bq1 f uA uD W H k
def hol (f : RowI) (k : Nat) : Bool := decide (f k = 0)
def mnv (f uA uD : RowI) (W H : Nat) : UInt64 := if nI (fb_ct (hol f) (W * H)) = 0 then FP.dconst0 else FP.ddiv (FP.i2d (nI (sbq f uA uD W H (W * H)))) (FP.i2d (nI (fb_ct (hol f) (W * H))))
theorem mean_c (hN : 600 ≤ N) (hS : ST W H f cA cD su) : mX4_mean N f (nI W) (nI H) cA cD su = some (mnv f cA.1 cD.1 W H) := by
  have g36 := dim36 hS.1
  have key : ∀ m n k, m < n → k + m = W * H → mX1_meanOfNumbers_6 N f (nI W) (nI H) cA cD su n (nI (fb_ct (hol f) k)) (nI (sbq f cA.1 cD.1 W H k)) (nI k) = some (mnv f cA.1 cD.1 W H) := by
    intro m
    induction m with
    | zero =>
      intro n k hn hk
      obtain ⟨n, rfl⟩ : ∃ j, n = j + 1 := ⟨n - 1, by omega⟩
      obtain rfl : k = W * H := by omega
      rw [s_mX1_meanOfNumbers_6, mX1_cells, pk_mul, Option.bind_some, if_pos (nI_le (Nat.le_refl _) (by omega))]
      unfold mnv
      split <;> rfl
    | succ m ih =>
      intro n k hn hk
      obtain ⟨n, rfl⟩ : ∃ j, n = j + 1 := ⟨n - 1, by omega⟩
      have h := ih n (k + 1) (by omega) (by omega)
      rw [sbq] at h
      rw [s_mX1_meanOfNumbers_6, mX1_cells, pk_mul, Option.bind_some, if_neg (nI_ge (by omega) (by omega)), mX1_isHole, rd_n (by omega), nI_1]
      by_cases c : f k = 0
      · rw [ct_t (show hol f k = true from decide_eq_true c)] at h
        rw [if_pos c, Option.bind_some, if_neg (show ¬ (1 : Int32) = 0 by decide), can_c hN hS (by omega), Option.bind_some, bc_cn, nI_1, nI_add]
        exact h
      · rw [ct_f (show hol f k = false from decide_eq_false c), bq1_no c] at h
        rw [if_neg c, Option.bind_some, if_pos rfl]
        exact h
  have h := key (W * H) N 0 (by omega) (by omega)
  rw [mX4_mean, mX1_meanOfNumbers, show mX1_meanOfNumbers_6 N f (nI W) (nI H) cA cD su N 0 0 0 = _ from h]
  rfl
end LP
/-! forcing -/
def zrs (f : RowI) : Nat := fb_ct (hol f) 36
theorem zrs_le (f : RowI) : zrs f ≤ 36 := fb_ct_le _ _
theorem zrs_upd {f : RowI} {k : Nat} (hk : k < 36) (h0 : f k = 0) {x : Int32} (hx : x ≠ 0) : zrs (upd f k x) + 1 = zrs f := by
  have h := fb_ct_upd (hol f) false hk
  have e : fb_ct (fun j => if j = k then false else hol f j) 36 = zrs (upd f k x) := fb_ct_cong (fun j _ => by
    show (if j = k then false else hol f j) = decide (upd f k x j = 0)
    by_cases c : j = k
    · subst c; rw [if_pos rfl, upd_s, decide_eq_false hx]
    · rw [if_neg c, upd_n c]; rfl)
  rw [e, show hol f k = true from decide_eq_true h0] at h
  simp at h
  unfold zrs
  unfold zrs at h
  omega
def frc (uA uD : RowI) (W H : Nat) : Nat → Nat → RowI → Nat × RowI
  | 0, c, f => (c, f)
  | n + 1, c, f => match sgl f uA uD W H (W * H) 0 with
    | none => (c, f)
    | some k => frc uA uD W H n (c + 1) (upd f k (nI (loN (2 * cn f uA uD W H k))))
theorem sgl_lay {f uA uD : RowI} {W H k : Nat} (h : sgl f uA uD W H (W * H) 0 = some k) : k < W * H ∧ f k = 0 ∧ cn f uA uD W H k < 512 ∧ 1 ≤ cn f uA uD W H k ∧ 1 ≤ loN (2 * cn f uA uD W H k) ∧ loN (2 * cn f uA uD W H k) ≤ 9 := by
  obtain ⟨_, h1, h2⟩ := sgl_in _ _ _ h
  have hl := cn_lt f uA uD W H k
  have h0 : f k = 0 := Classical.byContradiction fun q => by rw [bq1_no q] at h2; omega
  have hc : 1 ≤ cn f uA uD W H k := by
    rcases Nat.eq_zero_or_pos (cn f uA uD W H k) with q | q
    · unfold bq1 at h2
      rw [q] at h2
      exact absurd h2 (by decide)
    · exact q
  have := lo_in _ hl hc
  exact ⟨by omega, h0, hl, hc, this⟩
section FC
variable {W H N : Nat} {cA cD : CS} {su : RowJ} {mu mb me mf uA uD : RowI}
theorem force_9 (hN : 600 ≤ N) : ∀ m n c f (fr : Int32), m < n → c + m = 36 → ST W H f cA cD su → mX4_force_9 N (nI W) (nI H) cA cD su n (nI c) fr f = some (nI (frc cA.1 cD.1 W H m c f).1, fr, (frc cA.1 cD.1 W H m c f).2) := by
  intro m
  induction m with
  | zero =>
    intro n c f fr hn hc hS
    obtain ⟨n, rfl⟩ : ∃ j, n = j + 1 := ⟨n - 1, by omega⟩
    obtain rfl : c = 36 := by omega
    rw [s_mX4_force_9, if_pos (show (36 : Int32) ≤ nI 36 by decide)]
    rfl
  | succ m ih =>
    intro n c f fr hn hc hS
    obtain ⟨n, rfl⟩ : ∃ j, n = j + 1 := ⟨n - 1, by omega⟩
    have g36 := dim36 hS.1
    rw [s_mX4_force_9, if_neg (show ¬ (36 : Int32) ≤ nI c from nI_ge (b := 36) (by omega) (by omega)), first_c hN hS, Option.bind_some, frc]
    cases hs : sgl f cA.1 cD.1 W H (W * H) 0 with
    | none => rfl
    | some k =>
      obtain ⟨h1, h2, h3, h4, h5, h6⟩ := sgl_lay hs
      show (if nI k = (-1 : Int32) then _ else _) = _
      rw [if_neg (nI_m1 k (by omega)), show sgi (some k) = nI k from rfl, can_c hN hS h1, Option.bind_some, lo_x (by omega) _ h3 h4, Option.bind_some, mX1_lay, wr_n (by omega), Option.bind_some, nI_1]
      exact ih n (c + 1) _ fr (by omega) (by omega) (hS.upd (by rw [h2]; decide) h6)
end FC
