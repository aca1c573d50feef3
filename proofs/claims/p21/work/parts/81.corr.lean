/-! ===== the law's corridor ===== -/
def RZ (W H : Nat) (f : RowI) (g : RowR) : Prop := ∀ y x, y < H → x < W → g y x = f (y * W + x)
theorem with_n {N n : Nat} (hN : 600 ≤ N) (hn : n < 7) (f : RowI) (x : Int32) : ∃ g, mX5_with N n f x = some (n + 1, g) ∧ (∀ j, j < n → g j = f j) ∧ g n = x := by
  have key : ∀ k m j (a : RowI), k < m → j + k = n → (∀ i, i < j → a i = f i) → ∃ g, mX5_with_9 N n f x m a (n + 1) (nI j) = some (n + 1, g) ∧ (∀ j, j < n → g j = f j) ∧ g n = x := by
    intro k
    induction k with
    | zero =>
      intro m j a hm hj ha
      obtain ⟨m, rfl⟩ : ∃ i, m = i + 1 := ⟨m - 1, by omega⟩
      rw [mX5_with_9]
      dsimp only
      rw [if_pos (nI_le (by omega) (by omega)), if_neg (bad_n (by omega) (by omega)), nI_clamp (by omega)]
      exact ⟨_, rfl, fun i hi => by rw [upd_n (by omega)]; exact ha i (by omega), upd_s⟩
    | succ k ih =>
      intro m j a hm hj ha
      obtain ⟨m, rfl⟩ : ∃ i, m = i + 1 := ⟨m - 1, by omega⟩
      rw [mX5_with_9]
      dsimp only
      rw [if_neg (nI_ge (by omega) (by omega)), if_neg (bad_n (by omega) (by omega)), if_neg (bad_n (by omega) (by omega)), nI_clamp (by omega), nI_1]
      refine ih m (j + 1) _ (by omega) (by omega) (fun i hi => ?_)
      by_cases e : i = j
      · subst e; rw [upd_s]
      · rw [upd_n e]; exact ha i (by omega)
  rw [mX5_with, if_neg (by omega)]
  exact key n N 0 _ (by omega) (by omega) (fun i hi => absurd hi (Nat.not_lt_zero i))
/-- the cell at a place of a line -/
def cc (d : Bool) (W x y j : Nat) : Nat := if d then j * W + x else y * W + j
def rl (f : RowI) (d : Bool) (W x y : Nat) : Nat → Nat
  | 0 => 0
  | j + 1 => if f (cc d W x y j) = -1 then 0 else rl f d W x y j + 1
theorem rl_succ (f : RowI) (d : Bool) (W x y j : Nat) : rl f d W x y (j + 1) = if f (cc d W x y j) = -1 then 0 else rl f d W x y j + 1 := rfl
theorem rl_le (f : RowI) (d : Bool) (W x y : Nat) : ∀ j, rl f d W x y j ≤ j
  | 0 => Nat.le_refl _
  | j + 1 => by
    have := rl_le f d W x y j
    rw [rl_succ]
    split <;> omega
def mx (d : Bool) (W H : Nat) : Nat := if d then H else W
theorem cc_s (d : Bool) (W x y j : Nat) : cc d W x y (j + 1) = cc d W x y j + stp d W := by
  unfold cc stp
  cases d
  · simp; omega
  · simp [Nat.succ_mul]; omega
theorem cc_at (d : Bool) (W x y i : Nat) : ∀ j, cc d W x y (i + j) = cc d W x y i + j * stp d W
  | 0 => by rw [Nat.zero_mul]; rfl
  | j + 1 => by rw [show i + (j + 1) = (i + j) + 1 by omega, cc_s, cc_at d W x y i j, Nat.succ_mul]; omega
section KC
variable {W H N : Nat} {f : RowI} {gS : RowR}
theorem cell_xy {x y : Nat} (hx : x < W) (hy : y < H) : y * W + x < W * H := by
  have : (y + 1) * W ≤ H * W := Nat.mul_le_mul_right W hy
  rw [Nat.succ_mul, Nat.mul_comm H W] at this
  omega
theorem cc_lt {d : Bool} {x y j : Nat} (hx : x < W) (hy : y < H) (hj : j < mx d W H) : cc d W x y j < W * H := by
  cases d
  · exact cell_xy (show j < W from hj) hy
  · exact cell_xy hx (show j < H from hj)
theorem cc_bf (hD : Dim W H) {d : Bool} {x y j : Nat} (hx : x < W) (hy : y < H) (hj : j < mx d W H) : bwd d W (cc d W x y j) = j ∧ fwd d W H (cc d W x y j) = mx d W H - j := by
  have w6 := hD.2.1
  have h6 := hD.2.2.2
  cases d
  · obtain ⟨q1, q2⟩ := rc_d W (by omega) y (by omega) j hj
    exact ⟨q1, by show W - (y * W + j) % W = W - j; rw [q1]⟩
  · have hj : j < H := hj
    obtain ⟨q1, q2⟩ := rc_d W (by omega) j (by omega) x hx
    exact ⟨q2, by show H - (j * W + x) / W = H - j; rw [q2]⟩
theorem rl_idx {d : Bool} {x y : Nat} : ∀ j, idx f (stp d W) j (cc d W x y j) = rl f d W x y j
  | 0 => rfl
  | j + 1 => by
    rw [idx_succ, cc_s, Nat.add_sub_cancel, rl_idx j, rl_succ]
/-- one turn -/
theorem corr_t (hD : Dim W H) (hZ : RZ W H f gS) (hR : SR f) {d : Bool} {x y j n L : Nat} {g : RowI} (hx : x < W) (hy : y < H) (hj : j < mx d W H) :
    mX5_corridor_8 N (nI W) (nI H) W H gS (nI x) (nI y) (nI (dn d)) (n + 1) g L (nI j) = if f (cc d W x y j) = -1 then (if j ≤ (if d then y else x) then mX5_corridor_8 N (nI W) (nI H) W H gS (nI x) (nI y) (nI (dn d)) n (fun _ => 0) 0 (nI (j + 1)) else some (L, g)) else ((mX5_with N L g (nI (cc d W x y j))).bind fun o => mX5_corridor_8 N (nI W) (nI H) W H gS (nI x) (nI y) (nI (dn d)) n o.2 o.1 (nI (j + 1))) := by
  have w6 := hD.2.1
  have h6 := hD.2.2.2
  have hc := cc_lt hx hy hj
  have g36 := dim36 hD
  have hv : f (cc d W x y j) < 0 ↔ f (cc d W x y j) = -1 := by
    rcases hR (cc d W x y j) (by omega) with q | ⟨v, hv, q⟩
    · rw [q]; decide
    · rw [q]; exact ⟨fun r => absurd r (nI_pos (by omega)), fun r => absurd r (nI_m1 v (by omega))⟩
  rw [mX5_corridor_8]
  cases d
  · have hj : j < W := hj
    have hz : gS y j = f (cc false W x y j) := hZ y j hy hj
    dsimp only
    rw [if_pos (show nI (dn false) = 0 from rfl), mX5_corridor_25, if_neg (nI_ge hj (by omega)), if_pos (show nI (dn false) = 0 from rfl), if_neg (bad_n hy (by omega)), if_neg (bad_n hj (by omega)), nI_clamp (by omega), nI_clamp (by omega), hz, mX5_corridor_53, if_pos (show nI (dn false) = 0 from rfl), mX5_corridor_80, if_pos (show nI (dn false) = 0 from rfl), mX5_corridor_121, nI_1, pk_mul, nI_add, Nat.mul_comm W y]
    by_cases c : f (cc false W x y j) = -1
    · rw [if_pos (hv.mpr c), if_pos c]
      by_cases e : j ≤ x
      · rw [if_pos (nI_le e (by omega)), if_pos (show j ≤ (if false = true then y else x) from e)]
      · rw [if_neg (nI_ge (by omega) (by omega)), if_neg (show ¬ j ≤ (if false = true then y else x) from e)]
    · rw [if_neg (fun q => c (hv.mp q)), if_neg c]
      rfl
  · have hj : j < H := hj
    have hz : gS j x = f (cc true W x y j) := hZ j x hj hx
    dsimp only
    rw [if_neg (show ¬ nI (dn true) = 0 by decide), mX5_corridor_25, if_neg (nI_ge hj (by omega)), if_neg (show ¬ nI (dn true) = 0 by decide), if_neg (bad_n hj (by omega)), if_neg (bad_n hx (by omega)), nI_clamp (by omega), nI_clamp (by omega), hz, mX5_corridor_53, if_neg (show ¬ nI (dn true) = 0 by decide), mX5_corridor_80, if_neg (show ¬ nI (dn true) = 0 by decide), mX5_corridor_121, nI_1, pk_mul, nI_add, Nat.mul_comm W j]
    by_cases c : f (cc true W x y j) = -1
    · rw [if_pos (hv.mpr c), if_pos c]
      by_cases e : j ≤ y
      · rw [if_pos (nI_le e (by omega)), if_pos (show j ≤ (if true = true then y else x) from e)]
      · rw [if_neg (nI_ge (by omega) (by omega)), if_neg (show ¬ j ≤ (if true = true then y else x) from e)]
    · rw [if_neg (fun q => c (hv.mp q)), if_neg c]
      rfl
theorem corr_e (hD : Dim W H) {d : Bool} {x y n L : Nat} {g : RowI} : mX5_corridor_8 N (nI W) (nI H) W H gS (nI x) (nI y) (nI (dn d)) (n + 1) g L (nI (mx d W H)) = some (L, g) := by
  have w6 := hD.2.1
  have h6 := hD.2.2.2
  rw [mX5_corridor_8]
  dsimp only
  cases d
  · rw [if_pos (show nI (dn false) = 0 from rfl), mX5_corridor_25, if_pos (show nI W ≤ nI (mx false W H) from nI_le (Nat.le_refl _) (by show W < 2 ^ 31; omega))]
  · rw [if_neg (show ¬ nI (dn true) = 0 by decide), mX5_corridor_25, if_pos (show nI H ≤ nI (mx true W H) from nI_le (Nat.le_refl _) (by show H < 2 ^ 31; omega))]
theorem corr_n (hN : 600 ≤ N) (hD : Dim W H) (hZ : RZ W H f gS) (hR : SR f) (d : Bool) {x y : Nat} (hx : x < W) (hy : y < H) (ho : f (y * W + x) ≠ -1) :
    ∃ g, mX5_corridor N (nI W) (nI H) W H gS (nI x) (nI y) (nI (dn d)) = some ((ln f d W H (bg f d W (y * W + x))).length, g) ∧ ∀ j, j < (ln f d W H (bg f d W (y * W + x))).length → g j = nI (bg f d W (y * W + x) + j * stp d W) := by
  have w6 := hD.2.1
  have h6 := hD.2.2.2
  have hk := cell_xy hx hy
  obtain ⟨p, hp⟩ : ∃ p, p = (if d then y else x) := ⟨_, rfl⟩
  have hcp : cc d W x y p = y * W + x := by rw [hp]; cases d <;> rfl
  have hpm : p < mx d W H := by rw [hp]; cases d; exact hx; exact hy
  have hm6 : mx d W H ≤ 6 := by cases d; exact w6; exact h6
  obtain ⟨b1, b2⟩ := cc_bf hD (d := d) hx hy hpm
  rw [hcp] at b1 b2
  have hrp := rl_le f d W x y p
  have hop : f (cc d W x y p) ≠ -1 := by rw [hcp]; exact ho
  -- the corridor's first cell
  have hbg : bg f d W (y * W + x) = cc d W x y (p - rl f d W x y p) := by
    have h1 := cc_at d W x y (p - rl f d W x y p) (rl f d W x y p)
    rw [Nat.sub_add_cancel hrp, hcp] at h1
    unfold bg
    rw [b1, ← hcp, rl_idx, hcp, Nat.mul_comm (stp d W)]
    omega
  -- its length
  have hlen : (ln f d W H (bg f d W (y * W + x))).length = rl f d W x y p + (line f (stp d W) (mx d W H - p) (cc d W x y p)).length := by
    have pl : ∀ (s i k : Nat), (pre f s i k).length = i := by
      intro s i
      induction i with
      | zero => intro k; rfl
      | succ i ih => intro k; rw [pre, List.length_append, ih]; rfl
    rw [ln_pre (g := f) hD _ hk (fun _ _ => rfl), List.length_append, pl, b1, b2, ← hcp, rl_idx]
  -- behind the cell
  have ph2 : ∀ m n j L (g : RowI), m < n → j + m = mx d W H → p < j → L + (p - rl f d W x y p) = j → (∀ i, i < L → g i = nI (cc d W x y (p - rl f d W x y p + i))) →
      ∃ g', mX5_corridor_8 N (nI W) (nI H) W H gS (nI x) (nI y) (nI (dn d)) n g L (nI j) = some (L + (line f (stp d W) m (cc d W x y j)).length, g') ∧ ∀ i, i < L + (line f (stp d W) m (cc d W x y j)).length → g' i = nI (cc d W x y (p - rl f d W x y p + i)) := by
    intro m
    induction m with
    | zero =>
      intro n j L g hn hj hpj hL hg
      obtain ⟨n, rfl⟩ : ∃ i, n = i + 1 := ⟨n - 1, by omega⟩
      obtain rfl : j = mx d W H := by omega
      rw [corr_e hD]
      exact ⟨g, rfl, hg⟩
    | succ m ih =>
      intro n j L g hn hj hpj hL hg
      obtain ⟨n, rfl⟩ : ∃ i, n = i + 1 := ⟨n - 1, by omega⟩
      rw [corr_t hD hZ hR hx hy (by omega), line_succ]
      by_cases c : f (cc d W x y j) = -1
      · rw [if_pos c, if_pos c, ← hp, if_neg (by omega)]
        exact ⟨g, rfl, hg⟩
      · obtain ⟨g1, e1, e2, e3⟩ := with_n (N := N) (n := L) hN (by omega) g (nI (cc d W x y j))
        rw [if_neg c, if_neg c, e1, Option.bind_some]
        obtain ⟨g2, q1, q2⟩ := ih n (j + 1) (L + 1) g1 (by omega) (by omega) (by omega) (by omega) (fun i hi => by
          by_cases e : i = L
          · rw [e, e3]; congr 2; omega
          · rw [e2 i (by omega)]; exact hg i (by omega))
        rw [cc_s] at q1 q2
        refine ⟨g2, ?_, fun i hi => q2 i ?_⟩
        · show mX5_corridor_8 N (nI W) (nI H) W H gS (nI x) (nI y) (nI (dn d)) n g1 (L + 1) (nI (j + 1)) = _
          rw [q1, List.length_cons]
          congr 2
          omega
        · rw [List.length_cons] at hi
          omega
  -- to the cell
  have ph1 : ∀ m n j (g : RowI), m + (mx d W H - p) ≤ n → j + m = p + 1 → j ≤ p → (∀ i, i < rl f d W x y j → g i = nI (cc d W x y (j - rl f d W x y j + i))) →
      ∃ g', mX5_corridor_8 N (nI W) (nI H) W H gS (nI x) (nI y) (nI (dn d)) n g (rl f d W x y j) (nI j) = some ((ln f d W H (bg f d W (y * W + x))).length, g') ∧ ∀ i, i < (ln f d W H (bg f d W (y * W + x))).length → g' i = nI (bg f d W (y * W + x) + i * stp d W) := by
    intro m
    induction m with
    | zero => intro n j g hn hj hjp; omega
    | succ m ih =>
      intro n j g hn hj hjp hg
      obtain ⟨n, rfl⟩ : ∃ i, n = i + 1 := ⟨n - 1, by omega⟩
      have hrj := rl_le f d W x y j
      rw [corr_t hD hZ hR hx hy (by omega), ← hp]
      by_cases c : f (cc d W x y j) = -1
      · rw [if_pos c, if_pos hjp]
        have hne : j ≠ p := fun e => hop (e ▸ c)
        have h1 := ih n (j + 1) (fun _ => 0) (by omega) (by omega) (by omega) (by rw [rl_succ, if_pos c]; exact fun i hi => absurd hi (Nat.not_lt_zero i))
        rw [rl_succ, if_pos c] at h1
        exact h1
      · obtain ⟨g1, e1, e2, e3⟩ := with_n (N := N) (n := rl f d W x y j) hN (by omega) g (nI (cc d W x y j))
        rw [if_neg c, e1, Option.bind_some]
        have hg1 : ∀ i, i < rl f d W x y j + 1 → g1 i = nI (cc d W x y (j - rl f d W x y j + i)) := fun i hi => by
          by_cases e : i = rl f d W x y j
          · rw [e, e3]; congr 2; omega
          · rw [e2 i (by omega)]; exact hg i (by omega)
        show ∃ g', mX5_corridor_8 N (nI W) (nI H) W H gS (nI x) (nI y) (nI (dn d)) n g1 (rl f d W x y j + 1) (nI (j + 1)) = _ ∧ _
        by_cases e : j = p
        · subst e
          obtain ⟨m2, hm2⟩ : ∃ m2, mx d W H - j = m2 + 1 := ⟨mx d W H - j - 1, by omega⟩
          obtain ⟨g2, q1, q2⟩ := ph2 m2 n (j + 1) (rl f d W x y j + 1) g1 (by omega) (by omega) (by omega) (by omega) hg1
          have hL : (ln f d W H (bg f d W (y * W + x))).length = rl f d W x y j + 1 + (line f (stp d W) m2 (cc d W x y (j + 1))).length := by
            rw [hlen, hm2, line_succ, if_neg c, List.length_cons, cc_s]
            omega
          rw [q1, hL]
          refine ⟨g2, rfl, fun i hi => ?_⟩
          rw [q2 i hi, cc_at, hbg]
        · have h1 := ih n (j + 1) g1 (by omega) (by omega) (by omega) (by
            rw [rl_succ, if_neg c]
            intro i hi
            rw [hg1 i hi]
            congr 2
            omega)
          rw [rl_succ, if_neg c] at h1
          exact h1
  rw [mX5_corridor]
  exact ph1 (p + 1) 7 0 (fun _ => 0) (by omega) (by omega) (by omega) (fun i hi => absurd hi (Nat.not_lt_zero i))
end KC
