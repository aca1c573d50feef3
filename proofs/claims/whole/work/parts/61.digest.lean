/-! ===== the checksum ===== -/
theorem frc_keeps {W H : Nat} {cA cD : CS} {su : RowJ} {mu mb me mf : RowI} : ∀ m c f, ST W H f cA cD su → MS W H f cA.1 cD.1 mu mb me mf → ST W H (frc cA.1 cD.1 W H m c f).2 cA cD su ∧ MS W H (frc cA.1 cD.1 W H m c f).2 cA.1 cD.1 mu mb me mf := by
  intro m
  induction m with
  | zero => intro c f h1 h2; exact ⟨h1, h2⟩
  | succ m ih =>
    intro c f h1 h2
    rw [frc]
    cases hs : sgl f cA.1 cD.1 W H (W * H) 0 with
    | none => exact ⟨h1, h2⟩
    | some k =>
      obtain ⟨q1, q2, q3, q4, q5, q6⟩ := sgl_lay hs
      exact ih (c + 1) _ (h1.upd (by rw [q2]; decide) q6) (h2.upd (by rw [q2]; decide) q6)
def sti (d : Int64) (x : Int32) : Int64 := d * 31 + x.toInt64
def dT (f uA uD : RowI) (W H : Nat) : Nat → Nat → Int64 → Int64
  | 0, _, d => d
  | m + 1, w, d => dT f uA uD W H m (w + 1) (sti d (tal f uA uD W H (nI w)))
def dC (f u : RowI) (d : Bool) (W H k : Nat) : Nat → Nat → Int64 → Int64
  | 0, _, a => a
  | m + 1, w, a => dC f u d W H k m (w + 1) (sti a (tl f u d W H k (nI w)))
def dK (f uA uD : RowI) (W H k : Nat) (a : Int64) : Int64 := dC f uD true W H k 6 0 (dC f uA false W H k 6 0 (sti (sti (sti (sti a (f k)) (uA k)) (uD k)) (nI (2 * cn f uA uD W H k))))
def dL (f uA uD : RowI) (W H : Nat) : Nat → Nat → Int64 → Int64
  | 0, _, a => a
  | m + 1, k, a => dL f uA uD W H m (k + 1) (dK f uA uD W H k a)
def tld (a : SA) : Int32 := if 4000 < a.1 then -1 else nI a.2.1
def dig (f uA uD : RowI) (W H : Nat) : Int64 := sti (sti (dL f uA uD W H (W * H) 0 (dT f uA uD W H 9 0 1663)) (tld (res f uA uD W H))) (nI (res f uA uD W H).1)
theorem told_c {N : Nat} {a : SA} (h : SI a) : mX3_told N (nI a.1) (nI a.2.1) = some (tld a) := by
  have := h.1
  rw [mX3_told, unknown_n (by omega), Option.bind_some]
  unfold tld
  by_cases c : 4000 < a.1
  · rw [if_pos c, if_pos c]; rfl
  · rw [if_neg c, if_neg c]; rfl
theorem told_m {N : Nat} {a : SA} : mX5_told N (nI a.2.1) (lg a) = some (tld a) := by
  rw [mX5_told]
  unfold tld lg
  by_cases c : 4000 < a.1
  · rw [if_pos c, if_pos c]; rfl
  · rw [if_neg c, if_neg c]; rfl
section DC
variable {W H : Nat} {f : RowI} {N : Nat} {cA cD : CS} {su : RowJ}
theorem stirCorridor_n {d : Bool} {cs : CS} (hD : Dim W H) (hN : 600 ≤ N) (hR : SR f) (hJ : JI d W H f (W * H) cs) (hU : UR cs.1) (hT : TBto 512 su) {k : Nat} (hk : k < W * H) (a : Int64) : mX4_stirCorridor N f cs su a (nI k) = some (dC f cs.1 d W H k 6 0 a) := by
  have key : ∀ m n w a, m < n → w + m = 6 → mX4_stirCorridor_6 N f cs su (nI k) n a (nI w) = some (dC f cs.1 d W H k m w a) := by
    intro m
    induction m with
    | zero =>
      intro n w a hn hw
      obtain ⟨n, rfl⟩ : ∃ j, n = j + 1 := ⟨n - 1, by omega⟩
      obtain rfl : w = 6 := by omega
      rw [s_mX4_stirCorridor_6, if_pos (show (6 : Int32) ≤ nI 6 by decide)]
      rfl
    | succ m ih =>
      intro n w a hn hw
      obtain ⟨n, rfl⟩ : ∃ j, n = j + 1 := ⟨n - 1, by omega⟩
      rw [s_mX4_stirCorridor_6, if_neg (show ¬ (6 : Int32) ≤ nI w from nI_ge (b := 6) (by omega) (by omega)), tell_n hD hN hR hJ hU hT hk, Option.bind_some, mX4_stir, Option.bind_some, nI_1]
      exact ih n (w + 1) _ (by omega) (by omega)
  exact key 6 N 0 a (by omega) (by omega)
theorem stirCell_n (hN : 600 ≤ N) (hS : ST W H f cA cD su) {k : Nat} (hk : k < W * H) (a : Int64) : mX4_stirCell N f cA cD su a (nI k) = some (dK f cA.1 cD.1 W H k a) := by
  have hS0 := hS
  obtain ⟨hD, hR, hA, hB, uA, uD, hT⟩ := hS
  have g36 := dim36 hD
  rw [mX4_stirCell, mX1_stoneAt, mX0_toldAt, mX0_toldAt, rd_n (by omega), rd_n (by omega), rd_n (by omega), can_c hN hS0 hk]
  simp only [Option.bind_some, mX4_stir]
  rw [stirCorridor_n hD hN hR hA uA hT hk, Option.bind_some, stirCorridor_n hD hN hR hB uD hT hk, Option.bind_some]
  rfl
theorem digest_33 (hN : 600 ≤ N) (hS : ST W H f cA cD su) {ho ke : RowI} {hc tr fo fr : Int32} {o : RowI × RowI × Int32 × Int32 × Int32 × Int32 × RowI} (hre : mX3_refresh N ho ke hc tr fo fr f (nI W) (nI H) cA cD su = some o) (h1 : o.2.2.2.1 = nI (res f cA.1 cD.1 W H).1) (h2 : o.2.2.2.2.1 = nI (res f cA.1 cD.1 W H).2.1) (hI : SI (res f cA.1 cD.1 W H)) :
    ∀ m n k a, m < n → k + m = W * H → mX4_digest_33 N ho ke hc tr fo fr f (nI W) (nI H) cA cD su n a (nI k) = some (sti (sti (dL f cA.1 cD.1 W H m k a) (tld (res f cA.1 cD.1 W H))) (nI (res f cA.1 cD.1 W H).1), o) := by
  have g36 := dim36 hS.1
  intro m
  induction m with
  | zero =>
    intro n k a hn hk
    obtain ⟨n, rfl⟩ : ∃ j, n = j + 1 := ⟨n - 1, by omega⟩
    rw [s_mX4_digest_33, mX1_cells, pk_mul, Option.bind_some, if_pos (nI_le (by omega) (by omega)), hre, Option.bind_some, show mX3_told N o.2.2.2.1 o.2.2.2.2.1 = some (tld (res f cA.1 cD.1 W H)) by rw [h1, h2]; exact told_c hI, ← h1]
    rfl
  | succ m ih =>
    intro n k a hn hk
    obtain ⟨n, rfl⟩ : ∃ j, n = j + 1 := ⟨n - 1, by omega⟩
    rw [s_mX4_digest_33, mX1_cells, pk_mul, Option.bind_some, if_neg (nI_ge (by omega) (by omega)), stirCell_n hN hS (by omega), Option.bind_some, nI_1]
    exact ih n (k + 1) _ (by omega) (by omega)
theorem digest_c (hN : 600 ≤ N) (hS : ST W H f cA cD su) {ho ke : RowI} {hc tr fo fr : Int32} {o : RowI × RowI × Int32 × Int32 × Int32 × Int32 × RowI} (hre : mX3_refresh N ho ke hc tr fo fr f (nI W) (nI H) cA cD su = some o) (h1 : o.2.2.2.1 = nI (res f cA.1 cD.1 W H).1) (h2 : o.2.2.2.2.1 = nI (res f cA.1 cD.1 W H).2.1) (hI : SI (res f cA.1 cD.1 W H)) :
    mX4_digest N ho ke hc tr fo fr f (nI W) (nI H) cA cD su = some (dig f cA.1 cD.1 W H, o) := by
  have g36 := dim36 hS.1
  have key : ∀ m n w a, m < n → w + m = 9 → mX4_digest_6 N ho ke hc tr fo fr f (nI W) (nI H) cA cD su n a (nI w) = some (sti (sti (dL f cA.1 cD.1 W H (W * H) 0 (dT f cA.1 cD.1 W H m w a)) (tld (res f cA.1 cD.1 W H))) (nI (res f cA.1 cD.1 W H).1), o) := by
    intro m
    induction m with
    | zero =>
      intro n w a hn hw
      obtain ⟨n, rfl⟩ : ∃ j, n = j + 1 := ⟨n - 1, by omega⟩
      obtain rfl : w = 9 := by omega
      rw [s_mX4_digest_6, if_pos (show (9 : Int32) ≤ nI 9 by decide)]
      exact digest_33 hN hS hre h1 h2 hI (W * H) N 0 a (by omega) (by omega)
    | succ m ih =>
      intro n w a hn hw
      obtain ⟨n, rfl⟩ : ∃ j, n = j + 1 := ⟨n - 1, by omega⟩
      rw [s_mX4_digest_6, if_neg (show ¬ (9 : Int32) ≤ nI w from nI_ge (b := 9) (by omega) (by omega)), tally_n hN hS, Option.bind_some, mX4_stir, Option.bind_some, nI_1]
      exact ih n (w + 1) _ (by omega) (by omega)
  exact key 9 N 0 1663 (by omega) (by omega)
end DC
section DM
variable {W H : Nat} {f : RowI} {N : Nat} {mu mb me mf uA uD : RowI}
/-- the model's one loop over both corridors of a cell -/
def dM (f uA uD : RowI) (W H k : Nat) : Nat → Nat → Int64 → Int64
  | 0, _, a => a
  | m + 1, t, a => dM f uA uD W H k m (t + 1) (sti a (tl f (uD2 uA uD (decide (t / 6 = 1))) (decide (t / 6 = 1)) W H k (nI (t % 6))))
theorem dM_dC (k : Nat) (a : Int64) : dM f uA uD W H k 12 0 a = dC f uD true W H k 6 0 (dC f uA false W H k 6 0 a) := rfl
theorem digest_108 (hN : 600 ≤ N) (hD : Dim W H) (hR : SR f) (hM : MS W H f uA uD mu mb me mf) (hA : UR uA) (hB : UR uD) {mt mv ml : Int32} {mk : RowI} (K38 : Int64 → Int32 → Int32 → RowI → Option (Int64 × Int32 × RowI × Int32 × Int32 × Int32 × RowI)) {k : Nat} (hk : k < W * H) :
    ∀ m n t a, m < n → t + m = 12 → mX5_digest_108 N (nI W) (nI H) mu mb me mf mt mv ml mk K38 n a (nI k) (nI t) 0 f = K38 (dM f uA uD W H k m t a) (nI (k + 1)) 0 f := by
  have g36 := dim36 hD
  obtain ⟨l1, l2, hu, ht⟩ := hM
  have hl : ∀ d, LI d W f (W * H) mb := fun d => by cases d; exact l1; exact l2
  have hud : ∀ d k, k < 36 → mu (36 * dn d + k) = uD2 uA uD d k := fun d k hk => by
    cases d
    · show mu (36 * 0 + k) = uA k
      rw [show 36 * 0 + k = k by omega]
      exact (hu k hk).1
    · exact (hu k hk).2
  have hU : ∀ d, UR (uD2 uA uD d) := fun d => by cases d; exact hA; exact hB
  intro m
  induction m with
  | zero =>
    intro n t a hn htt
    obtain ⟨n, rfl⟩ : ∃ j, n = j + 1 := ⟨n - 1, by omega⟩
    obtain rfl : t = 12 := by omega
    rw [s_mX5_digest_108, if_pos (show (12 : Int32) ≤ nI 12 by decide), nI_1]
    rfl
  | succ m ih =>
    intro n t a hn htt
    obtain ⟨n, rfl⟩ : ∃ j, n = j + 1 := ⟨n - 1, by omega⟩
    have e1 : nI t / (6 : Int32) = nI (dn (decide (t / 6 = 1))) := by
      rw [show (6 : Int32) = nI 6 from rfl, pk_div (by omega) (by omega) (by omega)]
      by_cases c : t / 6 = 1
      · rw [decide_eq_true c, c]; rfl
      · rw [decide_eq_false c, show t / 6 = 0 by omega]; rfl
    have e2 : nI t - nI t / (6 : Int32) * (6 : Int32) = nI (t % 6) := by
      rw [show (6 : Int32) = nI 6 from rfl, pk_rem (by omega) (by omega) (by omega)]
    rw [s_mX5_digest_108, if_neg (show ¬ (12 : Int32) ≤ nI t from nI_ge (b := 12) (by omega) (by omega)), if_neg (show ¬ (6 : Int32) = 0 by decide), if_neg (show ¬ (6 : Int32) = 0 by decide), e2, e1, corridorTold_n (u := uD2 uA uD (decide (t / 6 = 1))) hD hN hR ht (hl _) (hud _) (hU _) hk, Option.bind_some, nI_1]
    exact ih n (t + 1) _ (by omega) (by omega)
theorem digest_38 (hN : 600 ≤ N) (hD : Dim W H) (hR : SR f) (hM : MS W H f uA uD mu mb me mf) (hA : UR uA) (hB : UR uD) {mt mv ml : Int32} {mk mk' : RowI} (hlook : mX5_look N (nI W) (nI H) f mu mb me mf mt mv ml mk = some (f, nI (res f uA uD W H).1, nI (res f uA uD W H).2.1, lg (res f uA uD W H), mk')) :
    ∀ m n k a, m < n → k + m = W * H → mX5_digest_38 N (nI W) (nI H) mu mb me mf mt mv ml mk n a (nI k) 0 f = some (sti (sti (dL f uA uD W H m k a) (tld (res f uA uD W H))) (nI (res f uA uD W H).1), 0, f, nI (res f uA uD W H).1, nI (res f uA uD W H).2.1, lg (res f uA uD W H), mk') := by
  have g36 := dim36 hD
  intro m
  induction m with
  | zero =>
    intro n k a hn hk
    obtain ⟨n, rfl⟩ : ∃ j, n = j + 1 := ⟨n - 1, by omega⟩
    rw [s_mX5_digest_38, pk_mul, if_pos (nI_le (by omega) (by omega)), hlook, Option.bind_some, told_m, Option.bind_some]
    rfl
  | succ m ih =>
    intro n k a hn hk
    obtain ⟨n, rfl⟩ : ∃ j, n = j + 1 := ⟨n - 1, by omega⟩
    have hu := hM.2.2.1 k (by omega)
    rw [s_mX5_digest_38, pk_mul, if_neg (nI_ge (by omega) (by omega)), if_neg (bad_n (by omega) (by omega)), if_neg (bad_n (by omega) (by omega)), show (36 : Int32) + nI k = nI (36 + k) from nI_add 36 k, if_neg (bad_n (by omega) (by omega)), can_m hN hD hR hM hA hB (by omega), Option.bind_some]
    simp only [nI_clamp (show k < 2 ^ 31 by omega), nI_clamp (show 36 + k < 2 ^ 31 by omega)]
    rw [hu.1, hu.2]
    have h := digest_108 hN hD hR hM hA hB (mt := mt) (mv := mv) (ml := ml) (mk := mk) (mX5_digest_38 N (nI W) (nI H) mu mb me mf mt mv ml mk n) (show k < W * H by omega) 12 N 0 (sti (sti (sti (sti a (f k)) (uA k)) (uD k)) (nI (2 * cn f uA uD W H k))) (by omega) (by omega)
    rw [dM_dC, ih n (k + 1) _ (by omega) (by omega)] at h
    exact h
theorem digest_m (hN : 600 ≤ N) (hD : Dim W H) (hR : SR f) (hM : MS W H f uA uD mu mb me mf) (hA : UR uA) (hB : UR uD) (th : Int32) {mt mv ml : Int32} {mk mk' : RowI} (hlook : mX5_look N (nI W) (nI H) f mu mb me mf mt mv ml mk = some (f, nI (res f uA uD W H).1, nI (res f uA uD W H).2.1, lg (res f uA uD W H), mk')) :
    mX5_digest N th (nI W) (nI H) f mu mb me mf mt mv ml mk = some (dig f uA uD W H, 0, f, nI (res f uA uD W H).1, nI (res f uA uD W H).2.1, lg (res f uA uD W H), mk') := by
  have g36 := dim36 hD
  have key : ∀ m n w a, m < n → w + m = 9 → mX5_digest_11 N (nI W) (nI H) mu mb me mf mt mv ml mk n a (nI w) 0 f = some (sti (sti (dL f uA uD W H (W * H) 0 (dT f uA uD W H m w a)) (tld (res f uA uD W H))) (nI (res f uA uD W H).1), 0, f, nI (res f uA uD W H).1, nI (res f uA uD W H).2.1, lg (res f uA uD W H), mk') := by
    intro m
    induction m with
    | zero =>
      intro n w a hn hw
      obtain ⟨n, rfl⟩ : ∃ j, n = j + 1 := ⟨n - 1, by omega⟩
      obtain rfl : w = 9 := by omega
      rw [s_mX5_digest_11, if_pos (show (8 : Int32) < nI 9 by decide)]
      exact digest_38 hN hD hR hM hA hB hlook (W * H) N 0 a (by omega) (by omega)
    | succ m ih =>
      intro n w a hn hw
      obtain ⟨n, rfl⟩ : ∃ j, n = j + 1 := ⟨n - 1, by omega⟩
      rw [s_mX5_digest_11, if_neg (show ¬ (8 : Int32) < nI w from nI_nlt (a := 8) (by omega) (by omega)), counted_n hN hD hR hM hA hB (by omega), Option.bind_some, nI_1]
      exact ih n (w + 1) _ (by omega) (by omega)
  exact key 9 N 0 1663 (by omega) (by omega)
end DM
