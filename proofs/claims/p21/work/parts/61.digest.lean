/-! ===== the checksum ===== -/
def sti (d : Int64) (x : Int32) : Int64 := d * 31 + x.toInt64
def dT (f uA uD : RowI) (W H : Nat) : Nat → Nat → Int64 → Int64
  | 0, _, d => d
  | m + 1, w, d => dT f uA uD W H m (w + 1) (sti d (tal f uA uD W H (nI w)))
def dC (f u : RowI) (d : Bool) (W H k : Nat) : Nat → Nat → Int64 → Int64
  | 0, _, a => a
  | m + 1, w, a => dC f u d W H k m (w + 1) (sti a (tl f u d W H k (nI w)))
def dK (f uA uD : RowI) (W H k : Nat) (a : Int64) : Int64 := dC f uD true W H k 6 0 (dC f uA false W H k 6 0 (sti (sti (sti (sti a (f k)) (uA k)) (uD k)) (nI (2 * cn f uA uD W H k))))
def dL (f uA uD : RowI) (W H : Nat) : Nat → Nat → Int64 → Int64
  | 0, _, a => a
  | m + 1, k, a => dL f uA uD W H m (k + 1) (dK f uA uD W H k a)
def tld (a : SA) : Int32 := if 4000 < a.1 then -1 else nI a.2.1
def dig (f uA uD : RowI) (W H : Nat) : Int64 := sti (sti (dL f uA uD W H (W * H) 0 (dT f uA uD W H 9 0 1663)) (tld (res f uA uD W H))) (nI (res f uA uD W H).1)
theorem told_c {N : Nat} {a : SA} (h : SI a) : mX3_told N (nI a.1) (nI a.2.1) = some (tld a) := by
  have := h.1
  rw [mX3_told, unknown_n (by omega), Option.bind_some]
  unfold tld
  by_cases c : 4000 < a.1
  · rw [if_pos c, if_pos c]; rfl
  · rw [if_neg c, if_neg c]; rfl
section DC
variable {W H : Nat} {f : RowI} {N : Nat} {cA cD : CS} {su : RowJ}
theorem stirCorridor_n {d : Bool} {cs : CS} (hD : Dim W H) (hN : 600 ≤ N) (hR : SR f) (hJ : JI d W H f (W * H) cs) (hU : UR cs.1) (hT : TBto 512 su) {k : Nat} (hk : k < W * H) (a : Int64) : mX4_stirCorridor N f cs su a (nI k) = some (dC f cs.1 d W H k 6 0 a) := by
  have key : ∀ m n w a, m < n → w + m = 6 → mX4_stirCorridor_6 N f cs su (nI k) n a (nI w) = some (dC f cs.1 d W H k m w a) := by
    intro m
    induction m with
    | zero =>
      intro n w a hn hw
      obtain ⟨n, rfl⟩ : ∃ j, n = j + 1 := ⟨n - 1, by omega⟩
      obtain rfl : w = 6 := by omega
      rw [s_mX4_stirCorridor_6, if_pos (show (6 : Int32) ≤ nI 6 by decide)]
      rfl
    | succ m ih =>
      intro n w a hn hw
      obtain ⟨n, rfl⟩ : ∃ j, n = j + 1 := ⟨n - 1, by omega⟩
      rw [s_mX4_stirCorridor_6, if_neg (show ¬ (6 : Int32) ≤ nI w from nI_ge (b := 6) (by omega) (by omega)), tell_n hD hN hR hJ hU hT hk, Option.bind_some, mX4_stir, Option.bind_some, nI_1]
      exact ih n (w + 1) _ (by omega) (by omega)
  exact key 6 N 0 a (by omega) (by omega)
theorem stirCell_n (hN : 600 ≤ N) (hS : ST W H f cA cD su) {k : Nat} (hk : k < W * H) (a : Int64) : mX4_stirCell N f cA cD su a (nI k) = some (dK f cA.1 cD.1 W H k a) := by
  have hS0 := hS
  obtain ⟨hD, hR, hA, hB, uA, uD, hT⟩ := hS
  have g36 := dim36 hD
  rw [mX4_stirCell, mX1_stoneAt, mX0_toldAt, mX0_toldAt, rd_n (by omega), rd_n (by omega), rd_n (by omega), can_c hN hS0 hk]
  simp only [Option.bind_some, mX4_stir]
  rw [stirCorridor_n hD hN hR hA uA hT hk, Option.bind_some, stirCorridor_n hD hN hR hB uD hT hk, Option.bind_some]
  rfl
theorem digest_33 (hN : 600 ≤ N) (hS : ST W H f cA cD su) {ho ke : RowI} {hc tr fo fr : Int32} {o : RowI × RowI × Int32 × Int32 × Int32 × Int32 × RowI} (hre : mX3_refresh N ho ke hc tr fo fr f (nI W) (nI H) cA cD su = some o) (h1 : o.2.2.2.1 = nI (res f cA.1 cD.1 W H).1) (h2 : o.2.2.2.2.1 = nI (res f cA.1 cD.1 W H).2.1) (hI : SI (res f cA.1 cD.1 W H)) :
    ∀ m n k a, m < n → k + m = W * H → mX4_digest_33 N ho ke hc tr fo fr f (nI W) (nI H) cA cD su n a (nI k) = some (sti (sti (dL f cA.1 cD.1 W H m k a) (tld (res f cA.1 cD.1 W H))) (nI (res f cA.1 cD.1 W H).1), o) := by
  have g36 := dim36 hS.1
  intro m
  induction m with
  | zero =>
    intro n k a hn hk
    obtain ⟨n, rfl⟩ : ∃ j, n = j + 1 := ⟨n - 1, by omega⟩
    rw [s_mX4_digest_33, mX1_cells, pk_mul, Option.bind_some, if_pos (nI_le (by omega) (by omega)), hre, Option.bind_some, show mX3_told N o.2.2.2.1 o.2.2.2.2.1 = some (tld (res f cA.1 cD.1 W H)) by rw [h1, h2]; exact told_c hI, ← h1]
    rfl
  | succ m ih =>
    intro n k a hn hk
    obtain ⟨n, rfl⟩ : ∃ j, n = j + 1 := ⟨n - 1, by omega⟩
    rw [s_mX4_digest_33, mX1_cells, pk_mul, Option.bind_some, if_neg (nI_ge (by omega) (by omega)), stirCell_n hN hS (by omega), Option.bind_some, nI_1]
    exact ih n (k + 1) _ (by omega) (by omega)
theorem digest_c (hN : 600 ≤ N) (hS : ST W H f cA cD su) {ho ke : RowI} {hc tr fo fr : Int32} {o : RowI × RowI × Int32 × Int32 × Int32 × Int32 × RowI} (hre : mX3_refresh N ho ke hc tr fo fr f (nI W) (nI H) cA cD su = some o) (h1 : o.2.2.2.1 = nI (res f cA.1 cD.1 W H).1) (h2 : o.2.2.2.2.1 = nI (res f cA.1 cD.1 W H).2.1) (hI : SI (res f cA.1 cD.1 W H)) :
    mX4_digest N ho ke hc tr fo fr f (nI W) (nI H) cA cD su = some (dig f cA.1 cD.1 W H, o) := by
  have g36 := dim36 hS.1
  have key : ∀ m n w a, m < n → w + m = 9 → mX4_digest_6 N ho ke hc tr fo fr f (nI W) (nI H) cA cD su n a (nI w) = some (sti (sti (dL f cA.1 cD.1 W H (W * H) 0 (dT f cA.1 cD.1 W H m w a)) (tld (res f cA.1 cD.1 W H))) (nI (res f cA.1 cD.1 W H).1), o) := by
    intro m
    induction m with
    | zero =>
      intro n w a hn hw
      obtain ⟨n, rfl⟩ : ∃ j, n = j + 1 := ⟨n - 1, by omega⟩
      obtain rfl : w = 9 := by omega
      rw [s_mX4_digest_6, if_pos (show (9 : Int32) ≤ nI 9 by decide)]
      exact digest_33 hN hS hre h1 h2 hI (W * H) N 0 a (by omega) (by omega)
    | succ m ih =>
      intro n w a hn hw
      obtain ⟨n, rfl⟩ : ∃ j, n = j + 1 := ⟨n - 1, by omega⟩
      rw [s_mX4_digest_6, if_neg (show ¬ (9 : Int32) ≤ nI w from nI_ge (b := 9) (by omega) (by omega)), tally_n hN hS, Option.bind_some, mX4_stir, Option.bind_some, nI_1]
      exact ih n (w + 1) _ (by omega) (by omega)
  exact key 9 N 0 1663 (by omega) (by omega)
end DC
section DM
variable {W H : Nat} {f : RowI} {N : Nat} {mu mb me mf uA uD : RowI}
/-- the model's one loop over both corridors of a cell -/
def dM (f uA uD : RowI) (W H k : Nat) : Nat → Nat → Int64 → Int64
  | 0, _, a => a
  | m + 1, t, a => dM f uA uD W H k m (t + 1) (sti a (tl f (uD2 uA uD (decide (t / 6 = 1))) (decide (t / 6 = 1)) W H k (nI (t % 6))))
theorem dM_dC (k : Nat) (a : Int64) : dM f uA uD W H k 12 0 a = dC f uD true W H k 6 0 (dC f uA false W H k 6 0 a) := rfl
end DM
