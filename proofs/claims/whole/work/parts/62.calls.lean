/-! ===== the relation between the class and the model, and every call ===== -/
def Rel (ke : RowI) (tr fo fr : Int32) (st : RowI) (co ro : Int32) (cA cD : CS) (su : RowJ) (w h : Int32) (ms mu mb me mf : RowI) : Prop :=
  ∃ W H, co = nI W ∧ ro = nI H ∧ w = nI W ∧ h = nI H ∧ ms = st ∧ ST W H st cA cD su ∧ MS W H st cA.1 cD.1 mu mb me mf ∧
    (fr = 0 ∨ (fr = 1 ∧ tr = nI (res st cA.1 cD.1 W H).1 ∧ fo = nI (res st cA.1 cD.1 W H).2.1 ∧ KR (res st cA.1 cD.1 W H) ke ∧ SI (res st cA.1 cD.1 W H)))
theorem rng {x : Int32} (lo hi : Nat) (hh : hi < 2 ^ 31) (hl : lo ≤ hi) (h1 : ¬ x < nI lo) (h2 : ¬ nI hi < x) : ∃ a, lo ≤ a ∧ a ≤ hi ∧ x = nI a := by
  rw [Int32.lt_iff_toInt_lt, nI_toInt (by omega)] at h1
  rw [Int32.lt_iff_toInt_lt, nI_toInt (by omega)] at h2
  refine ⟨x.toInt.toNat, by omega, by omega, ?_⟩
  apply Int32.toInt_inj.mp
  rw [nI_toInt (by omega)]
  omega
theorem cell_ix {W H : Nat} (hD : Dim W H) (N : Nat) (x : Int32) : (mX4_checkCell N (nI W) (nI H) x = some (.inl 1) ∧ mX5_isCell N (nI W) (nI H) x = some 0) ∨ ∃ k, k < W * H ∧ x = nI k ∧ mX4_checkCell N (nI W) (nI H) (nI k) = some (.inr ()) ∧ mX5_isCell N (nI W) (nI H) (nI k) = some 1 := by
  have g36 := dim36 hD
  have g4 := dim4 hD
  have e1 : nI (W * H) - (1 : Int32) = nI (W * H - 1) := pk_sub (b := 1) (by omega)
  rcases pk_ix x (n := W * H) (by omega) with h | h | ⟨k, hk, rfl⟩
  · left
    rw [mX4_checkCell, mX1_has, if_pos h, Option.bind_some, if_pos rfl, mX5_isCell, mX5_isIn, if_pos h]
    exact ⟨rfl, rfl⟩
  · left
    have h0 : ¬ x < 0 := by
      rw [Int32.le_iff_toInt_le, nI_toInt (by omega)] at h
      rw [Int32.lt_iff_toInt_lt, Int32.toInt_zero]
      omega
    have h2 : nI (W * H - 1) < x := by
      rw [Int32.le_iff_toInt_le, nI_toInt (by omega)] at h
      rw [Int32.lt_iff_toInt_lt, nI_toInt (by omega)]
      omega
    rw [mX4_checkCell, mX1_has, if_neg h0, mX1_cells, Option.bind_some, pk_mul, if_pos h, Option.bind_some, if_pos rfl, mX5_isCell, mX5_isIn, if_neg h0, pk_mul, e1, if_pos h2]
    exact ⟨rfl, rfl⟩
  · right
    refine ⟨k, hk, rfl, ?_, ?_⟩
    · rw [mX4_checkCell, mX1_has, if_neg (nI_pos (by omega)), mX1_cells, Option.bind_some, pk_mul, if_neg (nI_ge hk (by omega)), Option.bind_some, if_neg (by decide)]
    · rw [mX5_isCell, mX5_isIn, if_neg (nI_pos (by omega)), pk_mul, e1, if_neg (nI_nlt (by omega) (by omega))]
      rfl
theorem open_n {f : RowI} {k : Nat} (hk : k < 36) (N : Nat) : mX4_checkOpen N f (nI k) = some (if f k = -1 then .inl 3 else .inr ()) := by
  rw [mX4_checkOpen, mX1_isPillar, rd_n hk]
  by_cases c : f k = -1
  · rw [if_pos c, if_pos c]; rfl
  · rw [if_neg c, if_neg c]; rfl
theorem ou_0 {ou : RowJ} {v : Int64} : vp_updL ou (0 : Int32).toNatClampNeg v 0 = v := rfl
theorem bad01 : ¬ bad (0 : Int32) 1 := by decide
/-! a new floor -/
def zr : Nat → RowI → RowI
  | 0, f => f
  | k + 1, f => upd (zr k f) k 0
theorem zr_at {f : RowI} : ∀ n j, j < n → zr n f j = 0
  | n + 1, j, h => by
    rw [zr]
    by_cases e : j = n
    · subst e; rw [upd_s]
    · rw [upd_n e]; exact zr_at n j (by omega)
theorem zr_z : ∀ n, zr n (fun _ => 0) = fun _ => 0
  | 0 => rfl
  | n + 1 => by rw [zr, zr_z n, upd_id rfl]
section CL
variable {N : Nat}
theorem told_clear {cs : CS} {s : Int32} : ∀ m n k, m < n → k + m = 36 → mX0_clear_7 N n (nI k) (zr k cs.1, cs.2.1, cs.2.2.1, s) = some (zr 36 cs.1, cs.2.1, cs.2.2.1, s) := by
  intro m
  induction m with
  | zero =>
    intro n k hn hk
    obtain ⟨n, rfl⟩ : ∃ j, n = j + 1 := ⟨n - 1, by omega⟩
    obtain rfl : k = 36 := by omega
    rw [s_mX0_clear_7, if_pos (show (36 : Int32) ≤ nI 36 by decide)]
  | succ m ih =>
    intro n k hn hk
    obtain ⟨n, rfl⟩ : ∃ j, n = j + 1 := ⟨n - 1, by omega⟩
    rw [s_mX0_clear_7, if_neg (show ¬ (36 : Int32) ≤ nI k from nI_ge (b := 36) (by omega) (by omega)), wr_n (by omega), nI_1]
    exact ih n (k + 1) (by omega) (by omega)
theorem clear_n {W H : Nat} (hD : Dim W H) (hN : 600 ≤ N) (f : RowI) (co ro : Int32) (cA cD : CS) : ∃ cA' cD', mX1_clear N f co ro cA cD (nI W) (nI H) = some (zr 36 f, nI W, nI H, cA', cD') ∧ JI false W H (zr 36 f) (W * H) cA' ∧ JI true W H (zr 36 f) (W * H) cD' ∧ cA'.1 = zr 36 cA.1 ∧ cD'.1 = zr 36 cD.1 := by
  obtain ⟨cA', cD', hj, h1, h2, h3, h4⟩ := joinCells_n (f := zr 36 f) hD hN (cA := (zr 36 cA.1, cA.2.1, cA.2.2.1, 1)) (cD := (zr 36 cD.1, cD.2.1, cD.2.2.1, nI W)) rfl rfl
  refine ⟨cA', cD', ?_, h1, h2, h3, h4⟩
  have key : ∀ m n k, m < n → k + m = 36 → mX1_clear_12 N cA cD (nI W) n (nI k) (zr k f) (nI W) (nI H) = some (zr 36 f, nI W, nI H, cA', cD') := by
    intro m
    induction m with
    | zero =>
      intro n k hn hk
      obtain ⟨n, rfl⟩ : ∃ j, n = j + 1 := ⟨n - 1, by omega⟩
      obtain rfl : k = 36 := by omega
      have t1 := told_clear (N := N) (cs := cA) (s := 1) 36 N 0 (by omega) (by omega)
      have t2 := told_clear (N := N) (cs := cD) (s := nI W) 36 N 0 (by omega) (by omega)
      rw [s_mX1_clear_12, if_pos (show (36 : Int32) ≤ nI 36 by decide), mX0_clear, show mX0_clear_7 N N (0 : Int32) (cA.1, cA.2.1, cA.2.2.1, 1) = _ from t1, Option.bind_some, mX0_clear, show mX0_clear_7 N N (0 : Int32) (cD.1, cD.2.1, cD.2.2.1, nI W) = _ from t2, Option.bind_some, hj]
      rfl
    | succ m ih =>
      intro n k hn hk
      obtain ⟨n, rfl⟩ : ∃ j, n = j + 1 := ⟨n - 1, by omega⟩
      rw [s_mX1_clear_12, if_neg (show ¬ (36 : Int32) ≤ nI k from nI_ge (b := 36) (by omega) (by omega)), wr_n (by omega), nI_1]
      exact ih n (k + 1) (by omega) (by omega)
  exact key 36 N 0 (by omega) (by omega)
theorem ur_z {u : RowI} (h : ∀ k, k < 36 → u k = 0) : UR u := fun k hk => ⟨0, by omega, h k hk⟩
theorem sr_z {f : RowI} (h : ∀ k, k < 36 → f k = 0) : SR f := fun k hk => Or.inr ⟨0, by omega, h k hk⟩
theorem floor_m {W H : Nat} (hD : Dim W H) (hN : 600 ≤ N) (f mu mb : RowI) {mb' : RowI} (hl : mX5_link N (nI W) (nI H) (zr 36 f) mb = some mb') : mX5_setFloor_43 N mu mb N 0 0 (nI W) (nI H) f = some (nI (W * H), 0, nI W, nI H, zr 36 f, zr 72 mu, mb') := by
  have k64 : ∀ m n k, m < n → k + m = 72 → mX5_setFloor_64 N mb n (nI k) 0 (nI W) (nI H) (zr 36 f) (zr k mu) = some (nI (W * H), 0, nI W, nI H, zr 36 f, zr 72 mu, mb') := by
    intro m
    induction m with
    | zero =>
      intro n k hn hk
      obtain ⟨n, rfl⟩ : ∃ j, n = j + 1 := ⟨n - 1, by omega⟩
      obtain rfl : k = 72 := by omega
      rw [s_mX5_setFloor_64, if_pos (show (72 : Int32) ≤ nI 72 by decide), hl, Option.bind_some, pk_mul]
    | succ m ih =>
      intro n k hn hk
      obtain ⟨n, rfl⟩ : ∃ j, n = j + 1 := ⟨n - 1, by omega⟩
      rw [s_mX5_setFloor_64, if_neg (show ¬ (72 : Int32) ≤ nI k from nI_ge (b := 72) (by omega) (by omega)), if_neg (bad_n (by omega) (by omega)), nI_clamp (by omega), nI_1]
      exact ih n (k + 1) (by omega) (by omega)
  have k43 : ∀ m n k, m < n → k + m = 36 → mX5_setFloor_43 N mu mb n (nI k) 0 (nI W) (nI H) (zr k f) = some (nI (W * H), 0, nI W, nI H, zr 36 f, zr 72 mu, mb') := by
    intro m
    induction m with
    | zero =>
      intro n k hn hk
      obtain ⟨n, rfl⟩ : ∃ j, n = j + 1 := ⟨n - 1, by omega⟩
      obtain rfl : k = 36 := by omega
      rw [s_mX5_setFloor_43, if_pos (show (36 : Int32) ≤ nI 36 by decide)]
      exact k64 72 N 0 (by omega) (by omega)
    | succ m ih =>
      intro n k hn hk
      obtain ⟨n, rfl⟩ : ∃ j, n = j + 1 := ⟨n - 1, by omega⟩
      rw [s_mX5_setFloor_43, if_neg (show ¬ (36 : Int32) ≤ nI k from nI_ge (b := 36) (by omega) (by omega)), if_neg (bad_n (by omega) (by omega)), nI_clamp (by omega), nI_1]
      exact ih n (k + 1) (by omega) (by omega)
  exact k43 36 N 0 (by omega) (by omega)
/-- the relation of new floors -/
theorem rel_new {W H : Nat} (hD : Dim W H) (hN : 600 ≤ N) {f mu mb me mf : RowI} {su : RowJ} {ke : RowI} {tr fo : Int32} (hT : TBto 512 su) (hM : MTB me mf) {cA' cD' : CS} (j1 : JI false W H (zr 36 f) (W * H) cA') (j2 : JI true W H (zr 36 f) (W * H) cD') (u1 : ∀ k, k < 36 → cA'.1 k = 0) (u2 : ∀ k, k < 36 → cD'.1 k = 0) (l1 : LI false W (zr 36 f) (W * H) mb) (l2 : LI true W (zr 36 f) (W * H) mb) (hu : ∀ k, k < 72 → mu k = 0) :
    Rel ke tr fo 0 (zr 36 f) (nI W) (nI H) cA' cD' su (nI W) (nI H) (zr 36 f) mu mb me mf :=
  ⟨W, H, rfl, rfl, rfl, rfl, rfl, ⟨hD, sr_z (fun k hk => zr_at 36 k hk), j1, j2, ur_z u1, ur_z u2, hT⟩, ⟨l1, l2, fun k hk => ⟨by rw [hu k (by omega), u1 k hk], by rw [hu (36 + k) (by omega), u2 k hk]⟩, hM⟩, Or.inl rfl⟩
theorem t_setFloor (hN : 600 ≤ N) {ke : RowI} {tr fo fr : Int32} {st : RowI} {co ro : Int32} {cA cD : CS} {su : RowJ} {w h : Int32} {ms mu mb me mf : RowI} (hr : Rel ke tr fo fr st co ro cA cD su w h ms mu mb me mf) (ou : RowJ) (th p q : Int32) :
    ∃ o1 o2, mL_setFloor N ou fr st co ro cA cD p q = some o1 ∧ mX5_setFloor N th w h ms mu mb p q = some o2 ∧ o2.2.1 = o1.1 ∧ (o1.1 = 0 → o1.2.1 0 = o2.1.toInt64) ∧ Rel ke tr fo o1.2.2.1 o1.2.2.2.1 o1.2.2.2.2.1 o1.2.2.2.2.2.1 o1.2.2.2.2.2.2.1 o1.2.2.2.2.2.2.2 su o2.2.2.1 o2.2.2.2.1 o2.2.2.2.2.1 o2.2.2.2.2.2.1 o2.2.2.2.2.2.2 me mf := by
  have hno : mX4_setFloor N fr st co ro cA cD p q = some (.inl 2) → mX5_setFloor N th w h ms mu mb p q = some (0, 1, w, h, ms, mu, mb) → ∃ o1 o2, mL_setFloor N ou fr st co ro cA cD p q = some o1 ∧ mX5_setFloor N th w h ms mu mb p q = some o2 ∧ o2.2.1 = o1.1 ∧ (o1.1 = 0 → o1.2.1 0 = o2.1.toInt64) ∧ Rel ke tr fo o1.2.2.1 o1.2.2.2.1 o1.2.2.2.2.1 o1.2.2.2.2.2.1 o1.2.2.2.2.2.2.1 o1.2.2.2.2.2.2.2 su o2.2.2.1 o2.2.2.2.1 o2.2.2.2.2.1 o2.2.2.2.2.2.1 o2.2.2.2.2.2.2 me mf := by
    intro h1 h2
    rw [mL_setFloor, h1, h2]
    exact ⟨_, _, rfl, rfl, rfl, fun e => absurd e (show ¬ (1 : Int32) = 0 by decide), hr⟩
  by_cases a1 : p < (2 : Int32)
  · exact hno (by rw [mX4_setFloor, if_pos a1]) (by rw [mX5_setFloor, mX5_isIn, if_pos a1]; rfl)
  by_cases a2 : (6 : Int32) < p
  · exact hno (by rw [mX4_setFloor, if_neg a1, if_pos a2]) (by rw [mX5_setFloor, mX5_isIn, if_neg a1, if_pos a2]; rfl)
  by_cases a3 : q < (2 : Int32)
  · exact hno (by rw [mX4_setFloor, if_neg a1, if_neg a2, if_pos a3]) (by rw [mX5_setFloor, mX5_isIn, if_neg a1, if_neg a2, mX5_isIn, if_pos a3]; rfl)
  by_cases a4 : (6 : Int32) < q
  · exact hno (by rw [mX4_setFloor, if_neg a1, if_neg a2, if_neg a3, if_neg (Int32.not_le.mpr a4)]) (by rw [mX5_setFloor, mX5_isIn, if_neg a1, if_neg a2, mX5_isIn, if_neg a3, if_pos a4]; rfl)
  obtain ⟨W, w2, w6, rfl⟩ := rng (x := p) 2 6 (by omega) (by omega) a1 a2
  obtain ⟨H, h2, h6, rfl⟩ := rng (x := q) 2 6 (by omega) (by omega) a3 a4
  have hD : Dim W H := ⟨w2, w6, h2, h6⟩
  obtain ⟨W0, H0, _, _, _, _, em, hS, hM, _⟩ := hr
  obtain ⟨_, _, _, _, _, _, hT⟩ := hS
  obtain ⟨cA', cD', c1, c2, c3, c4, c5⟩ := clear_n hD hN st co ro cA cD
  obtain ⟨mb', l1, l2, l3⟩ := link_n (f := zr 36 st) hD hN mb
  have e1 : mX4_setFloor N fr st co ro cA cD (nI W) (nI H) = some (.inr (nI (W * H), 0, zr 36 st, nI W, nI H, cA', cD')) := by
    rw [mX4_setFloor, if_neg a1, if_neg a2, if_neg a3, if_pos (Int32.not_lt.mp a4), c1, mX3_forget]
    show some _ = _
    rw [pk_mul]
  have e2 : mX5_setFloor N th w h ms mu mb (nI W) (nI H) = some (nI (W * H), 0, nI W, nI H, zr 36 st, zr 72 mu, mb') := by
    rw [mX5_setFloor, mX5_isIn, if_neg a1, if_neg a2, mX5_isIn, if_neg a3, if_neg a4, em]
    exact floor_m hD hN st mu mb l1
  rw [mL_setFloor, e1, e2]
  dsimp only [Option.bind_some, Sum.elim_inr]
  rw [if_neg bad01]
  exact ⟨_, _, rfl, rfl, rfl, fun _ => rfl, rel_new hD hN hT hM.2.2.2 c2 c3 (fun k hk => by rw [c4]; exact zr_at 36 k hk) (fun k hk => by rw [c5]; exact zr_at 36 k hk) l2 l3 (fun k hk => zr_at 72 k hk)⟩
end CL
