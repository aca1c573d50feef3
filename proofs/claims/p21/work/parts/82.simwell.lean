/-! ===== the law's floor: whether a corridor is well, which numbers can stand ===== -/
theorem line_at {f : RowI} {s : Nat} : ∀ n k j v, (line f s n k)[j]? = some v → f (k + j * s) = v
  | 0, _, j, v, h => by simp [line] at h
  | n + 1, k, j, v, h => by
    rw [line_succ] at h
    split at h
    · simp at h
    · cases j with
      | zero => simp at h; rw [Nat.zero_mul]; exact h
      | succ j =>
        have h2 := line_at n (k + s) j v (by simpa using h)
        rw [Nat.succ_mul, show k + (j * s + s) = k + s + j * s by omega]
        exact h2
section SW
variable {W H N : Nat} {f uA uD : RowI} {gS gA gD : RowR}
theorem dm_lt (hD : Dim W H) {k : Nat} (hk : k < W * H) : k / W < H ∧ k % W < W ∧ k / W * W + k % W = k := by
  have w2 := hD.1
  refine ⟨Nat.div_lt_of_lt_mul hk, Nat.mod_lt k (by omega), ?_⟩
  rw [Nat.mul_comm]
  exact Nat.div_add_mod k W
theorem grid_n (hD : Dim W H) {u : RowI} {g : RowR} (hZ : RZ W H u g) {k : Nat} (hk : k < W * H) : (if nI W = 0 then none else if bad (nI k / nI W) H then none else if nI W = 0 then none else if bad (nI k - nI k / nI W * nI W) W then none else some (g ((nI k / nI W).toNatClampNeg) (nI k - nI k / nI W * nI W).toNatClampNeg)) = some (u k) := by
  have w2 := hD.1
  have w6 := hD.2.1
  have h6 := hD.2.2.2
  have g36 := dim36 hD
  obtain ⟨d1, d2, d3⟩ := dm_lt hD hk
  have e0 : ¬ nI W = 0 := nI_ne0 (by omega) (by omega)
  rw [if_neg e0, if_neg e0, pk_rem (by omega) (by omega) (by omega), pk_div (by omega) (by omega) (by omega), if_neg (bad_n d1 (by omega)), if_neg (bad_n d2 (by omega)), nI_clamp (by omega), nI_clamp (by omega), hZ _ _ d1 d2, d3]
theorem at_z (hD : Dim W H) (hZ : RZ W H f gS) {k : Nat} (hk : k < W * H) : mX5_at N (nI W) W H gS (nI k) = some (f k) := by
  rw [mX5_at]
  exact grid_n hD hZ hk
theorem sumAt_z (hD : Dim W H) (hA : RZ W H uA gA) (hB : RZ W H uD gD) (d : Bool) {k : Nat} (hk : k < W * H) : mX5_sumAt N (nI W) W H gA gD (nI k) (nI (dn d)) = some (uD2 uA uD d k) := by
  rw [mX5_sumAt]
  cases d
  · rw [if_pos (show nI (dn false) = 0 from rfl)]
    exact grid_n hD hA hk
  · rw [if_neg (show ¬ nI (dn true) = 0 by decide)]
    exact grid_n hD hB hk
/-- what the loop over a corridor answers -/
def wS (x c t : Nat) (D : List Nat) (s : Nat) : Bool := !dup x D && (decide (s = 0) || (decide (t + smD D ≤ s) && tb (x ||| gX D) (c + zc D) (s - (t + smD D))))
theorem wS_wl {D : List Nat} (h9 : ∀ v ∈ D, v ≤ 9) (s : Nat) : wS 0 0 0 D s = wl D s := by
  obtain ⟨h1, _⟩ := dup_iff D 0 (by decide) h9
  have e0 : bcN 9 (2 * 0) = 0 := by decide
  rw [Nat.zero_or, e0, Nat.zero_add] at h1
  unfold wS wl
  rw [Nat.zero_or, Nat.zero_add, Nat.zero_add]
  cases q : dup 0 D
  · rw [decide_eq_true (h1.mp q)]
    rfl
  · rw [decide_eq_false (show ¬ bcN 9 (2 * gX D) = nzc D from fun r => by rw [h1.mpr r] at q; cases q)]
    rfl
theorem UB.set {u : RowI} {X v : Nat} (h : UB u X) (hv : 1 ≤ v) {x : Int32} (hx : x = 1) : UB (upd u v x) (X ||| 2 ^ v) := by
  intro j h1 h9
  rw [Nat.testBit_or, Nat.testBit_two_pow]
  by_cases e : j = v
  · subst e
    rw [upd_s, hx]
    simp
  · rw [upd_n e, h j h1 h9, decide_eq_false (show ¬ v = j from fun q => e q.symm), Bool.or_false]
theorem UB.set0 {u : RowI} {X : Nat} (h : UB u X) {x : Int32} : UB (upd u 0 x) X := by
  intro j h1 h9
  rw [upd_n (by omega)]
  exact h j h1 h9
theorem nar_1 : vp_nar .boolean (1 : Int32) = 1 := by rfl
theorem sub_nn {s t v : Nat} : nI s - nI t - nI v = nI s - nI (t + v) := by
  apply Int32.toBitVec_inj.1
  show BitVec.ofNat 32 s - BitVec.ofNat 32 t - BitVec.ofNat 32 v = BitVec.ofNat 32 s - BitVec.ofNat 32 (t + v)
  apply BitVec.eq_of_toNat_eq
  simp only [BitVec.toNat_sub, BitVec.toNat_ofNat]
  omega
theorem well_41 (hN : 600 ≤ N) {L : Nat} {g : RowI} (hL6 : L ≤ 6) {s : Nat} (hs : s ≤ 45) (v6 : Int32) (hv6 : (s = 0 → v6 = 0) ∧ (s ≠ 0 → v6 = 1)) : ∀ (D : List Nat) n i x c t (u : RowI), D.length < n → i + D.length = L → (∀ j v, D[j]? = some v → mX5_at N (nI W) W H gS (g (i + j)) = some (nI v)) → (∀ v ∈ D, v ≤ 9) → x < 512 → UB u (2 * x) → c + D.length ≤ 6 → t ≤ 9 * i →
    mX5_isWell_41 N (nI W) W H gS gA gD L g n u (nI c) (nI s - nI t) v6 (nI L) (nI i) = some (if wS x c t D s = true then 1 else 0) := by
  intro D
  induction D with
  | nil =>
    intro n i x c t u hn hi hg h9 hx hu hc ht
    obtain ⟨n, rfl⟩ : ∃ j, n = j + 1 := ⟨n - 1, by simp at hn; omega⟩
    simp only [List.length_nil, Nat.add_zero] at hi hc
    rw [mX5_isWell_41]
    dsimp only
    rw [if_pos (nI_le (by omega) (by omega))]
    have e0 : x ||| gX [] = x := by simp [gX]
    unfold wS
    rw [e0, dup, Bool.not_false, Bool.true_and, show smD [] = 0 from rfl, show zc [] = 0 from rfl, Nat.add_zero, Nat.add_zero]
    by_cases c2 : s = 0
    · rw [if_pos (hv6.1 c2), decide_eq_true c2]; rfl
    · rw [if_neg (by rw [hv6.2 c2]; decide), decide_eq_false c2, Bool.false_or]
      by_cases c3 : t ≤ s
      · have hm : mX5_isMade N 11 u (nI c) (nI (s - t)) 1 = _ := isMade_n hN hu 11 c (s - t) 1 (by omega) (by omega) (by omega) (by omega) (by omega)
        rw [decide_eq_true c3, Bool.true_and, pk_sub c3, hm, Option.bind_some, bq, mk_tb hx]
        cases tb x c (s - t) <;> rfl
      · rw [decide_eq_false c3, Bool.false_and, isMade_neg hN (pk_sneg (by omega) (by omega)), Option.bind_some, if_pos rfl]
        rfl
  | cons v D ih =>
    intro n i x c t u hn hi hg h9 hx hu hc ht
    obtain ⟨n, rfl⟩ : ∃ j, n = j + 1 := ⟨n - 1, by simp at hn; omega⟩
    have h1 := h9 v List.mem_cons_self
    have hD9 := fun w hw => h9 w (List.mem_cons_of_mem v hw)
    simp only [List.length_cons] at hn hi hc
    have hat := hg 0 v rfl
    rw [Nat.add_zero] at hat
    have hg' : ∀ j w, D[j]? = some w → mX5_at N (nI W) W H gS (g (i + 1 + j)) = some (nI w) := fun j w hj => by
      have := hg (j + 1) w (by simpa using hj)
      rw [show i + 1 + j = i + (j + 1) by omega]
      exact this
    rw [mX5_isWell_41]
    dsimp only
    rw [if_neg (nI_ge (by omega) (by omega)), if_neg (bad_n (by omega) (by omega)), nI_clamp (by omega), hat, Option.bind_some]
    by_cases v0 : v = 0
    · subst v0
      have ee : wS x c t (0 :: D) s = wS x (c + 1) t D s := by
        unfold wS
        rw [dup, if_pos rfl, gX, show bv 0 = 0 from rfl, Nat.zero_or, zc, if_pos rfl, show c + (1 + zc D) = c + 1 + zc D by omega, smD, Nat.zero_add]
      rw [if_pos (show nI 0 ≤ (0 : Int32) by decide), mX5_isWell_77, if_neg (bad_n (by omega) (by omega)), if_pos nI_0, ee, sub_nn, Nat.add_zero, show nI c + (1 : Int32) = nI (c + 1) from nI_1 c, show nI i + (1 : Int32) = nI (i + 1) from nI_1 i]
      exact ih n (i + 1) x (c + 1) t _ (by omega) (by omega) hg' hD9 hx (hu.set0) (by omega) (by omega)
    · have ee : wS x c t (v :: D) s = (!(2 * x).testBit v && wS (x ||| bv v) c (t + v) D s) := by
        unfold wS
        rw [dup, if_neg v0, gX, ← Nat.or_assoc, zc, if_neg v0, Nat.zero_add, smD, ← Nat.add_assoc]
        cases (2 * x).testBit v <;> simp
      rw [if_neg (nI_nle (by omega) (by omega)), if_neg (bad_n (by omega) (by omega)), nI_clamp (by omega), hu v (by omega) h1, ee]
      cases hb : (2 * x).testBit v
      · rw [if_neg (show ¬ (false = true) by decide), if_pos rfl, mX5_isWell_77, if_neg (bad_n (by omega) (by omega)), if_neg (nI_ne0 (by omega) (by omega)), nI_clamp (by omega), sub_nn, show nI c + (0 : Int32) = nI c from nI_add c 0, show nI i + (1 : Int32) = nI (i + 1) from nI_1 i, Bool.not_false, Bool.true_and]
        refine ih n (i + 1) (x ||| bv v) c (t + v) _ (by omega) (by omega) hg' hD9 (obv hx h1) ?_ (by omega) (by omega)
        rw [two_ob x (by omega)]
        exact hu.set (by omega) nar_1
      · rw [if_pos rfl, if_neg (by decide)]
        rfl
/-- Sim.isWell over a corridor -/
theorem wellZ (hN : 600 ≤ N) (hD : Dim W H) (hR : SR f) (hZ : RZ W H f gS) (hA : RZ W H uA gA) (hB : RZ W H uD gD) (d : Bool) (hU : UR (uD2 uA uD d)) {k : Nat} (hk : k < W * H) (ho : f k ≠ -1) {g : RowI} (hg : ∀ j, j < (ln f d W H (bg f d W k)).length → g j = nI (bg f d W k + j * stp d W)) :
    mX5_isWell N (nI W) W H gS gA gD (ln f d W H (bg f d W k)).length g (nI (dn d)) = some (if wsp f (uD2 uA uD d) d W H k = true then 1 else 0) := by
  have g36 := dim36 hD
  have hb : bg f d W k < W * H := bg_lt hk
  have hbo := bg_open (d := d) hD k hk ho
  obtain ⟨h9, he⟩ := ln_dig (d := d) hD hR hb
  obtain ⟨s, hs, hus⟩ := hU _ (show bg f d W k < 36 by omega)
  obtain ⟨_, g1, g6, _⟩ := geo hD d hb
  have hlen : (ln f d W H (bg f d W k)).length ≤ 6 := by
    have h1 := line_len (f := f) (stp d W) (fwd d W H (bg f d W k)) (bg f d W k)
    unfold ln
    omega
  have hpos : 0 < (ln f d W H (bg f d W k)).length := by
    obtain ⟨m, hm⟩ : ∃ m, fwd d W H (bg f d W k) = m + 1 := ⟨fwd d W H (bg f d W k) - 1, by omega⟩
    unfold ln
    rw [hm, line_succ, if_neg hbo, List.length_cons]
    omega
  have hdl : (dg (ln f d W H (bg f d W k))).length = (ln f d W H (bg f d W k)).length := by unfold dg; rw [List.length_map]
  have hcells : ∀ j v, (dg (ln f d W H (bg f d W k)))[j]? = some v → mX5_at N (nI W) W H gS (g (0 + j)) = some (nI v) := by
    intro j v hj
    have hjl : j < (ln f d W H (bg f d W k)).length := by
      have := (List.getElem?_eq_some_iff.mp hj).1
      omega
    have e1 : (ln f d W H (bg f d W k))[j]? = some (nI v) := by
      rw [he, List.getElem?_map, hj]
      rfl
    have e2 := line_at _ _ _ _ e1
    have hcell : bg f d W k + j * stp d W < W * H := by
      have hn : ∀ n b j, (n = 0 ∨ (b < W * H ∧ fwd d W H b = n)) → j < (line f (stp d W) n b).length → b + j * stp d W < W * H := by
        intro n
        induction n with
        | zero => intro b j _ h; simp [line] at h
        | succ n ih =>
          intro b j hc h
          rcases hc with hc | ⟨hb, hf⟩
          · omega
          · rw [line_succ] at h
            split at h
            · simp at h
            · cases j with
              | zero => omega
              | succ j =>
                obtain ⟨_, _, _, _, _, _, _, g2, _⟩ := geo hD d hb
                have h2 := ih (b + stp d W) j (by
                  rcases g2 with g2 | ⟨g2, g3, _⟩
                  · exact Or.inl (by omega)
                  · exact Or.inr ⟨g2, by omega⟩) (by simpa using h)
                rw [Nat.succ_mul]
                omega
      exact hn _ _ j (Or.inr ⟨hb, rfl⟩) hjl
    rw [Nat.zero_add, hg j hjl, at_z hD hZ hcell, e2]
  rw [mX5_isWell, if_neg (show ¬ bad (0 : Int32) _ from bad_n hpos (by omega)), show ((0 : Int32).toNatClampNeg) = 0 from rfl, hg 0 hpos, Nat.zero_mul, Nat.add_zero, sumAt_z hD hA hB d hb, Option.bind_some, hus]
  have h41 : ∀ v6, (s = 0 → v6 = (0 : Int32)) → (s ≠ 0 → v6 = 1) → mX5_isWell_41 N (nI W) W H gS gA gD (ln f d W H (bg f d W k)).length g N (fun _ => 0) 0 (nI s) v6 (nI (ln f d W H (bg f d W k)).length) 0 = some (if wsp f (uD2 uA uD d) d W H k = true then 1 else 0) := by
    intro v6 h0 h1
    have h := well_41 (W := W) (H := H) (gS := gS) (gA := gA) (gD := gD) hN hlen hs v6 ⟨h0, h1⟩ (dg (ln f d W H (bg f d W k))) N 0 0 0 0 (fun _ => 0) (by omega) (by omega) hcells h9 (by decide) (fun v _ _ => by simp) (by omega) (by omega)
    rw [wS_wl h9] at h
    unfold wsp
    rw [hus, nI_clamp (by omega), ← h, show nI s - nI 0 = nI s from pk_sub (Nat.zero_le s)]
    rfl
  rw [mX5_isWell_28, mX5_isWell_28]
  by_cases c : s = 0
  · rw [if_pos (show nI s ≤ (0 : Int32) by rw [c]; decide)]
    exact h41 0 (fun _ => rfl) (fun q => absurd c q)
  · rw [if_neg (nI_nle (by omega) (by omega))]
    exact h41 1 (fun q => absurd q c) (fun _ => rfl)
/-- Sim.isWell of a cell -/
theorem wellZ_ (hN : 600 ≤ N) (hD : Dim W H) (hR : SR f) (hZ : RZ W H f gS) (hA : RZ W H uA gA) (hB : RZ W H uD gD) (hUA : UR uA) (hUD : UR uD) {x y : Nat} (hx : x < W) (hy : y < H) (ho : f (y * W + x) ≠ -1) :
    mX5_isWell_ N (nI W) (nI H) W H gS gA gD (nI x) (nI y) = some (if (wsp f uA false W H (y * W + x) && wsp f uD true W H (y * W + x)) = true then 1 else 0) := by
  have hk := cell_xy hx hy
  obtain ⟨g0, c0, e0⟩ := corr_n hN hD hZ hR false hx hy ho
  obtain ⟨g1, c1, e1⟩ := corr_n hN hD hZ hR true hx hy ho
  have w0 := wellZ hN hD hR hZ hA hB false hUA hk ho e0
  have w1 := wellZ hN hD hR hZ hA hB true hUD hk ho e1
  have c0 : mX5_corridor N (nI W) (nI H) W H gS (nI x) (nI y) 0 = _ := c0
  have c1 : mX5_corridor N (nI W) (nI H) W H gS (nI x) (nI y) 1 = _ := c1
  have w0 : mX5_isWell N (nI W) W H gS gA gD _ g0 0 = _ := w0
  have w1 : mX5_isWell N (nI W) W H gS gA gD _ g1 1 = _ := w1
  rw [mX5_isWell_, c0, Option.bind_some]
  dsimp only
  rw [w0, Option.bind_some, bq, c1, Option.bind_some]
  dsimp only
  rw [w1, Option.bind_some, bq]
  show (if wsp f uA false W H (y * W + x) = true then (if wsp f uD true W H (y * W + x) = true then some (1 : Int32) else some 0) else some 0) = _
  cases wsp f uA false W H (y * W + x) <;> cases wsp f uD true W H (y * W + x) <;> rfl
theorem RZ.upd {u : RowI} {g : RowR} (h : RZ W H u g) {x y : Nat} (hx : x < W) (hy : y < H) (v : Int32) : RZ W H (upd u (y * W + x) v) (updR g y (upd (g y) x v)) := by
  intro y2 x2 hy2 hx2
  unfold updR
  by_cases e : y2 = y
  · subst e
    rw [if_pos rfl]
    by_cases e2 : x2 = x
    · subst e2; rw [upd_s, upd_s]
    · rw [upd_n e2, upd_n (by omega), h y2 x2 hy2 hx2]
  · rw [if_neg e, h y2 x2 hy2 hx2, upd_n]
    intro q
    rcases Nat.lt_or_ge y2 y with r | r
    · have : (y2 + 1) * W ≤ y * W := Nat.mul_le_mul_right W r
      rw [Nat.succ_mul] at this
      omega
    · have : (y + 1) * W ≤ y2 * W := Nat.mul_le_mul_right W (by omega)
      rw [Nat.succ_mul] at this
      omega
theorem updR_s {g : RowR} {i : Nat} {x : RowI} : updR g i x i = x := if_pos rfl
theorem updR_updR {g : RowR} {i : Nat} {x y : RowI} : updR (updR g i x) i y = updR g i y := by
  funext j
  unfold updR
  by_cases h : j = i
  · rw [if_pos h, if_pos h]
  · rw [if_neg h, if_neg h, if_neg h]
theorem updR_id {g : RowR} {i : Nat} {x : RowI} (h : g i = x) : updR g i x = g := by
  funext j
  unfold updR
  by_cases hj : j = i
  · rw [if_pos hj, hj, h]
  · rw [if_neg hj]
theorem stf_add (P : Nat → Bool) (n : Nat) : stf P (n + 1) = stf P n + (if P (n + 1) = true then 2 ^ n else 0) := by
  rw [stf]
  split
  · have h := Nat.two_pow_add_eq_or_of_lt (stf_lt P n) 1
    rw [Nat.mul_one] at h
    rw [Nat.or_comm, ← h]
    omega
  · rfl
/-- Sim.can -/
theorem canZ (hN : 600 ≤ N) (hD : Dim W H) (hR : SR f) (hZ : RZ W H f gS) (hA : RZ W H uA gA) (hB : RZ W H uD gD) (hUA : UR uA) (hUD : UR uD) {x y : Nat} (hx : x < W) (hy : y < H) :
    mX5_can N (nI W) (nI H) W H gS gA gD (nI x) (nI y) = some (nI (2 * cn f uA uD W H (y * W + x)), gS) := by
  have w6 := hD.2.1
  have h6 := hD.2.2.2
  have g36 := dim36 hD
  have hk := cell_xy hx hy
  rw [mX5_can, if_neg (bad_n hy (by omega)), if_neg (bad_n hx (by omega)), nI_clamp (by omega), nI_clamp (by omega), hZ y x hy hx]
  unfold cn
  by_cases c : f (y * W + x) = 0
  · rw [if_pos c, if_pos c]
    have hgx : gS y x = 0 := by rw [hZ y x hy hx, c]
    obtain ⟨P, hP⟩ : ∃ P : Nat → Bool, P = fun n => wsp (upd f (y * W + x) (nI n)) uA false W H (y * W + x) && wsp (upd f (y * W + x) (nI n)) uD true W H (y * W + x) := ⟨_, rfl⟩
    rw [← hP]
    have key : ∀ m n acc (g : RowR), m < n → m ≤ 9 → acc + 2 * stf P m = 2 * stf P 9 → (∀ z, updR g y (upd (g y) x z) = updR gS y (upd (gS y) x z)) → mX5_can_19 N (nI W) (nI H) W H gA gD (nI x) (nI y) n (nI acc) (nI m) g = some (nI (2 * stf P 9), gS) := by
      intro m
      induction m with
      | zero =>
        intro n acc g hn hm hacc hg
        obtain ⟨n, rfl⟩ : ∃ j, n = j + 1 := ⟨n - 1, by omega⟩
        rw [mX5_can_19]
        dsimp only
        rw [if_pos (show nI 0 ≤ (0 : Int32) by decide), if_neg (bad_n hy (by omega)), if_neg (bad_n hx (by omega)), nI_clamp (by omega), nI_clamp (by omega), hg, upd_id hgx, updR_id rfl]
        have : acc = 2 * stf P 9 := by
          have : stf P 0 = 0 := rfl
          omega
        rw [this]
      | succ m ih =>
        intro n acc g hn hm hacc hg
        obtain ⟨n, rfl⟩ : ∃ j, n = j + 1 := ⟨n - 1, by omega⟩
        have hgg : ∀ z, updR (updR g y (upd (g y) x (nI (m + 1)))) y (upd ((updR g y (upd (g y) x (nI (m + 1)))) y) x z) = updR gS y (upd (gS y) x z) := fun z => by
          rw [updR_s, upd_upd, updR_updR, hg]
        have hw := wellZ_ (N := N) (f := upd f (y * W + x) (nI (m + 1))) (gS := updR g y (upd (g y) x (nI (m + 1)))) hN hD (hR.upd _ (show m + 1 ≤ 9 by omega)) (by rw [hg]; exact hZ.upd hx hy _) hA hB hUA hUD hx hy (by rw [upd_s]; exact nI_m1 _ (by omega))
        have hs := stf_add P m
        have hPm : (wsp (upd f (y * W + x) (nI (m + 1))) uA false W H (y * W + x) && wsp (upd f (y * W + x) (nI (m + 1))) uD true W H (y * W + x)) = P (m + 1) := by rw [hP]
        rw [hPm] at hw
        have hlt9 := stf_lt P 9
        have hp9 : 2 ^ (m + 1) ≤ 2 ^ 9 := Nat.pow_le_pow_right (by decide) (by omega)
        have e2 : 2 ^ (m + 1) = 2 * 2 ^ m := by rw [Nat.pow_succ, Nat.mul_comm]
        rw [mX5_can_19]
        dsimp only
        rw [if_neg (nI_nle (by omega) (by omega)), if_neg (bad_n hy (by omega)), if_neg (bad_n hx (by omega)), nI_clamp (show y < 2 ^ 31 by omega), nI_clamp (show x < 2 ^ 31 by omega), hw, Option.bind_some, bq, pk_m1, one_shl (m + 1) (by omega), nI_add]
        cases hp : P (m + 1)
        · rw [hp, if_neg (by decide)] at hs
          rw [if_neg (by decide)]
          exact ih n acc _ (by omega) (by omega) (by omega) hgg
        · rw [hp, if_pos rfl] at hs
          rw [if_pos rfl]
          exact ih n (acc + 2 ^ (m + 1)) _ (by omega) (by omega) (by omega) hgg
    have h := key 9 10 0 gS (by omega) (by omega) (by omega) (fun _ => rfl)
    exact h
  · rw [if_neg c, if_neg c]
    rfl
end SW
theorem many_u (N m : Nat) (p : Int32) : mX5_many_4 N p (m + 10) 0 1 = mX5_many_4 N p 10 0 1 := rfl
theorem many_m (N : Nat) (p : Int32) : ∀ n a b, mX5_many_4 N p n a b = mX5_many_4 0 p n a b := by
  intro n
  induction n with
  | zero => intros; rfl
  | succ n ih => intro a b; simp only [mX5_many_4, ih]
theorem many_d : ∀ x, x < 512 → mX5_many_4 0 (nI (2 * x)) 10 0 1 = some (nI (bcN 9 (2 * x))) := by decide +kernel
theorem many_n {N : Nat} (hN : 600 ≤ N) : ∀ x, x < 512 → mX5_many N (nI (2 * x)) = some (nI (bcN 9 (2 * x))) := by
  intro x hx
  obtain ⟨m, rfl⟩ : ∃ m, N = m + 10 := ⟨N - 10, by omega⟩
  rw [mX5_many, many_u, many_m, many_d x hx]
