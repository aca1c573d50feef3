/-! ===== in the end all is as by hand ===== -/
theorem line_in {W H : Nat} {f : RowI} {d : Bool} (hD : Dim W H) : ∀ n b j, (n = 0 ∨ (b < W * H ∧ fwd d W H b = n)) → j < (line f (stp d W) n b).length → b + j * stp d W < W * H := by
  intro n
  induction n with
  | zero => intro b j _ h; simp [line] at h
  | succ n ih =>
    intro b j hc h
    rcases hc with hc | ⟨hb, hf⟩
    · omega
    · rw [line_succ] at h
      split at h
      · simp at h
      · cases j with
        | zero => omega
        | succ j =>
          obtain ⟨_, _, _, _, _, _, _, h3⟩ := geo hD d hb
          by_cases hn : n = 0
          · subst hn; simp [line] at h
          · have h4 : b + stp d W < W * H ∧ fwd d W H (b + stp d W) = n := by
              have := h3
              omega
            have h5 := ih (b + stp d W) j (Or.inr h4) (by simpa using h)
            rw [Nat.succ_mul]
            omega
theorem cells_at {W H N : Nat} {f : RowI} {gS : RowR} {d : Bool} (hD : Dim W H) (hR : SR f) (hZ : RZ W H f gS) {k : Nat} (hk : k < W * H) {g : RowI} (hg : ∀ j, j < (ln f d W H (bg f d W k)).length → g j = nI (bg f d W k + j * stp d W)) : ∀ j v, (dg (ln f d W H (bg f d W k)))[j]? = some v → mX5_at N (nI W) W H gS (g j) = some (nI v) := by
  intro j v hj
  have hb : bg f d W k < W * H := bg_lt hk
  obtain ⟨h9, he⟩ := ln_dig (d := d) hD hR hb
  have hdl : (dg (ln f d W H (bg f d W k))).length = (ln f d W H (bg f d W k)).length := by unfold dg; rw [List.length_map]
  have hjl : j < (ln f d W H (bg f d W k)).length := by
    have := (List.getElem?_eq_some_iff.mp hj).1
    omega
  have e1 : (ln f d W H (bg f d W k))[j]? = some (nI v) := by
    rw [he, List.getElem?_map, hj]
    rfl
  have e2 := line_at _ _ _ _ e1
  have hc : bg f d W k + j * stp d W < W * H := line_in hD _ _ _ (Or.inr ⟨hb, rfl⟩) hjl
  rw [hg j hjl, at_z hD hZ hc, e2]
section SM
variable {N : Nat} {st : RowI} {cA cD : CS} {su : RowJ} {W H : Nat} {gS gA gD : RowR}
/-- the counts, by how far they are taken -/
def CTI (f uA uD : RowI) (W H k : Nat) (g : RowI) : Prop :=
  g 0 = nI (W * H) ∧ g 1 = nI W ∧ g 2 = nI (fb_ct (fun k => decide (f k ≠ -1)) k) ∧ g 3 = nI (fb_ct (fun k => decide (0 < f k)) k) ∧ g 4 = nI (fb_ct (bgn f false W) k + fb_ct (bgn f true W) k) ∧ g 5 = nI (fb_ct (smb f uA false W) k + fb_ct (smb f uD true W) k) ∧ g 6 = nI (fb_ct (wlb f uA false W H) k + fb_ct (wlb f uD true W H) k) ∧ g 7 = nI (fb_ct (hwc f uA uD W H 1) k) ∧ g 8 = nI (fb_ct (hwc f uA uD W H 0) k)
theorem CTI.get {f uA uD g : RowI} (h : CTI f uA uD W H (W * H) g) {v : Nat} (hv : v ≤ 8) : tal f uA uD W H (nI v) = g v := by
  obtain ⟨h0, h1, h2, h3, h4, h5, h6, h7, h8⟩ := h
  unfold tal
  rcases (by omega : v = 0 ∨ v = 1 ∨ v = 2 ∨ v = 3 ∨ v = 4 ∨ v = 5 ∨ v = 6 ∨ v = 7 ∨ v = 8) with rfl | rfl | rfl | rfl | rfl | rfl | rfl | rfl | rfl
  · rw [if_pos (by decide), h0]
  · rw [if_neg (by decide), if_pos (by decide), h1]
  · rw [if_neg (by decide), if_neg (by decide), if_pos (by decide), h2]
  · rw [if_neg (by decide), if_neg (by decide), if_neg (by decide), if_pos (by decide), h3]
  · rw [if_neg (by decide), if_neg (by decide), if_neg (by decide), if_neg (by decide), if_pos (by decide), h4]
  · rw [if_neg (by decide), if_neg (by decide), if_neg (by decide), if_neg (by decide), if_neg (by decide), if_pos (by decide), h5]
  · rw [if_neg (by decide), if_neg (by decide), if_neg (by decide), if_neg (by decide), if_neg (by decide), if_neg (by decide), if_pos (by decide), h6]
  · rw [if_neg (by decide), if_neg (by decide), if_neg (by decide), if_neg (by decide), if_neg (by decide), if_neg (by decide), if_neg (by decide), if_pos (by decide), h7]
  · rw [if_neg (by decide), if_neg (by decide), if_neg (by decide), if_neg (by decide), if_neg (by decide), if_neg (by decide), if_neg (by decide), if_neg (by decide), h8]
theorem sbq_le {f uA uD : RowI} : ∀ k, sbq f uA uD W H k ≤ 9 * fb_ct (hol f) k
  | 0 => Nat.zero_le _
  | k + 1 => by
    have h := sbq_le (f := f) (uA := uA) (uD := uD) k
    have hb := bq1_le f uA uD W H k
    rw [sbq]
    by_cases c : f k = 0
    · rw [ct_t (show hol f k = true from decide_eq_true c)]; omega
    · rw [ct_f (show hol f k = false from decide_eq_false c), bq1_no c]; omega
theorem same_602 (hN : 600 ≤ N) (hS : ST W H st cA cD su) {g : RowI} (hg : CTI st cA.1 cD.1 W H (W * H) g) : ∀ m n v, m < n → v + m = 9 → mX5_isSame_602 N st (nI W) (nI H) cA cD su (nI W) (nI H) W H gA gD n g (nI (fb_ct (hol st) (W * H))) (nI (sbq st cA.1 cD.1 W H (W * H))) (tg st cA.1 cD.1 W H (W * H) 0 (-1) 10) (nI v) gS = some (1, gS) := by
  have g36 := dim36 hS.1
  intro m
  induction m with
  | zero =>
    intro n v hn hv
    obtain ⟨n, rfl⟩ : ∃ j, n = j + 1 := ⟨n - 1, by omega⟩
    have hct : fb_ct (hol st) (W * H) ≤ W * H := fb_ct_le _ _
    have hsb := sbq_le (W := W) (H := H) (f := st) (uA := cA.1) (uD := cD.1) (W * H)
    rw [mX5_isSame_602]
    dsimp only
    rw [if_pos (show (9 : Int32) ≤ nI v by rw [show v = 9 by omega]; decide), a_next hN hS, Option.bind_some, if_pos rfl, a_mean hN hS, Option.bind_some]
    unfold mnv
    by_cases c : fb_ct (hol st) (W * H) = 0
    · rw [c, if_pos (show nI 0 = 0 from rfl), if_pos (show nI 0 = 0 from rfl), if_pos ⟨mean_0.1, mean_0.1⟩, if_pos mean_0.2]
    · obtain ⟨q1, q2⟩ := mean_d _ (show fb_ct (hol st) (W * H) < 37 by omega) c (sbq st cA.1 cD.1 W H (W * H)) (by omega)
      rw [if_neg (nI_ne0 (by omega) (by omega)), if_neg (nI_ne0 (by omega) (by omega)), if_pos ⟨q1, q1⟩, if_pos q2]
  | succ m ih =>
    intro n v hn hv
    obtain ⟨n, rfl⟩ : ∃ j, n = j + 1 := ⟨n - 1, by omega⟩
    rw [mX5_isSame_602]
    dsimp only
    rw [if_neg (show ¬ (9 : Int32) ≤ nI v from nI_ge (a := v) (b := 9) (by omega) (by omega)), a_count hN hS (show v ≤ 8 by omega)]
    dsimp only [Option.bind_some, Sum.elim_inr]
    rw [if_neg (bad_n (by omega) (by omega)), nI_clamp (by omega), hg.get (by omega), if_pos rfl, nI_1]
    exact ih n (v + 1) (by omega) (by omega)
/-- what is told of a corridor is as by hand -/
theorem same_387 (hN : 600 ≤ N) (hS : ST W H st cA cD su) (K70 : RowI → Int32 → Int32 → Int32 → Int32 → Int32 → RowR → Option (Int32 × RowR)) (K126 : RowI → Int32 → Int32 → Int32 → Int32 → Int32 → Int32 → Int32 → Int32 → RowR → Option (Int32 × RowR)) {k : Nat} (hk : k < W * H) (d : Bool) {t : RowI} (ht : ∀ v, v < 6 → tl st (uD2 cA.1 cD.1 d) d W H k (nI v) = t v) (g : RowI) (v3 v4 v5 v6 v8 v9 v10 : Int32) : ∀ m n v, m < n → v + m = 6 →
    mX5_isSame_387 N st (nI W) (nI H) cA cD su (nI W) (nI H) W H gA gD K70 K126 n t g v3 v4 v5 v6 (nI k) v8 v9 v10 (nI (dn d)) (nI v) gS = K126 g v3 v4 v5 v6 (nI k) v8 v9 (v10 + 1) gS := by
  intro m
  induction m with
  | zero =>
    intro n v hn hv
    obtain ⟨n, rfl⟩ : ∃ j, n = j + 1 := ⟨n - 1, by omega⟩
    rw [mX5_isSame_387]
    dsimp only
    rw [if_pos (show (6 : Int32) ≤ nI v by rw [show v = 6 by omega]; decide)]
  | succ m ih =>
    intro n v hn hv
    obtain ⟨n, rfl⟩ : ∃ j, n = j + 1 := ⟨n - 1, by omega⟩
    rw [mX5_isSame_387]
    dsimp only
    rw [if_neg (show ¬ (6 : Int32) ≤ nI v from nI_ge (a := v) (b := 6) (by omega) (by omega)), a_corr hN hS hk d (show v ≤ 5 by omega)]
    dsimp only [Option.bind_some, Sum.elim_inr]
    rw [if_neg (bad_n (by omega) (by omega)), nI_clamp (by omega), ht v (by omega), if_pos rfl, nI_1]
    exact ih n (v + 1) (by omega) (by omega)
/-- stones and their sum, over the cells of a corridor -/
theorem same_218 (hN : 600 ≤ N) (K70 : RowI → Int32 → Int32 → Int32 → Int32 → Int32 → RowR → Option (Int32 × RowR)) (K126 : RowI → Int32 → Int32 → Int32 → Int32 → Int32 → Int32 → Int32 → Int32 → RowR → Option (Int32 × RowR)) {L : Nat} {q : RowI} (hL6 : L ≤ 6) (g : RowI) (v3 v4 v5 v6 v7 v8 v9 v10 v11 : Int32) : ∀ (B : List Nat) n i x y, B.length < n → i + B.length = L → (∀ j v, B[j]? = some v → mX5_at N (nI W) W H gS (q (i + j)) = some (nI v)) → (∀ v ∈ B, v ≤ 9) →
    ∃ n', mX5_isSame_218 N st (nI W) (nI H) cA cD su (nI W) (nI H) W H gA gD K70 K126 n q L g v3 v4 v5 v6 v7 v8 v9 v10 v11 (nI x) (nI y) (nI L) (nI i) gS = mX5_isSame_218 N st (nI W) (nI H) cA cD su (nI W) (nI H) W H gA gD K70 K126 (n' + 1) q L g v3 v4 v5 v6 v7 v8 v9 v10 v11 (nI (x + nzc B)) (nI (y + smD B)) (nI L) (nI L) gS := by
  intro B
  induction B with
  | nil =>
    intro n i x y hn hi hg h9
    obtain ⟨n, rfl⟩ : ∃ j, n = j + 1 := ⟨n - 1, by simp at hn; omega⟩
    simp only [List.length_nil, Nat.add_zero] at hi
    subst hi
    exact ⟨n, rfl⟩
  | cons v B ih =>
    intro n i x y hn hi hg h9
    obtain ⟨n, rfl⟩ : ∃ j, n = j + 1 := ⟨n - 1, by simp at hn; omega⟩
    simp only [List.length_cons] at hn hi
    have h1 := h9 v List.mem_cons_self
    have hat := hg 0 v rfl
    rw [Nat.add_zero] at hat
    have hg' : ∀ j w, B[j]? = some w → mX5_at N (nI W) W H gS (q (i + 1 + j)) = some (nI w) := fun j w hj => by
      have := hg (j + 1) w (by simpa using hj)
      rw [show i + 1 + j = i + (j + 1) by omega]
      exact this
    rw [mX5_isSame_218]
    dsimp only
    rw [if_neg (nI_ge (by omega) (by omega)), if_neg (bad_n (by omega) (by omega)), nI_clamp (by omega), hat, Option.bind_some]
    by_cases v0 : v = 0
    · subst v0
      obtain ⟨n', e⟩ := ih n (i + 1) x y (by omega) (by omega) hg' (fun w hw => h9 w (List.mem_cons_of_mem _ hw))
      refine ⟨n', ?_⟩
      rw [if_pos (show nI 0 ≤ (0 : Int32) by decide), mX5_isSame_248, hat, Option.bind_some, nI_1, nI_add, show nI x + (0 : Int32) = nI x from nI_add x 0, Nat.add_zero, e, show nzc (0 :: B) = nzc B by rw [nzc, if_pos rfl]; omega, show smD (0 :: B) = smD B by show 0 + smD B = smD B; omega]
    · obtain ⟨n', e⟩ := ih n (i + 1) (x + 1) (y + v) (by omega) (by omega) hg' (fun w hw => h9 w (List.mem_cons_of_mem _ hw))
      refine ⟨n', ?_⟩
      rw [if_neg (nI_nle (by omega) (by omega)), mX5_isSame_248, hat, Option.bind_some, nI_1, nI_1, nI_add, e]
      have z1 : nzc (v :: B) = nzc B + 1 := by rw [nzc, if_neg v0]; omega
      have z2 : smD (v :: B) = v + smD B := rfl
      rw [z1, z2, show x + 1 + nzc B = x + (nzc B + 1) by omega, Nat.add_assoc]
def oneb (b : Bool) : Int32 := if b = true then 1 else 0
theorem t_0 : (0 : Int32).toNatClampNeg = 0 := rfl
theorem t_1 : (1 : Int32).toNatClampNeg = 1 := rfl
theorem t_2 : (2 : Int32).toNatClampNeg = 2 := rfl
theorem t_3 : (3 : Int32).toNatClampNeg = 3 := rfl
theorem t_4 : (4 : Int32).toNatClampNeg = 4 := rfl
theorem t_5 : (5 : Int32).toNatClampNeg = 5 := rfl
theorem t_6 : (6 : Int32).toNatClampNeg = 6 := rfl
theorem t_7 : (7 : Int32).toNatClampNeg = 7 := rfl
theorem t_8 : (8 : Int32).toNatClampNeg = 8 := rfl
theorem tl_c {f u : RowI} {d : Bool} {k : Nat} (ho : f k ≠ -1) {a0 a1 a2 a3 a4 a5 : Int32} (h0 : a0 = nI (bg f d W k)) (h1 : a1 = nI (ln f d W H (bg f d W k)).length) (h2 : a2 = u (bg f d W k)) (h3 : a3 = nI (nzc (dg (ln f d W H (bg f d W k))))) (h4 : a4 = nI (smD (dg (ln f d W H (bg f d W k))))) (h5 : a5 = if wsp f u d W H k = true then 1 else 0) : ∀ v, v < 6 → tl f u d W H k (nI v) = (upd (upd (upd (upd (upd (upd (fun _ => 0) 0 a0) 1 a1) 2 a2) 3 a3) 4 a4) 5 a5) v := by
  intro v hv
  have hdl : (dg (ln f d W H (bg f d W k))).length = (ln f d W H (bg f d W k)).length := by unfold dg; rw [List.length_map]
  unfold tl
  rw [if_neg ho]
  rcases (by omega : v = 0 ∨ v = 1 ∨ v = 2 ∨ v = 3 ∨ v = 4 ∨ v = 5) with rfl | rfl | rfl | rfl | rfl | rfl
  · rw [if_pos (by decide), ← h0]; rfl
  · rw [if_neg (by decide), if_pos (by decide), hdl, ← h1]; rfl
  · rw [if_neg (by decide), if_neg (by decide), if_pos (by decide), ← h2]; rfl
  · rw [if_neg (by decide), if_neg (by decide), if_neg (by decide), if_pos (by decide), ← h3]; rfl
  · rw [if_neg (by decide), if_neg (by decide), if_neg (by decide), if_neg (by decide), if_pos (by decide), ← h4]; rfl
  · rw [if_neg (by decide), if_neg (by decide), if_neg (by decide), if_neg (by decide), if_neg (by decide), ← h5]; rfl
/-- one way of one cell -/
theorem same_143 (hN : 600 ≤ N) (hS : ST W H st cA cD su) (hZ : RZ W H st gS) (hA : RZ W H cA.1 gA) (hB : RZ W H cD.1 gD) (K70 : RowI → Int32 → Int32 → Int32 → Int32 → Int32 → RowR → Option (Int32 × RowR)) (K126 : RowI → Int32 → Int32 → Int32 → Int32 → Int32 → Int32 → Int32 → Int32 → RowR → Option (Int32 × RowR)) {k : Nat} (hk : k < W * H) (d : Bool) (g : RowI) (v3 v4 v5 v6 v10 : Int32) :
    ∃ g', mX5_isSame_143 N st (nI W) (nI H) cA cD su (nI W) (nI H) W H gA gD K70 K126 g v3 v4 v5 v6 (nI k) (nI (k % W)) (nI (k / W)) v10 (nI (dn d)) gS = K126 g' v3 v4 v5 v6 (nI k) (nI (k % W)) (nI (k / W)) (v10 + 1) gS ∧ (∀ j, j ≠ 4 → j ≠ 5 → j ≠ 6 → g' j = g j) ∧ g' 4 = g 4 + oneb (bgn st d W k) ∧ g' 5 = g 5 + oneb (smb st (uD2 cA.1 cD.1 d) d W k) ∧ g' 6 = g 6 + oneb (wlb st (uD2 cA.1 cD.1 d) d W H k) := by
  have hD := hS.1
  have w2 := hD.1
  have w6 := hD.2.1
  have h6 := hD.2.2.2
  have g36 := dim36 hD
  obtain ⟨d1, d2, d3⟩ := dm_lt hD hk
  obtain ⟨n1, n2⟩ := st_neg hS hk
  have i0 : ∀ x : Int32, x + 0 = x := fun x => Int32.add_zero x
  rw [mX5_isSame_143, if_neg (show ¬ bad (0 : Int32) 6 by decide), if_neg (show ¬ bad (1 : Int32) 6 by decide), if_neg (show ¬ bad (2 : Int32) 6 by decide), if_neg (show ¬ bad (3 : Int32) 6 by decide), if_neg (show ¬ bad (4 : Int32) 6 by decide), if_neg (show ¬ bad (5 : Int32) 6 by decide), if_neg (bad_n d1 (by omega)), if_neg (bad_n d2 (by omega)), nI_clamp (by omega), nI_clamp (by omega), hZ _ _ d1 d2, d3]
  by_cases c : st k = -1
  · have hb : bgn st d W k = false := by unfold bgn; rw [decide_eq_false (fun q => q c)]; rfl
    have hs : smb st (uD2 cA.1 cD.1 d) d W k = false := by unfold smb; rw [hb]; rfl
    have hw : wlb st (uD2 cA.1 cD.1 d) d W H k = false := by unfold wlb; rw [hb]; rfl
    rw [if_pos (n1.mpr c), hb, hs, hw]
    refine ⟨g, same_387 (gA := gA) (gD := gD) (gS := gS) hN hS K70 K126 hk d (fun v hv => ?_) g v3 v4 v5 v6 _ _ v10 6 7 0 (by omega) (by omega), fun _ _ _ _ => rfl, (i0 _).symm, (i0 _).symm, (i0 _).symm⟩
    unfold tl
    rw [if_pos c]
    rcases (by omega : v = 0 ∨ v = 1 ∨ v = 2 ∨ v = 3 ∨ v = 4 ∨ v = 5) with rfl | rfl | rfl | rfl | rfl | rfl <;> rfl
  · obtain ⟨q, hc, hq⟩ := corr_n (N := N) hN hD hZ hS.2.1 d d2 d1 (by rw [d3]; exact c)
    rw [d3] at hc hq
    obtain ⟨l1, l6⟩ := len_pos (d := d) hD hk c
    have hU : UR (uD2 cA.1 cD.1 d) := by cases d; exact hS.2.2.2.2.1; exact hS.2.2.2.2.2.1
    have hwz := wellZ hN hD hS.2.1 hZ hA hB d hU hk c hq
    have hat := cells_at (N := N) (d := d) hD hS.2.1 hZ hk hq
    have hb : bg st d W k < W * H := bg_lt hk
    obtain ⟨h9, he⟩ := ln_dig (d := d) hD hS.2.1 hb
    have hdl : (dg (ln st d W H (bg st d W k))).length = (ln st d W H (bg st d W k)).length := by unfold dg; rw [List.length_map]
    obtain ⟨n', e⟩ := same_218 (N := N) (st := st) (cA := cA) (cD := cD) (su := su) (W := W) (H := H) (gS := gS) (gA := gA) (gD := gD) hN K70 K126 (q := q) l6 g v3 v4 v5 v6 (nI k) (nI (k % W)) (nI (k / W)) v10 (nI (dn d)) (dg (ln st d W H (bg st d W k))) N 0 0 0 (by omega) (by omega) (fun j v hj => by rw [Nat.zero_add]; exact hat j v hj) h9
    have e : mX5_isSame_218 N st (nI W) (nI H) cA cD su (nI W) (nI H) W H gA gD K70 K126 N q _ g v3 v4 v5 v6 (nI k) (nI (k % W)) (nI (k / W)) v10 (nI (dn d)) (0 : Int32) (0 : Int32) _ (0 : Int32) gS = _ := e
    have q0 : q 0 = nI (bg st d W k) := by rw [hq 0 (by omega), Nat.zero_mul, Nat.add_zero]
    have b0 : ¬ bad (0 : Int32) (ln st d W H (bg st d W k)).length := bad_n (k := 0) (by omega) (by omega)
    have hsum := sumAt_z (N := N) hD hA hB d hb
    obtain ⟨s, hs45, hus⟩ := hU _ (show bg st d W k < 36 by omega)
    rw [if_neg (fun z => c (n1.mp z)), hc, Option.bind_some]
    dsimp only
    rw [e, mX5_isSame_218]
    dsimp only
    rw [if_pos (nI_le (Nat.le_refl _) (by omega)), hwz, Option.bind_some, if_neg b0, if_neg (show ¬ bad (0 : Int32) 6 by decide), if_neg (show ¬ bad (1 : Int32) 6 by decide), if_neg b0]
    simp only [t_0, t_1, t_2, t_3, t_4, t_5]
    rw [q0, hsum, Option.bind_some, if_neg (show ¬ bad (2 : Int32) 6 by decide), if_neg (show ¬ bad (3 : Int32) 6 by decide), if_neg (show ¬ bad (4 : Int32) 6 by decide), if_neg (show ¬ bad (5 : Int32) 6 by decide), if_neg (show ¬ bad (5 : Int32) 6 by decide), if_neg b0, if_neg b0]
    simp only [Nat.zero_add]
    have hbg : (nI (bg st d W k) = nI k) ↔ bg st d W k = k := nI_eq (by omega) (by omega)
    -- what is told, and the counts behind it
    have fin : ∀ w : Int32, w = (if wsp st (uD2 cA.1 cD.1 d) d W H k = true then 1 else 0) →
        ∃ g', (if nI (bg st d W k) = nI k then
          (if bad (4 : Int32) 9 then none else
          (if bad (4 : Int32) 9 then none else
          (if bad (5 : Int32) 9 then none else
          (if bad (2 : Int32) 6 then none else
          (if ((upd (upd (upd (upd (upd (upd (fun _ => 0) 0 (nI (bg st d W k))) 1 (nI (ln st d W H (bg st d W k)).length)) 2 (uD2 cA.1 cD.1 d (bg st d W k))) 3 (nI (nzc (dg (ln st d W H (bg st d W k)))))) 4 (nI (smD (dg (ln st d W H (bg st d W k)))))) 5 w) 2) ≤ 0 then
          (mX5_isSame_365 N st (nI W) (nI H) cA cD su (nI W) (nI H) W H gA gD K70 K126 (upd (upd (upd (upd (upd (upd (fun _ => 0) 0 (nI (bg st d W k))) 1 (nI (ln st d W H (bg st d W k)).length)) 2 (uD2 cA.1 cD.1 d (bg st d W k))) 3 (nI (nzc (dg (ln st d W H (bg st d W k)))))) 4 (nI (smD (dg (ln st d W H (bg st d W k)))))) 5 w) (upd g 4 (g 4 + (1 : Int32))) v3 v4 v5 v6 (nI k) (nI (k % W)) (nI (k / W)) v10 (nI (dn d)) w (0 : Int32) ((upd g 4 (g 4 + (1 : Int32))) 5) (5 : Int32) gS)
          else
          (mX5_isSame_365 N st (nI W) (nI H) cA cD su (nI W) (nI H) W H gA gD K70 K126 (upd (upd (upd (upd (upd (upd (fun _ => 0) 0 (nI (bg st d W k))) 1 (nI (ln st d W H (bg st d W k)).length)) 2 (uD2 cA.1 cD.1 d (bg st d W k))) 3 (nI (nzc (dg (ln st d W H (bg st d W k)))))) 4 (nI (smD (dg (ln st d W H (bg st d W k)))))) 5 w) (upd g 4 (g 4 + (1 : Int32))) v3 v4 v5 v6 (nI k) (nI (k % W)) (nI (k / W)) v10 (nI (dn d)) w (1 : Int32) ((upd g 4 (g 4 + (1 : Int32))) 5) (5 : Int32) gS))))))
          else
          (mX5_isSame_387 N st (nI W) (nI H) cA cD su (nI W) (nI H) W H gA gD K70 K126 7 (upd (upd (upd (upd (upd (upd (fun _ => 0) 0 (nI (bg st d W k))) 1 (nI (ln st d W H (bg st d W k)).length)) 2 (uD2 cA.1 cD.1 d (bg st d W k))) 3 (nI (nzc (dg (ln st d W H (bg st d W k)))))) 4 (nI (smD (dg (ln st d W H (bg st d W k)))))) 5 w) g v3 v4 v5 v6 (nI k) (nI (k % W)) (nI (k / W)) v10 (nI (dn d)) (0 : Int32) gS)) = K126 g' v3 v4 v5 v6 (nI k) (nI (k % W)) (nI (k / W)) (v10 + 1) gS ∧ (∀ j, j ≠ 4 → j ≠ 5 → j ≠ 6 → g' j = g j) ∧ g' 4 = g 4 + oneb (bgn st d W k) ∧ g' 5 = g 5 + oneb (smb st (uD2 cA.1 cD.1 d) d W k) ∧ g' 6 = g 6 + oneb (wlb st (uD2 cA.1 cD.1 d) d W H k) := by
      intro w hw
      have htold := tl_c (W := W) (H := H) (f := st) (u := uD2 cA.1 cD.1 d) (d := d) (k := k) c rfl rfl rfl rfl rfl hw
      have s387 := fun g9 => same_387 (gA := gA) (gD := gD) (gS := gS) hN hS K70 K126 hk d htold g9 v3 v4 v5 v6 (nI (k % W)) (nI (k / W)) v10 6 7 0 (by omega) (by omega)
      by_cases cb : bg st d W k = k
      · have hbt : bgn st d W k = true := bgn_t.mpr ⟨c, cb⟩
        have s365 : ∀ y : Int32, mX5_isSame_365 N st (nI W) (nI H) cA cD su (nI W) (nI H) W H gA gD K70 K126 (upd (upd (upd (upd (upd (upd (fun _ => 0) 0 (nI (bg st d W k))) 1 (nI (ln st d W H (bg st d W k)).length)) 2 (uD2 cA.1 cD.1 d (bg st d W k))) 3 (nI (nzc (dg (ln st d W H (bg st d W k)))))) 4 (nI (smD (dg (ln st d W H (bg st d W k)))))) 5 w) (upd g 4 (g 4 + (1 : Int32))) v3 v4 v5 v6 (nI k) (nI (k % W)) (nI (k / W)) v10 (nI (dn d)) w y ((upd g 4 (g 4 + (1 : Int32))) 5) (5 : Int32) gS = K126 (upd (upd (upd g 4 (g 4 + (1 : Int32))) 5 (g 5 + y)) 6 (g 6 + oneb (wsp st (uD2 cA.1 cD.1 d) d W H k))) v3 v4 v5 v6 (nI k) (nI (k % W)) (nI (k / W)) (v10 + 1) gS := by
          intro y
          rw [mX5_isSame_365, if_neg (show ¬ bad (5 : Int32) 9 by decide), if_neg (show ¬ bad (6 : Int32) 9 by decide), if_neg (show ¬ bad (6 : Int32) 9 by decide), if_neg (show ¬ bad (6 : Int32) 9 by decide), t_5, t_6]
          have u5 : (upd g 4 (g 4 + (1 : Int32))) 5 = g 5 := upd_n (by omega)
          have u6 : (upd (upd g 4 (g 4 + (1 : Int32))) 5 (g 5 + y)) 6 = g 6 := by rw [upd_n (by omega), upd_n (by omega)]
          rw [u5, u6]
          unfold oneb
          cases hwb : wsp st (uD2 cA.1 cD.1 d) d W H k
          · rw [hwb, if_neg (by decide)] at hw
            rw [if_pos hw, if_neg (by decide)]
            exact s387 _
          · rw [hwb, if_pos rfl] at hw
            rw [if_neg (by rw [hw]; decide), if_pos rfl]
            exact s387 _
        have hw6 : wlb st (uD2 cA.1 cD.1 d) d W H k = wsp st (uD2 cA.1 cD.1 d) d W H k := by unfold wlb; rw [hbt, Bool.true_and]
        rw [if_pos (hbg.mpr cb), if_neg (show ¬ bad (4 : Int32) 9 by decide), if_neg (show ¬ bad (4 : Int32) 9 by decide), if_neg (show ¬ bad (5 : Int32) 9 by decide), if_neg (show ¬ bad (2 : Int32) 6 by decide), s365, s365, hbt, hw6]
        have r2 : ((upd (upd (upd (upd (upd (upd (fun _ => 0) 0 (nI (bg st d W k))) 1 (nI (ln st d W H (bg st d W k)).length)) 2 (uD2 cA.1 cD.1 d (bg st d W k))) 3 (nI (nzc (dg (ln st d W H (bg st d W k)))))) 4 (nI (smD (dg (ln st d W H (bg st d W k)))))) 5 w) 2) = uD2 cA.1 cD.1 d k := by
          rw [upd_n (by omega), upd_n (by omega), upd_n (by omega), upd_s, cb]
        have es : smb st (uD2 cA.1 cD.1 d) d W k = decide (0 < uD2 cA.1 cD.1 d k) := by unfold smb; rw [hbt, Bool.true_and]
        rw [r2, es]
        by_cases cs : 0 < uD2 cA.1 cD.1 d k
        · rw [if_neg (Int32.not_le.mpr cs), decide_eq_true cs]
          exact ⟨_, rfl, fun j h4 h5 h6 => by rw [upd_n h6, upd_n h5, upd_n h4], by rw [upd_n (by omega), upd_n (by omega), upd_s]; rfl, by rw [upd_n (by omega), upd_s]; rfl, by rw [upd_s]⟩
        · rw [if_pos (Int32.not_lt.mp cs), decide_eq_false cs]
          exact ⟨_, rfl, fun j h4 h5 h6 => by rw [upd_n h6, upd_n h5, upd_n h4], by rw [upd_n (by omega), upd_n (by omega), upd_s]; rfl, by rw [upd_n (by omega), upd_s]; rfl, by rw [upd_s]⟩
      · have hbf : bgn st d W k = false := by unfold bgn; rw [decide_eq_false cb, Bool.and_false]
        have hs : smb st (uD2 cA.1 cD.1 d) d W k = false := by unfold smb; rw [hbf]; rfl
        have hw : wlb st (uD2 cA.1 cD.1 d) d W H k = false := by unfold wlb; rw [hbf]; rfl
        rw [if_neg (fun z => cb (hbg.mp z)), hbf, hs, hw]
        exact ⟨g, s387 g, fun _ _ _ _ => rfl, (i0 _).symm, (i0 _).symm, (i0 _).symm⟩
    cases hwb : wsp st (uD2 cA.1 cD.1 d) d W H k
    · rw [if_neg (show ¬ (false = true) by decide), if_pos rfl]
      rw [hwb] at fin
      exact fin 0 rfl
    · rw [if_pos rfl, if_neg (show ¬ (1 : Int32) = 0 by decide)]
      rw [hwb] at fin
      exact fin 1 rfl
end SM
