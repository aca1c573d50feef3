/-! ===== the law's floor: forcing ===== -/
theorem one_b : ∀ x, x < 512 → bcN 9 (2 * x) = 1 → 2 * x = 2 ^ loN (2 * x) ∧ 1 ≤ loN (2 * x) ∧ loN (2 * x) ≤ 9 := by decide +kernel
theorem frc_c {uA uD : RowI} {W H : Nat} : ∀ n c j f, frc uA uD W H n (c + j) f = ((frc uA uD W H n c f).1 + j, (frc uA uD W H n c f).2)
  | 0, c, j, f => rfl
  | n + 1, c, j, f => by
    rw [frc, frc]
    cases sgl f uA uD W H (W * H) 0 with
    | none => rfl
    | some k =>
      show frc uA uD W H n (c + j + 1) _ = _
      rw [show c + j + 1 = (c + 1) + j by omega, frc_c n (c + 1) j]
section SF
variable {W H N : Nat} {uA uD : RowI} {gA gD : RowR}
theorem force_45 (hD : Dim W H) {f : RowI} {gS : RowR} (hZ : RZ W H f gS) {k v : Nat} (hk : k < W * H) (h1 : 1 ≤ v) (h9 : v ≤ 9) (R : Int32 → Int32 → Nat → Nat → RowR → RowR → RowR → Option (Int32 × RowR)) :
    ∃ g, RZ W H (upd f k (nI v)) g ∧ ∀ n, 10 ≤ n → mX5_force_45 N R (nI W) (nI H) W H gA gD n (nI k) (nI (2 ^ v)) 1 gS = (R (nI W) (nI H) W H g gA gD).bind fun x => some ((1 : Int32) + x.1, x.2) := by
  have w2 := hD.1
  have w6 := hD.2.1
  have h6 := hD.2.2.2
  have g36 := dim36 hD
  obtain ⟨d1, d2, d3⟩ := dm_lt hD hk
  have e0 : ¬ nI W = 0 := nI_ne0 (by omega) (by omega)
  refine ⟨updR gS (k / W) (upd (gS (k / W)) (k % W) (nI v)), ?_, ?_⟩
  · have := hZ.upd d2 d1 (nI v)
    rw [d3] at this
    exact this
  · have key : ∀ m n j g, m < n → j + m = 10 → 1 ≤ j → (j ≤ v → g = gS) → (v < j → g = updR gS (k / W) (upd (gS (k / W)) (k % W) (nI v))) → mX5_force_45 N R (nI W) (nI H) W H gA gD n (nI k) (nI (2 ^ v)) (nI j) g = (R (nI W) (nI H) W H (updR gS (k / W) (upd (gS (k / W)) (k % W) (nI v))) gA gD).bind fun x => some ((1 : Int32) + x.1, x.2) := by
      intro m
      induction m with
      | zero =>
        intro n j g hn hj h1j ha hb
        obtain ⟨n, rfl⟩ : ∃ i, n = i + 1 := ⟨n - 1, by omega⟩
        rw [mX5_force_45]
        dsimp only
        rw [if_pos (show (10 : Int32) ≤ nI j by rw [show j = 10 by omega]; decide), hb (by omega)]
      | succ m ih =>
        intro n j g hn hj h1j ha hb
        obtain ⟨n, rfl⟩ : ∃ i, n = i + 1 := ⟨n - 1, by omega⟩
        have hj10 : ¬ (10 : Int32) ≤ nI j := nI_ge (b := 10) (by omega) (by omega)
        have p1 : 2 ^ v < 2 ^ 31 := Nat.pow_lt_pow_right (by decide) (by omega)
        have p2 : 2 ^ j < 2 ^ 31 := Nat.pow_lt_pow_right (by decide) (by omega)
        rw [mX5_force_45]
        dsimp only
        rw [if_neg hj10, one_shl j (by omega), nI_1]
        by_cases c : v = j
        · subst c
          rw [if_pos rfl, if_neg e0, if_neg e0, pk_rem (by omega) (by omega) (by omega), pk_div (by omega) (by omega) (by omega), if_neg (bad_n d1 (by omega)), if_neg (bad_n d2 (by omega)), nI_clamp (by omega), nI_clamp (by omega), ha (Nat.le_refl _)]
          exact ih n (v + 1) _ (by omega) (by omega) (by omega) (fun q => absurd q (by omega)) (fun _ => rfl)
        · rw [if_neg (fun q => by
            have e := (nI_eq p1 p2).mp q
            rcases Nat.lt_or_gt_of_ne c with r | r
            · have := Nat.pow_lt_pow_right (a := 2) (by decide) r
              omega
            · have := Nat.pow_lt_pow_right (a := 2) (by decide) r
              omega)]
          exact ih n (j + 1) g (by omega) (by omega) (by omega) (fun q => ha (by omega)) (fun q => hb (by omega))
    intro n hn
    exact key 9 n 1 gS (by omega) (by omega) (by omega) (fun _ => rfl) (fun q => absurd q (by omega))
theorem forceZ (hN : 600 ≤ N) (hD : Dim W H) (hA : RZ W H uA gA) (hB : RZ W H uD gD) (hUA : UR uA) (hUD : UR uD) : ∀ m d f gS, zrs f ≤ m → m < d → SR f → RZ W H f gS → ∃ gS', mX5_force N d (nI W) (nI H) W H gS gA gD = some (nI (frc uA uD W H m 0 f).1, gS') ∧ RZ W H (frc uA uD W H m 0 f).2 gS' := by
  have w2 := hD.1
  have w6 := hD.2.1
  have h6 := hD.2.2.2
  have g36 := dim36 hD
  have e0 : ¬ nI W = 0 := nI_ne0 (by omega) (by omega)
  intro m
  induction m with
  | zero =>
    intro d f gS hz hd hR hZ
    obtain ⟨d, rfl⟩ : ∃ i, d = i + 1 := ⟨d - 1, by omega⟩
    have hno : sgl f uA uD W H (W * H) 0 = none := by
      cases hs : sgl f uA uD W H (W * H) 0 with
      | none => rfl
      | some k =>
        obtain ⟨h1, h2, _⟩ := sgl_lay hs
        have h := fb_ct_zero.mp (show fb_ct (hol f) 36 = 0 by unfold zrs at hz; omega) k (by omega)
        exact absurd h2 (of_decide_eq_false h)
    refine ⟨gS, ?_, hZ⟩
    have key : ∀ i n k, i < n → k + i = W * H → sgl f uA uD W H i k = none → mX5_force_2 N (mX5_force N d) (nI W) (nI H) W H gA gD n (nI k) gS = some (0, gS) := by
      intro i
      induction i with
      | zero =>
        intro n k hn hk hs
        obtain ⟨n, rfl⟩ : ∃ i, n = i + 1 := ⟨n - 1, by omega⟩
        rw [mX5_force_2]
        dsimp only
        rw [pk_mul, if_pos (nI_le (by omega) (by omega))]
      | succ i ih =>
        intro n k hn hk hs
        obtain ⟨n, rfl⟩ : ∃ i, n = i + 1 := ⟨n - 1, by omega⟩
        obtain ⟨d1, d2, d3⟩ := dm_lt hD (show k < W * H by omega)
        have hb := bq1_le f uA uD W H k
        have hc := canZ (x := k % W) (y := k / W) hN hD hR hZ hA hB hUA hUD d2 d1
        rw [d3] at hc
        rw [sgl] at hs
        have hb1 : bq1 f uA uD W H k ≠ 1 := fun q => by rw [if_pos q] at hs; cases hs
        rw [if_neg hb1] at hs
        rw [mX5_force_2]
        dsimp only
        rw [pk_mul, if_neg (nI_ge (by omega) (by omega)), if_neg e0, if_neg e0, pk_rem (by omega) (by omega) (by omega), pk_div (by omega) (by omega) (by omega), hc, Option.bind_some]
        dsimp only
        rw [many_n hN _ (cn_lt _ _ _ _ _ _), Option.bind_some, if_neg (show ¬ nI (bcN 9 (2 * cn f uA uD W H k)) = (1 : Int32) from fun q => hb1 ((nI_eq (a := bq1 f uA uD W H k) (b := 1) (by omega) (by omega)).mp q)), nI_1]
        exact ih n (k + 1) (by omega) (by omega) hs
    rw [mX5_force]
    exact key (W * H) 37 0 (by omega) (by omega) hno
  | succ m ihm =>
    intro d f gS hz hd hR hZ
    obtain ⟨d, rfl⟩ : ∃ i, d = i + 1 := ⟨d - 1, by omega⟩
    have key : ∀ i n k, i < n → k + i = W * H → sgl f uA uD W H (W * H) 0 = sgl f uA uD W H i k → ∃ gS', mX5_force_2 N (mX5_force N d) (nI W) (nI H) W H gA gD n (nI k) gS = some (nI (frc uA uD W H (m + 1) 0 f).1, gS') ∧ RZ W H (frc uA uD W H (m + 1) 0 f).2 gS' := by
      intro i
      induction i with
      | zero =>
        intro n k hn hk hs
        obtain ⟨n, rfl⟩ : ∃ i, n = i + 1 := ⟨n - 1, by omega⟩
        rw [mX5_force_2]
        dsimp only
        rw [pk_mul, if_pos (nI_le (by omega) (by omega)), frc, hs]
        exact ⟨gS, rfl, hZ⟩
      | succ i ih =>
        intro n k hn hk hs
        obtain ⟨n, rfl⟩ : ∃ i, n = i + 1 := ⟨n - 1, by omega⟩
        obtain ⟨d1, d2, d3⟩ := dm_lt hD (show k < W * H by omega)
        have hb := bq1_le f uA uD W H k
        have hc := canZ (x := k % W) (y := k / W) hN hD hR hZ hA hB hUA hUD d2 d1
        rw [d3] at hc
        rw [mX5_force_2]
        dsimp only
        rw [pk_mul, if_neg (nI_ge (by omega) (by omega)), if_neg e0, if_neg e0, pk_rem (by omega) (by omega) (by omega), pk_div (by omega) (by omega) (by omega), hc, Option.bind_some]
        dsimp only
        rw [many_n hN _ (cn_lt _ _ _ _ _ _), Option.bind_some, nI_1]
        by_cases c : bq1 f uA uD W H k = 1
        · have hs2 : sgl f uA uD W H (W * H) 0 = some k := by rw [hs, sgl, if_pos c]
          obtain ⟨q1, q2, q3, q4, q5, q6⟩ := sgl_lay hs2
          obtain ⟨b1, _, _⟩ := one_b _ q3 c
          obtain ⟨g, hg, he⟩ := force_45 (N := N) (gA := gA) (gD := gD) hD hZ q1 q5 q6 (mX5_force N d)
          have hz' := zrs_upd (f := f) (k := k) (by omega) q2 (x := nI (loN (2 * cn f uA uD W H k))) (nI_ne0 (by omega) (by omega))
          obtain ⟨g', r1, r2⟩ := ihm d (upd f k (nI (loN (2 * cn f uA uD W H k)))) g (by omega) (by omega) (hR.upd k q6) hg
          rw [if_pos (show nI (bcN 9 (2 * cn f uA uD W H k)) = (1 : Int32) by rw [show bcN 9 (2 * cn f uA uD W H k) = 1 from c]; rfl)]
          have he2 := he N (by omega)
          rw [← b1] at he2
          rw [he2, r1, Option.bind_some, frc, hs2]
          dsimp only
          rw [frc_c m 0 1]
          refine ⟨g', ?_, r2⟩
          dsimp only
          rw [show (1 : Int32) + nI (frc uA uD W H m 0 (upd f k (nI (loN (2 * cn f uA uD W H k))))).1 = nI (1 + (frc uA uD W H m 0 (upd f k (nI (loN (2 * cn f uA uD W H k))))).1) from nI_add 1 _, Nat.add_comm]
        · rw [if_neg (show ¬ nI (bcN 9 (2 * cn f uA uD W H k)) = (1 : Int32) from fun q => c ((nI_eq (b := 1) (by show bq1 f uA uD W H k < _; omega) (by omega)).mp q))]
          exact ih n (k + 1) (by omega) (by omega) (by rw [hs, sgl, if_neg c])
    rw [mX5_force]
    exact key (W * H) 37 0 (by omega) (by omega) rfl
end SF
