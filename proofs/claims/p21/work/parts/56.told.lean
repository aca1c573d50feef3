/-! ===== what is told of a corridor; whether all is well ===== -/
def tl (f u : RowI) (d : Bool) (W H k : Nat) (what : Int32) : Int32 :=
  if f k = -1 then -1 else if what = 0 then nI (bg f d W k) else if what = 1 then nI (dg (ln f d W H (bg f d W k))).length else if what = 2 then u (bg f d W k) else if what = 3 then nI (nzc (dg (ln f d W H (bg f d W k)))) else if what = 4 then nI (smD (dg (ln f d W H (bg f d W k)))) else if wsp f u d W H k = true then 1 else 0
theorem wsp_bg {W H : Nat} {f u : RowI} {d : Bool} (hD : Dim W H) {k : Nat} (hk : k < W * H) : wsp f u d W H (bg f d W k) = wsp f u d W H k := by
  unfold wsp
  rw [bg_bg hD k hk]
section TL
variable {W H : Nat} {f : RowI} {d : Bool} {N : Nat}
theorem bit_bind {b : Bool} : ((some (if b = true then (1 : Int32) else 0)).bind fun x => if x = 0 then some (0 : Int32) else some (1 : Int32)) = some (if b = true then 1 else 0) := by cases b <;> rfl
theorem tell_n (hD : Dim W H) (hN : 600 ≤ N) {cs : CS} {su : RowJ} (hR : SR f) (hJ : JI d W H f (W * H) cs) (hU : UR cs.1) (hT : TBto 512 su) {k : Nat} (hk : k < W * H) (what : Int32) : mX0_tell N f cs su (nI k) what = some (tl f cs.1 d W H k what) := by
  have g36 := dim36 hD
  unfold tl
  rw [mX0_tell, rd_n (by omega), hJ.2.1 k hk]
  by_cases c : f k = -1
  · rw [if_pos c, if_pos rfl, if_pos c]
  · have hb : bg f d W k < W * H := bg_lt hk
    have hbo := bg_open (d := d) hD k hk c
    have hbb := bg_bg (f := f) (d := d) hD k hk
    obtain ⟨h1, h6, hz⟩ := look_at hD hN hR hJ hb hbo hbb
    rw [if_neg c, if_neg (nI_m1 _ (by omega)), if_neg c, h1, Option.bind_some, rd_n (by omega), rd_n (by omega), hz, isWellFrom_n hD hN hR hJ hU hT hb hbo hbb, wsp_bg hD hk, bit_bind]
    by_cases w0 : what = 0
    · rw [if_pos w0, if_pos w0]
    · rw [if_neg w0, if_neg w0]
      by_cases w1 : what = 1
      · rw [if_pos w1, if_pos w1]
      · rw [if_neg w1, if_neg w1]
        by_cases w2 : what = 2
        · rw [if_pos w2, if_pos w2]
        · rw [if_neg w2, if_neg w2]
          by_cases w3 : what = 3
          · rw [if_pos w3, if_pos w3]
          · rw [if_neg w3, if_neg w3]
            by_cases w4 : what = 4
            · rw [if_pos w4, if_pos w4]
            · rw [if_neg w4, if_neg w4]
end TL
/-! ===== counts ===== -/
def bgn (f : RowI) (d : Bool) (W k : Nat) : Bool := decide (f k ≠ -1) && decide (bg f d W k = k)
theorem bgn_t {f : RowI} {d : Bool} {W k : Nat} : bgn f d W k = true ↔ f k ≠ -1 ∧ bg f d W k = k := by unfold bgn; rw [Bool.and_eq_true, decide_eq_true_iff, decide_eq_true_iff]
theorem ct_t {P : Nat → Bool} {k : Nat} (h : P k = true) : fb_ct P (k + 1) = fb_ct P k + 1 := by rw [fb_ct_succ, h]; rfl
theorem ct_f {P : Nat → Bool} {k : Nat} (h : P k = false) : fb_ct P (k + 1) = fb_ct P k := by rw [fb_ct_succ, h]; rfl
/-- a loop that counts: one turn -/
theorem ct_loop {α : Type} (L : Nat → Int32 → Int32 → Option α) (P : Nat → Bool) (M : Nat) (o : α) (h0 : ∀ n, L (n + 1) (nI (fb_ct P M)) (nI M) = some o) (hs : ∀ n k, k < M → (P k = true → L (n + 1) (nI (fb_ct P k)) (nI k) = L n (nI (fb_ct P k + 1)) (nI (k + 1))) ∧ (P k = false → L (n + 1) (nI (fb_ct P k)) (nI k) = L n (nI (fb_ct P k)) (nI (k + 1)))) :
    ∀ m n k, m < n → k + m = M → L n (nI (fb_ct P k)) (nI k) = some o := by
  intro m
  induction m with
  | zero =>
    intro n k hn hk
    obtain ⟨n, rfl⟩ : ∃ j, n = j + 1 := ⟨n - 1, by omega⟩
    obtain rfl : k = M := by omega
    exact h0 n
  | succ m ih =>
    intro n k hn hk
    obtain ⟨n, rfl⟩ : ∃ j, n = j + 1 := ⟨n - 1, by omega⟩
    obtain ⟨h1, h2⟩ := hs n k (by omega)
    have h := ih n (k + 1) (by omega) (by omega)
    cases hp : P k
    · rw [h2 hp, ← ct_f hp]; exact h
    · rw [h1 hp, ← ct_t hp]; exact h
section CT
variable {W H : Nat} {f : RowI} {d : Bool} {N : Nat} {cs : CS} {su : RowJ}
theorem beginsAt_n (hD : Dim W H) (hJ : JI d W H f (W * H) cs) {k : Nat} (hk : k < W * H) : mX0_beginsAt N cs (nI k) = some (if bgn f d W k = true then 1 else 0) := by
  have g36 := dim36 hD
  have hb : bg f d W k < W * H := bg_lt hk
  rw [mX0_beginsAt, rd_n (by omega), hJ.2.1 k hk]
  by_cases c : f k = -1
  · rw [if_pos c, if_neg (fun q => nI_m1 k (by omega) q.symm), if_neg (fun q => (bgn_t.mp q).1 c)]
  · rw [if_neg c]
    by_cases e : bg f d W k = k
    · rw [if_pos (by rw [e]), if_pos (bgn_t.mpr ⟨c, e⟩)]
    · rw [if_neg (fun q => e ((nI_eq (by omega) (by omega)).mp q)), if_neg (fun q => e (bgn_t.mp q).2)]
theorem corridorsOf_n (hD : Dim W H) (hN : 600 ≤ N) (hJ : JI d W H f (W * H) cs) : mX1_corridorsOf N (nI W) (nI H) cs = some (nI (fb_ct (bgn f d W) (W * H))) := by
  have g36 := dim36 hD
  refine ct_loop (mX1_corridorsOf_4 N (nI W) (nI H) cs) (bgn f d W) (W * H) _ (fun n => ?_) (fun n k hk => ?_) (W * H) N 0 (by omega) (by omega)
  · rw [s_mX1_corridorsOf_4, mX1_cells, pk_mul, Option.bind_some, if_pos (nI_le (Nat.le_refl _) (by omega))]
  · rw [s_mX1_corridorsOf_4, mX1_cells, pk_mul, Option.bind_some, if_neg (nI_ge (by omega) (by omega)), beginsAt_n hD hJ hk, Option.bind_some, bq, nI_1, nI_1]
    refine ⟨fun h => ?_, fun h => ?_⟩
    · rw [h, if_pos rfl]
    · rw [h, if_neg (by decide)]
def wlb (f u : RowI) (d : Bool) (W H k : Nat) : Bool := bgn f d W k && wsp f u d W H k
def smb (f u : RowI) (d : Bool) (W k : Nat) : Bool := bgn f d W k && decide (0 < u k)
theorem wellOf_n (hD : Dim W H) (hN : 600 ≤ N) (hR : SR f) (hJ : JI d W H f (W * H) cs) (hU : UR cs.1) (hT : TBto 512 su) : mX1_wellOf N f (nI W) (nI H) cs su = some (nI (fb_ct (wlb f cs.1 d W H) (W * H))) := by
  have g36 := dim36 hD
  refine ct_loop (mX1_wellOf_4 N f (nI W) (nI H) cs su) (wlb f cs.1 d W H) (W * H) _ (fun n => ?_) (fun n k hk => ?_) (W * H) N 0 (by omega) (by omega)
  · rw [s_mX1_wellOf_4, mX1_cells, pk_mul, Option.bind_some, if_pos (nI_le (Nat.le_refl _) (by omega))]
  · rw [s_mX1_wellOf_4, mX1_cells, pk_mul, Option.bind_some, if_neg (nI_ge (by omega) (by omega)), beginsAt_n hD hJ hk, Option.bind_some, bq, nI_1, nI_1]
    unfold wlb
    cases hb : bgn f d W k
    · exact ⟨fun h => by simp at h, fun _ => by rw [if_neg (by decide)]⟩
    · obtain ⟨ho, hbb⟩ := bgn_t.mp hb
      rw [if_pos rfl, isWellFrom_n hD hN hR hJ hU hT hk ho hbb, Option.bind_some, bq, Bool.true_and]
      refine ⟨fun h => ?_, fun h => ?_⟩
      · rw [h, if_pos rfl]
      · rw [h, if_neg (by decide)]
theorem summedOf_n (hD : Dim W H) (hN : 600 ≤ N) (hJ : JI d W H f (W * H) cs) : mX1_summedOf N (nI W) (nI H) cs = some (nI (fb_ct (smb f cs.1 d W) (W * H))) := by
  have g36 := dim36 hD
  refine ct_loop (mX1_summedOf_4 N (nI W) (nI H) cs) (smb f cs.1 d W) (W * H) _ (fun n => ?_) (fun n k hk => ?_) (W * H) N 0 (by omega) (by omega)
  · rw [s_mX1_summedOf_4, mX1_cells, pk_mul, Option.bind_some, if_pos (nI_le (Nat.le_refl _) (by omega))]
  · rw [s_mX1_summedOf_4, mX1_cells, pk_mul, Option.bind_some, if_neg (nI_ge (by omega) (by omega)), beginsAt_n hD hJ hk, Option.bind_some, bq, nI_1, nI_1, mX0_toldAt, rd_n (by omega), Option.bind_some]
    unfold smb
    cases hb : bgn f d W k
    · exact ⟨fun h => by simp at h, fun _ => by rw [if_neg (by decide)]⟩
    · rw [if_pos rfl, Bool.true_and]
      refine ⟨fun h => ?_, fun h => ?_⟩
      · rw [if_neg (Int32.not_le.mpr (of_decide_eq_true h))]
      · rw [if_pos (Int32.not_lt.mp (of_decide_eq_false h))]
theorem openCells_n (hD : Dim W H) (hN : 600 ≤ N) : mX1_openCells N f (nI W) (nI H) = some (nI (fb_ct (fun k => decide (f k ≠ -1)) (W * H))) := by
  have g36 := dim36 hD
  refine ct_loop (mX1_openCells_4 N f (nI W) (nI H)) (fun k => decide (f k ≠ -1)) (W * H) _ (fun n => ?_) (fun n k hk => ?_) (W * H) N 0 (by omega) (by omega)
  · rw [s_mX1_openCells_4, mX1_cells, pk_mul, Option.bind_some, if_pos (nI_le (Nat.le_refl _) (by omega))]
  · rw [s_mX1_openCells_4, mX1_cells, pk_mul, Option.bind_some, if_neg (nI_ge (by omega) (by omega)), mX1_isPillar, rd_n (by omega), nI_1, nI_1]
    refine ⟨fun h => ?_, fun h => ?_⟩
    · rw [if_neg (of_decide_eq_true h), Option.bind_some, if_pos rfl]
    · rw [if_pos (Classical.not_not.mp (of_decide_eq_false h)), Option.bind_some, if_neg (by decide)]
theorem stonesLaid_n (hD : Dim W H) (hN : 600 ≤ N) : mX1_stonesLaid N f (nI W) (nI H) = some (nI (fb_ct (fun k => decide (0 < f k)) (W * H))) := by
  have g36 := dim36 hD
  refine ct_loop (mX1_stonesLaid_4 N f (nI W) (nI H)) (fun k => decide (0 < f k)) (W * H) _ (fun n => ?_) (fun n k hk => ?_) (W * H) N 0 (by omega) (by omega)
  · rw [s_mX1_stonesLaid_4, mX1_cells, pk_mul, Option.bind_some, if_pos (nI_le (Nat.le_refl _) (by omega))]
  · rw [s_mX1_stonesLaid_4, mX1_cells, pk_mul, Option.bind_some, if_neg (nI_ge (by omega) (by omega)), rd_n (by omega), nI_1, nI_1]
    refine ⟨fun h => ?_, fun h => ?_⟩
    · rw [if_neg (Int32.not_le.mpr (of_decide_eq_true h))]
    · rw [if_pos (Int32.not_lt.mp (of_decide_eq_false h))]
def hwc (f uA uD : RowI) (W H : Nat) (p : Int32) (k : Nat) : Bool := decide (f k = 0) && decide (bc (nI (2 * cn f uA uD W H k)) = p)
theorem holesWith_n (hN : 600 ≤ N) {cA cD : CS} (hS : ST W H f cA cD su) (p : Int32) : mX1_holesWithChoices N f (nI W) (nI H) cA cD su p = some (nI (fb_ct (hwc f cA.1 cD.1 W H p) (W * H))) := by
  have g36 := dim36 hS.1
  refine ct_loop (mX1_holesWithChoices_4 N f (nI W) (nI H) cA cD su p) (hwc f cA.1 cD.1 W H p) (W * H) _ (fun n => ?_) (fun n k hk => ?_) (W * H) N 0 (by omega) (by omega)
  · rw [s_mX1_holesWithChoices_4, mX1_cells, pk_mul, Option.bind_some, if_pos (nI_le (Nat.le_refl _) (by omega))]
  · rw [s_mX1_holesWithChoices_4, mX1_cells, pk_mul, Option.bind_some, if_neg (nI_ge (by omega) (by omega)), mX1_isHole, rd_n (by omega), can_c hN hS hk, nI_1, nI_1]
    unfold hwc
    by_cases c : f k = 0
    · rw [if_pos c, Option.bind_some, if_neg (by decide), Option.bind_some, decide_eq_true c, Bool.true_and]
      refine ⟨fun h => ?_, fun h => ?_⟩
      · rw [if_pos (of_decide_eq_true h)]
      · rw [if_neg (of_decide_eq_false h)]
    · rw [if_neg c, Option.bind_some, if_pos rfl, decide_eq_false c]
      exact ⟨fun h => by simp at h, fun _ => rfl⟩
end CT
/-- what count() tells -/
def tal (f uA uD : RowI) (W H : Nat) (what : Int32) : Int32 :=
  if what = 0 then nI (W * H) else if what = 1 then nI W else if what = 2 then nI (fb_ct (fun k => decide (f k ≠ -1)) (W * H)) else if what = 3 then nI (fb_ct (fun k => decide (0 < f k)) (W * H)) else if what = 4 then nI (fb_ct (bgn f false W) (W * H) + fb_ct (bgn f true W) (W * H)) else if what = 5 then nI (fb_ct (smb f uA false W) (W * H) + fb_ct (smb f uD true W) (W * H)) else if what = 6 then nI (fb_ct (wlb f uA false W H) (W * H) + fb_ct (wlb f uD true W H) (W * H)) else if what = 7 then nI (fb_ct (hwc f uA uD W H 1) (W * H)) else nI (fb_ct (hwc f uA uD W H 0) (W * H))
theorem tally_n {W H : Nat} {f : RowI} {N : Nat} {cA cD : CS} {su : RowJ} (hN : 600 ≤ N) (hS : ST W H f cA cD su) (what : Int32) : mX1_tally N f (nI W) (nI H) cA cD su what = some (tal f cA.1 cD.1 W H what) := by
  have hS0 := hS
  obtain ⟨hD, hR, hA, hB, uA, uD, hT⟩ := hS
  unfold tal
  rw [mX1_tally, mX1_cells, pk_mul, openCells_n hD hN, stonesLaid_n hD hN, corridorsOf_n hD hN hA, corridorsOf_n hD hN hB, summedOf_n hD hN hA, summedOf_n hD hN hB, wellOf_n hD hN hR hA uA hT, wellOf_n hD hN hR hB uD hT, holesWith_n hN hS0, holesWith_n hN hS0]
  simp only [Option.bind_some, nI_add]
  by_cases w0 : what = 0
  · rw [if_pos w0, if_pos w0]
  rw [if_neg w0, if_neg w0]
  by_cases w1 : what = 1
  · rw [if_pos w1, if_pos w1]
  rw [if_neg w1, if_neg w1]
  by_cases w2 : what = 2
  · rw [if_pos w2, if_pos w2]
  rw [if_neg w2, if_neg w2]
  by_cases w3 : what = 3
  · rw [if_pos w3, if_pos w3]
  rw [if_neg w3, if_neg w3]
  by_cases w4 : what = 4
  · rw [if_pos w4, if_pos w4]
  rw [if_neg w4, if_neg w4]
  by_cases w5 : what = 5
  · rw [if_pos w5, if_pos w5]
  rw [if_neg w5, if_neg w5]
  by_cases w6 : what = 6
  · rw [if_pos w6, if_pos w6]
  rw [if_neg w6, if_neg w6]
  by_cases w7 : what = 7
  · rw [if_pos w7, if_pos w7]
  rw [if_neg w7, if_neg w7]
