/-! ===== lines of the floor: steps, what is ahead and behind, corridors as lists ===== -/
def stp (d : Bool) (W : Nat) : Nat := if d then W else 1
def fwd (d : Bool) (W H k : Nat) : Nat := if d then H - k / W else W - k % W
def bwd (d : Bool) (W k : Nat) : Nat := if d then k / W else k % W
def dn (d : Bool) : Nat := if d then 1 else 0
def Dim (W H : Nat) : Prop := 2 ≤ W ∧ W ≤ 6 ∧ 2 ≤ H ∧ H ≤ 6
theorem geo_1 : ∀ d : Bool, ∀ W, W < 5 → ∀ H, H < 5 → ∀ k, k < (W + 2) * (H + 2) → fwd d (W + 2) (H + 2) k ≠ 0 ∧ fwd d (W + 2) (H + 2) k < 7 ∧ bwd d (W + 2) k < 6 := by decide +kernel
theorem geo_0 : ∀ d : Bool, ∀ W, W < 5 → stp d (W + 2) ≠ 0 ∧ stp d (W + 2) < 7 := by decide +kernel
theorem geo_2 : ∀ d : Bool, ∀ W, W < 5 → ∀ H, H < 5 → ∀ k, k < (W + 2) * (H + 2) → (bwd d (W + 2) k = 0 ∨ (stp d (W + 2) ≤ k ∧ bwd d (W + 2) (k - stp d (W + 2)) + 1 = bwd d (W + 2) k ∧ fwd d (W + 2) (H + 2) (k - stp d (W + 2)) = fwd d (W + 2) (H + 2) k + 1)) := by decide +kernel
theorem geo_3 : ∀ d : Bool, ∀ W, W < 5 → ∀ H, H < 5 → ∀ k, k < (W + 2) * (H + 2) → (fwd d (W + 2) (H + 2) k = 1 ∨ (k + stp d (W + 2) < (W + 2) * (H + 2) ∧ fwd d (W + 2) (H + 2) (k + stp d (W + 2)) + 1 = fwd d (W + 2) (H + 2) k ∧ bwd d (W + 2) (k + stp d (W + 2)) = bwd d (W + 2) k + 1)) := by decide +kernel
theorem geo_4 : ∀ W, W < 5 → ∀ H, H < 5 → ∀ k, k < (W + 2) * (H + 2) → (((W + 2) * (H + 2) ≤ k + (W + 2)) ↔ fwd true (W + 2) (H + 2) k = 1) ∧ (k < (W + 2) ↔ bwd true (W + 2) k = 0) := by decide +kernel
theorem geo_5 : ∀ W, W < 5 → ∀ H, H < 5 → ∀ k, k < (W + 2) * (H + 2) → (((W + 2) ≤ k % (W + 2) + 1) ↔ fwd false (W + 2) (H + 2) k = 1) ∧ (k % (W + 2) = 0 ↔ bwd false (W + 2) k = 0) := by decide +kernel
theorem dim36 {W H : Nat} (hD : Dim W H) : W * H ≤ 36 := by
  have h := Nat.mul_le_mul hD.2.1 hD.2.2.2
  omega
theorem dim4 {W H : Nat} (hD : Dim W H) : 4 ≤ W * H := by
  have h := Nat.mul_le_mul hD.1 hD.2.2.1
  omega
theorem geo {W H : Nat} (hD : Dim W H) (d : Bool) {k : Nat} (hk : k < W * H) : W * H ≤ 36 ∧ 1 ≤ fwd d W H k ∧ fwd d W H k ≤ 6 ∧ bwd d W k ≤ 5 ∧ 1 ≤ stp d W ∧ stp d W ≤ 6 ∧
    (bwd d W k = 0 ∨ (stp d W ≤ k ∧ bwd d W (k - stp d W) + 1 = bwd d W k ∧ fwd d W H (k - stp d W) = fwd d W H k + 1)) ∧
    (fwd d W H k = 1 ∨ (k + stp d W < W * H ∧ fwd d W H (k + stp d W) + 1 = fwd d W H k ∧ bwd d W (k + stp d W) = bwd d W k + 1)) ∧
    (d = true → ((W * H ≤ k + W) ↔ fwd d W H k = 1) ∧ (k < W ↔ bwd d W k = 0)) ∧ (d = false → ((W ≤ k % W + 1) ↔ fwd d W H k = 1) ∧ (k % W = 0 ↔ bwd d W k = 0)) :=
by
  have h36 := dim36 hD
  obtain ⟨w2, w6, h2, h6⟩ := hD
  obtain ⟨W, rfl⟩ : ∃ j, W = j + 2 := ⟨W - 2, by omega⟩
  obtain ⟨H, rfl⟩ : ∃ j, H = j + 2 := ⟨H - 2, by omega⟩
  obtain ⟨a1, a2, a3⟩ := geo_1 d W (by omega) H (by omega) k hk
  obtain ⟨a4, a5⟩ := geo_0 d W (by omega)
  refine ⟨h36, by omega, by omega, by omega, by omega, by omega, geo_2 d W (by omega) H (by omega) k hk, geo_3 d W (by omega) H (by omega) k hk, fun q => ?_, fun q => ?_⟩
  · subst q; exact geo_4 W (by omega) H (by omega) k hk
  · subst q; exact geo_5 W (by omega) H (by omega) k hk
def idx (f : RowI) (s : Nat) : Nat → Nat → Nat
  | 0, _ => 0
  | n + 1, k => if f (k - s) = -1 then 0 else idx f s n (k - s) + 1
/-- the corridor's first cell -/
def bg (f : RowI) (d : Bool) (W k : Nat) : Nat := k - stp d W * idx f (stp d W) (bwd d W k) k
def line (f : RowI) (s : Nat) : Nat → Nat → List Int32
  | 0, _ => []
  | n + 1, k => if f k = -1 then [] else f k :: line f s n (k + s)
/-- the corridor that begins there -/
def ln (f : RowI) (d : Bool) (W H b : Nat) : List Int32 := line f (stp d W) (fwd d W H b) b
theorem idx_succ (f : RowI) (s n k : Nat) : idx f s (n + 1) k = if f (k - s) = -1 then 0 else idx f s n (k - s) + 1 := rfl
theorem line_succ (f : RowI) (s n k : Nat) : line f s (n + 1) k = if f k = -1 then [] else f k :: line f s n (k + s) := rfl
section LN
variable {W H : Nat} {f g : RowI} {d : Bool}
theorem bg_0 {k : Nat} (h : bwd d W k = 0 ∨ f (k - stp d W) = -1) : bg f d W k = k := by
  unfold bg
  generalize bwd d W k = n at h
  cases n with
  | zero => rw [idx]; omega
  | succ n =>
    rcases h with h | h
    · omega
    · rw [idx_succ, if_pos h]; omega
theorem bg_s (hD : Dim W H) {k : Nat} (hk : k < W * H) (h1 : bwd d W k ≠ 0) (h2 : f (k - stp d W) ≠ -1) : bg f d W k = bg f d W (k - stp d W) ∧ idx f (stp d W) (bwd d W k) k = idx f (stp d W) (bwd d W (k - stp d W)) (k - stp d W) + 1 := by
  obtain ⟨_, _, _, _, _, _, g1, _⟩ := geo hD d hk
  rcases g1 with g1 | ⟨g1, g2, _⟩
  · exact absurd g1 h1
  · have e : idx f (stp d W) (bwd d W k) k = idx f (stp d W) (bwd d W (k - stp d W)) (k - stp d W) + 1 := by
      rw [← g2, idx_succ, if_neg h2]
    refine ⟨?_, e⟩
    unfold bg
    rw [e, Nat.mul_add, Nat.mul_one]
    omega
theorem bg_le {k : Nat} : bg f d W k ≤ k := Nat.sub_le _ _
theorem bg_lt {k : Nat} (hk : k < W * H) : bg f d W k < W * H := Nat.lt_of_le_of_lt bg_le hk
/-- going back along a corridor, by cases -/
theorem bg_ind (hD : Dim W H) {P : Nat → Prop} (h0 : ∀ k, k < W * H → bg f d W k = k → (bwd d W k = 0 ∨ f (k - stp d W) = -1) → P k) (hs : ∀ k, k < W * H → bwd d W k ≠ 0 → f (k - stp d W) ≠ -1 → stp d W ≤ k → 1 ≤ stp d W → bg f d W k = bg f d W (k - stp d W) → P (k - stp d W) → P k) : ∀ k, k < W * H → P k := by
  intro k
  induction k using Nat.strongRecOn with
  | _ k ih =>
    intro hk
    obtain ⟨_, _, _, _, gs, _, g1, _⟩ := geo hD d hk
    by_cases c1 : bwd d W k = 0
    · exact h0 k hk (bg_0 (Or.inl c1)) (Or.inl c1)
    · by_cases c2 : f (k - stp d W) = -1
      · exact h0 k hk (bg_0 (Or.inr c2)) (Or.inr c2)
      · rcases g1 with g1 | ⟨g1, _⟩
        · exact absurd g1 c1
        · exact hs k hk c1 c2 g1 gs (bg_s hD hk c1 c2).1 (ih (k - stp d W) (by omega) (by omega))
theorem bg_bg (hD : Dim W H) : ∀ k, k < W * H → bg f d W (bg f d W k) = bg f d W k :=
  bg_ind hD (fun k _ h _ => by rw [h, h]) (fun k _ _ _ _ _ e ih => by rw [e]; exact ih)
theorem bg_open (hD : Dim W H) : ∀ k, k < W * H → f k ≠ -1 → f (bg f d W k) ≠ -1 :=
  bg_ind hD (fun k _ h _ ho => by rw [h]; exact ho) (fun k _ _ h2 _ _ e ih _ => by rw [e]; exact ih h2)
theorem idx_cong (h : ∀ j, f j = -1 ↔ g j = -1) (s : Nat) : ∀ n k, idx f s n k = idx g s n k
  | 0, _ => rfl
  | n + 1, k => by
    rw [idx_succ, idx_succ, idx_cong h s n]
    by_cases c : f (k - s) = -1
    · rw [if_pos c, if_pos ((h _).mp c)]
    · rw [if_neg c, if_neg (fun q => c ((h _).mpr q))]
theorem bg_cong (h : ∀ j, f j = -1 ↔ g j = -1) (k : Nat) : bg f d W k = bg g d W k := by
  unfold bg
  rw [idx_cong h]
theorem open_upd {k : Nat} {x : Int32} (hk : f k ≠ -1) (hx : x ≠ -1) (j : Nat) : f j = -1 ↔ upd f k x j = -1 := by
  by_cases c : j = k
  · subst c; rw [upd_s]; exact ⟨fun q => absurd q hk, fun q => absurd q hx⟩
  · rw [upd_n c]
theorem bg_upd {k : Nat} {x : Int32} (hk : f k ≠ -1) (hx : x ≠ -1) (j : Nat) : bg (upd f k x) d W j = bg f d W j := (bg_cong (open_upd hk hx) j).symm
theorem line_cong (s : Nat) : ∀ n k, (∀ j, k ≤ j → f j = g j) → line f s n k = line g s n k
  | 0, _, _ => rfl
  | n + 1, k, h => by
    rw [line_succ, line_succ, h k (Nat.le_refl _), line_cong s n (k + s) (fun j hj => h j (by omega))]
def pre (f : RowI) (s : Nat) : Nat → Nat → List Int32
  | 0, _ => []
  | i + 1, k => pre f s i (k - s) ++ [f (k - s)]
theorem ln_pre (hD : Dim W H) : ∀ k, k < W * H → (∀ j, j < k → g j = f j) → ln g d W H (bg f d W k) = pre f (stp d W) (idx f (stp d W) (bwd d W k) k) k ++ line g (stp d W) (fwd d W H k) k := by
  refine bg_ind hD (f := f) (d := d) ?_ ?_
  · intro k hk h hc _
    have e : idx f (stp d W) (bwd d W k) k = 0 := by
      generalize bwd d W k = n at hc
      cases n with
      | zero => rfl
      | succ n =>
        rcases hc with hc | hc
        · omega
        · rw [idx_succ, if_pos hc]
    rw [h, e]
    rfl
  · intro k hk h1 h2 h3 h4 e ih hg
    obtain ⟨_, _, _, _, _, _, g1, _⟩ := geo hD d hk
    rcases g1 with g1 | ⟨_, _, g3⟩
    · exact absurd g1 h1
    · rw [e, ih (fun j hj => hg j (by omega)), (bg_s hD hk h1 h2).2, g3, line_succ, hg (k - stp d W) (by omega), if_neg h2, Nat.sub_add_cancel h3, pre, List.append_assoc]
      rfl
theorem ln_at (hD : Dim W H) {k : Nat} (hk : k < W * H) (ho : f k ≠ -1) : ∃ A B, ∀ x, x ≠ -1 → ln (upd f k x) d W H (bg f d W k) = A ++ x :: B := by
  obtain ⟨_, g1, _, _, gs, _, _, _⟩ := geo hD d hk
  obtain ⟨m, hm⟩ : ∃ m, fwd d W H k = m + 1 := ⟨fwd d W H k - 1, by omega⟩
  refine ⟨pre f (stp d W) (idx f (stp d W) (bwd d W k) k) k, line f (stp d W) m (k + stp d W), fun x hx => ?_⟩
  rw [ln_pre hD k hk (fun j hj => upd_n (by omega)), hm, line_succ, upd_s, if_neg hx, line_cong (g := f) _ _ _ (fun j hj => upd_n (by omega))]
theorem line_len {f : RowI} (s : Nat) : ∀ n k, (line f s n k).length ≤ n
  | 0, _ => Nat.le_refl _
  | n + 1, k => by
    rw [line_succ]
    split
    · exact Nat.zero_le _
    · have := line_len (f := f) s n (k + s)
      simp only [List.length_cons]
      omega
/-- stones as numbers: -1 is a pillar -/
def SR (f : RowI) : Prop := ∀ k, k < 36 → f k = -1 ∨ ∃ v, v ≤ 9 ∧ f k = nI v
def dg (L : List Int32) : List Nat := L.map (fun x => x.toNatClampNeg)
theorem line_dig (hD : Dim W H) (hR : SR f) : ∀ n k, (n = 0 ∨ (k < W * H ∧ fwd d W H k = n)) → (∀ v ∈ dg (line f (stp d W) n k), v ≤ 9) ∧ line f (stp d W) n k = (dg (line f (stp d W) n k)).map nI := by
  intro n
  induction n with
  | zero => intro k _; exact ⟨fun v hv => by simp [line, dg] at hv, rfl⟩
  | succ n ih =>
    intro k hc
    rcases hc with hc | ⟨hk, hf⟩
    · omega
    · obtain ⟨g36, _, _, _, _, _, _, g2, _⟩ := geo hD d hk
      have hn : n = 0 ∨ (k + stp d W < W * H ∧ fwd d W H (k + stp d W) = n) := by
        rcases g2 with g2 | ⟨g2, g3, _⟩
        · exact Or.inl (by omega)
        · exact Or.inr ⟨g2, by omega⟩
      obtain ⟨i1, i2⟩ := ih _ hn
      rw [line_succ]
      by_cases c : f k = -1
      · rw [if_pos c]; exact ⟨fun v hv => by simp [dg] at hv, rfl⟩
      · rw [if_neg c]
        rcases hR k (by omega) with q | ⟨v, hv, hx⟩
        · exact absurd q c
        · have e : (f k).toNatClampNeg = v := by rw [hx, nI_clamp (by omega)]
          constructor
          · intro u hu
            rcases List.mem_cons.mp (show u ∈ (f k).toNatClampNeg :: dg (line f (stp d W) n (k + stp d W)) from hu) with r | r
            · omega
            · exact i1 u r
          · show f k :: line f (stp d W) n (k + stp d W) = nI (f k).toNatClampNeg :: (dg (line f (stp d W) n (k + stp d W))).map nI
            rw [← i2, e, hx]
/-! ===== the class's corridors ===== -/
def lcn (f : RowI) (s K : Nat) : Nat → Nat → Nat
  | 0, _ => 0
  | n + 1, k => if f k = -1 then 0 else if k < K then lcn f s K n (k + s) + 1 else 0
theorem lcn_succ (f : RowI) (s K n k : Nat) : lcn f s K (n + 1) k = if f k = -1 then 0 else if k < K then lcn f s K n (k + s) + 1 else 0 := rfl
theorem lcn_ge {s K : Nat} : ∀ n k, K ≤ k → lcn f s K n k = 0
  | 0, _, _ => rfl
  | n + 1, k, h => by
    rw [lcn_succ, if_neg (show ¬ k < K by omega)]
    split <;> rfl
theorem lcn_len (hD : Dim W H) : ∀ n k, (n = 0 ∨ (k < W * H ∧ fwd d W H k = n)) → lcn f (stp d W) (W * H) n k = (line f (stp d W) n k).length := by
  intro n
  induction n with
  | zero => intros; rfl
  | succ n ih =>
    intro k hc
    rcases hc with hc | ⟨hk, hf⟩
    · omega
    · obtain ⟨_, _, _, _, _, _, _, g2, _⟩ := geo hD d hk
      have hn : n = 0 ∨ (k + stp d W < W * H ∧ fwd d W H (k + stp d W) = n) := by
        rcases g2 with g2 | ⟨g2, g3, _⟩
        · exact Or.inl (by omega)
        · exact Or.inr ⟨g2, by omega⟩
      rw [lcn_succ, line_succ, if_pos hk, ih _ hn]
      split <;> rfl
theorem lcn_pre (hD : Dim W H) : ∀ k, k < W * H → ∀ K, k ≤ K → lcn f (stp d W) K (fwd d W H (bg f d W k)) (bg f d W k) = idx f (stp d W) (bwd d W k) k + lcn f (stp d W) K (fwd d W H k) k := by
  refine bg_ind hD (f := f) (d := d) ?_ ?_
  · intro k hk h hc K _
    have e : idx f (stp d W) (bwd d W k) k = 0 := by
      generalize bwd d W k = n at hc
      cases n with
      | zero => rfl
      | succ n =>
        rcases hc with hc | hc
        · omega
        · rw [idx_succ, if_pos hc]
    rw [h, e, Nat.zero_add]
  · intro k hk h1 h2 h3 h4 e ih K hK
    obtain ⟨_, _, _, _, _, _, g1, _⟩ := geo hD d hk
    rcases g1 with g1 | ⟨_, _, g3⟩
    · exact absurd g1 h1
    · rw [e, ih K (by omega), (bg_s hD hk h1 h2).2, g3, lcn_succ, if_neg h2, if_pos (by omega), Nat.sub_add_cancel h3]
      omega
theorem lcn_self (hD : Dim W H) {k : Nat} (hk : k < W * H) (ho : f k ≠ -1) : lcn f (stp d W) (k + 1) (fwd d W H (bg f d W k)) (bg f d W k) = lcn f (stp d W) k (fwd d W H (bg f d W k)) (bg f d W k) + 1 := by
  obtain ⟨_, g1, _, _, gs, _, _, _⟩ := geo hD d hk
  obtain ⟨m, hm⟩ : ∃ m, fwd d W H k = m + 1 := ⟨fwd d W H k - 1, by omega⟩
  rw [lcn_pre hD k hk (k + 1) (by omega), lcn_pre hD k hk k (by omega), hm, lcn_ge (m + 1) k (Nat.le_refl _), lcn_succ, if_neg ho, if_pos (by omega), lcn_ge m _ (by omega)]
theorem lcn_oth (hD : Dim W H) {K b : Nat} (hK : f K = -1 ∨ bg f d W K ≠ b) : ∀ n k, (n = 0 ∨ (k < W * H ∧ fwd d W H k = n)) → (f k = -1 ∨ bg f d W k = b) → lcn f (stp d W) (K + 1) n k = lcn f (stp d W) K n k := by
  intro n
  induction n with
  | zero => intros; rfl
  | succ n ih =>
    intro k hc hb
    rcases hc with hc | ⟨hk, hf⟩
    · omega
    · rw [lcn_succ, lcn_succ]
      by_cases c : f k = -1
      · rw [if_pos c, if_pos c]
      · rw [if_neg c, if_neg c]
        have hb : bg f d W k = b := hb.resolve_left c
        have hne : k ≠ K := by
          rintro rfl
          rcases hK with q | q
          · exact c q
          · exact q hb
        by_cases c2 : k < K
        · obtain ⟨_, _, _, _, _, _, _, g2, _⟩ := geo hD d hk
          rw [if_pos c2, if_pos (by omega)]
          rcases g2 with g2 | ⟨g2, g3, g4⟩
          · obtain rfl : n = 0 := by omega
            rfl
          · have e := ih (k + stp d W) (Or.inr ⟨g2, by omega⟩) (by
              by_cases c3 : f (k + stp d W) = -1
              · exact Or.inl c3
              · right
                rw [(bg_s (f := f) hD g2 (by omega) (by rw [Nat.add_sub_cancel]; exact c)).1, Nat.add_sub_cancel]
                exact hb)
            rw [e]
        · rw [if_neg c2, if_neg (by omega)]
/-- corridors joined for the cells ahead of K -/
def JI (d : Bool) (W H : Nat) (f : RowI) (K : Nat) (cs : CS) : Prop := cs.2.2.2 = nI (stp d W) ∧ (∀ k, k < K → cs.2.1 k = if f k = -1 then -1 else nI (bg f d W k)) ∧ ∀ b, b < K → f b ≠ -1 → bg f d W b = b → cs.2.2.1 b = nI (lcn f (stp d W) K (fwd d W H b) b)
theorem join_n (hD : Dim W H) {N K : Nat} {cs : CS} (hK : K < W * H) (hJ : JI d W H f K cs) {p2 : Int32} (h0 : bwd d W K = 0 → p2 = -1) (h1 : bwd d W K ≠ 0 → p2 = nI (K - stp d W)) : ∃ cs', mX0_join N f cs (nI K) p2 = some cs' ∧ JI d W H f (K + 1) cs' ∧ cs'.1 = cs.1 := by
  obtain ⟨j1, j2, j3⟩ := hJ
  obtain ⟨g36, _, _, _, gs, _, gb, _⟩ := geo hD d hK
  have n1 : ∀ j, j < 36 → ¬ nI j = (-1 : Int32) := by decide +kernel
  rw [mX0_join, rd_n (by omega)]
  by_cases c : f K = -1
  · rw [if_pos c, wr_n (by omega), wr_n (by omega)]
    refine ⟨_, rfl, ⟨j1, ?_, ?_⟩, rfl⟩
    · intro k hk
      show upd cs.2.1 K (-1) k = _
      by_cases e : k = K
      · subst e; rw [upd_s, if_pos c]
      · rw [upd_n e]; exact j2 k (by omega)
    · intro b hb ho hbb
      have e : b ≠ K := fun q => ho (q ▸ c)
      show upd cs.2.2.1 K 0 b = _
      rw [upd_n e, j3 b (by omega) ho hbb, lcn_oth hD (Or.inl c) _ b (Or.inr ⟨by omega, rfl⟩) (Or.inr hbb)]
  · have key : ∀ cs1 : CS, cs1 = (cs.1, cs.2.1, upd cs.2.2.1 K 0, cs.2.2.2) → ∃ cs', mX0_join_56 N (nI K) (nI (bg f d W K)) cs1 = some cs' ∧ JI d W H f (K + 1) cs' ∧ cs'.1 = cs.1 := by
      intro cs1 e1
      subst e1
      have hbl : bg f d W K ≤ K := bg_le
      rw [mX0_join_56, wr_n (by omega), wr_n (by omega), rd_n (by omega)]
      refine ⟨_, rfl, ⟨j1, ?_, ?_⟩, rfl⟩
      · intro k hk
        show upd cs.2.1 K _ k = _
        by_cases e : k = K
        · subst e; rw [upd_s, if_neg c]
        · rw [upd_n e]; exact j2 k (by omega)
      · intro b hb ho hbb
        show upd (upd cs.2.2.1 K 0) (bg f d W K) (upd cs.2.2.1 K 0 (bg f d W K) + 1) b = _
        by_cases e : b = bg f d W K
        · subst e
          rw [upd_s, lcn_self hD hK c]
          by_cases e2 : bg f d W K = K
          · rw [e2, upd_s, lcn_ge _ K (Nat.le_refl _)]
            rfl
          · rw [upd_n e2, j3 _ (by omega) ho hbb, nI_1]
        · have e2 : b ≠ K := by
            rintro rfl
            exact e hbb.symm
          rw [upd_n e, upd_n e2, j3 b (by omega) ho hbb, lcn_oth hD (Or.inr (fun q => e q.symm)) _ b (Or.inr ⟨by omega, rfl⟩) (Or.inr hbb)]
    rw [if_neg c, wr_n (by omega)]
    by_cases b0 : bwd d W K = 0
    · rw [h0 b0, if_pos rfl, mX0_join_48, if_pos rfl]
      have hk := key _ rfl
      rw [bg_0 (Or.inl b0)] at hk
      exact hk
    · rcases gb with gb | ⟨gb, _, _⟩
      · exact absurd gb b0
      · rw [h1 b0, if_neg (n1 _ (by omega)), rd_n (by omega), j2 _ (by omega)]
        by_cases c2 : f (K - stp d W) = -1
        · rw [if_pos c2, mX0_join_48, if_pos rfl]
          have hk := key _ rfl
          rw [bg_0 (Or.inr c2)] at hk
          exact hk
        · have hbl : bg f d W (K - stp d W) ≤ K - stp d W := bg_le
          rw [if_neg c2, mX0_join_48, if_neg (n1 _ (by omega)), ← (bg_s hD hK b0 c2).1]
          exact key _ rfl
end LN
theorem rc_d : ∀ W, W < 7 → ∀ r, r < 6 → ∀ c, c < W → (r * W + c) % W = c ∧ (r * W + c) / W = r := by decide +kernel
section JC
variable {W H : Nat} {f : RowI}
theorem joinCells_12 (hD : Dim W H) {N : Nat} (K2 : Int32 → CS → CS → Option (CS × CS)) (P : CS × CS → Prop) {r : Nat} (hr : r < H) (a0 d0 : RowI)
    (hK : ∀ cA cD, JI false W H f ((r + 1) * W) cA → JI true W H f ((r + 1) * W) cD → cA.1 = a0 → cD.1 = d0 → ∃ o, K2 (nI (r + 1)) cA cD = some o ∧ P o) :
    ∀ m n c cA cD, m < n → c + m = W → JI false W H f (r * W + c) cA → JI true W H f (r * W + c) cD → cA.1 = a0 → cD.1 = d0 → ∃ o, mX1_joinCells_12 N f (nI W) (nI H) K2 n (nI r) (nI c) cA cD = some o ∧ P o := by
  have w6 := hD.2.1
  have h6 := hD.2.2.2
  intro m
  induction m with
  | zero =>
    intro n c cA cD hn hc hA hB eA eB
    obtain ⟨n, rfl⟩ : ∃ j, n = j + 1 := ⟨n - 1, by omega⟩
    obtain rfl : c = W := by omega
    rw [s_mX1_joinCells_12, if_pos (nI_le (Nat.le_refl _) (by omega)), nI_1]
    exact hK cA cD (by rw [Nat.succ_mul]; exact hA) (by rw [Nat.succ_mul]; exact hB) eA eB
  | succ m ih =>
    intro n c cA cD hn hc hA hB eA eB
    obtain ⟨n, rfl⟩ : ∃ j, n = j + 1 := ⟨n - 1, by omega⟩
    have hcell : r * W + c < W * H := by
      have : (r + 1) * W ≤ H * W := Nat.mul_le_mul_right W hr
      rw [Nat.succ_mul, Nat.mul_comm H W] at this
      omega
    obtain ⟨q1, q2⟩ := rc_d W (by omega) r (by omega) c (by omega)
    obtain ⟨g36, _⟩ := geo hD false hcell
    obtain ⟨_, _, _, _, _, _, _, _, gt, _⟩ := geo hD true hcell
    have g5 := (gt rfl).2
    have bA : bwd false W (r * W + c) = c := q1
    have bD : bwd true W (r * W + c) = r := q2
    have ecell : nI r * nI W + nI c = nI (r * W + c) := by rw [pk_mul, nI_add]
    have key : ∀ s0, (bwd false W (r * W + c) = 0 → s0 = -1) → (bwd false W (r * W + c) ≠ 0 → s0 = nI (r * W + c - stp false W)) → ∃ o, mX1_joinCells_45 N f (nI W) (nI H) K2 (mX1_joinCells_12 N f (nI W) (nI H) K2 n) (nI r) (nI c) (nI (r * W + c)) s0 (nI (r * W + c)) cA cD = some o ∧ P o := by
      intro s0 a1 a2
      obtain ⟨cA', hj, hA', eA'⟩ := join_n (N := N) hD hcell hA a1 a2
      have key2 : ∀ s1, (bwd true W (r * W + c) = 0 → s1 = -1) → (bwd true W (r * W + c) ≠ 0 → s1 = nI (r * W + c - stp true W)) → ∃ o, mX1_joinCells_67 N f (nI W) (nI H) K2 (mX1_joinCells_12 N f (nI W) (nI H) K2 n) (nI r) (nI c) s1 (nI (r * W + c)) cA' cD = some o ∧ P o := by
        intro s1 a3 a4
        obtain ⟨cD', hj2, hD', eD'⟩ := join_n (N := N) hD hcell hB a3 a4
        rw [mX1_joinCells_67, hj2, Option.bind_some, nI_1]
        exact ih n (c + 1) cA' cD' (by omega) (by omega) hA' hD' (eA'.trans eA) (eD'.trans eB)
      rw [mX1_joinCells_45, hj, Option.bind_some]
      by_cases r0 : r = 0
      · rw [if_pos (by rw [r0]; exact nI_0)]
        exact key2 _ (fun _ => rfl) (fun q => absurd (bD.trans r0) q)
      · rw [if_neg (nI_ne0 (by omega) (by omega))]
        have hle : W ≤ r * W + c := by
          rcases Nat.lt_or_ge (r * W + c) W with q | q
          · exact absurd ((g5.mp q).symm.trans bD).symm r0
          · exact q
        refine key2 _ (fun q => absurd (bD.symm.trans q) r0) (fun _ => ?_)
        rw [pk_sub hle]
        rfl
    rw [s_mX1_joinCells_12, if_neg (nI_ge (by omega) (by omega)), ecell]
    by_cases c0 : c = 0
    · rw [if_pos (by rw [c0]; exact nI_0)]
      exact key _ (fun _ => rfl) (fun q => absurd (bA.trans c0) q)
    · rw [if_neg (nI_ne0 (by omega) (by omega))]
      refine key _ (fun q => absurd (bA.symm.trans q) c0) (fun _ => ?_)
      rw [show (1 : Int32) = nI 1 from rfl, pk_sub (by omega)]
      rfl
theorem joinCells_2 (hD : Dim W H) {N : Nat} (hN : 600 ≤ N) (a0 d0 : RowI) : ∀ m n r cA cD, m < n → r + m = H → JI false W H f (r * W) cA → JI true W H f (r * W) cD → cA.1 = a0 → cD.1 = d0 →
    ∃ o, mX1_joinCells_2 N f (nI W) (nI H) n (nI r) cA cD = some o ∧ (JI false W H f (W * H) o.1 ∧ JI true W H f (W * H) o.2 ∧ o.1.1 = a0 ∧ o.2.1 = d0) := by
  have w6 := hD.2.1
  have h6 := hD.2.2.2
  intro m
  induction m with
  | zero =>
    intro n r cA cD hn hr hA hB eA eB
    obtain ⟨n, rfl⟩ : ∃ j, n = j + 1 := ⟨n - 1, by omega⟩
    obtain rfl : r = H := by omega
    rw [s_mX1_joinCells_2, if_pos (nI_le (Nat.le_refl _) (by omega))]
    rw [Nat.mul_comm] at hA hB
    exact ⟨_, rfl, hA, hB, eA, eB⟩
  | succ m ih =>
    intro n r cA cD hn hr hA hB eA eB
    obtain ⟨n, rfl⟩ : ∃ j, n = j + 1 := ⟨n - 1, by omega⟩
    rw [s_mX1_joinCells_2, if_neg (nI_ge (by omega) (by omega))]
    exact joinCells_12 hD (mX1_joinCells_2 N f (nI W) (nI H) n) _ (show r < H by omega) a0 d0 (fun cA cD h1 h2 h3 h4 => ih n (r + 1) cA cD (by omega) (by omega) h1 h2 h3 h4) W N 0 cA cD (by omega) (by omega) hA hB eA eB
/-- Floor.joinCells -/
theorem joinCells_n (hD : Dim W H) {N : Nat} (hN : 600 ≤ N) {cA cD : CS} (hA : cA.2.2.2 = 1) (hB : cD.2.2.2 = nI W) : ∃ cA' cD', mX1_joinCells N f (nI W) (nI H) cA cD = some (cA', cD') ∧ JI false W H f (W * H) cA' ∧ JI true W H f (W * H) cD' ∧ cA'.1 = cA.1 ∧ cD'.1 = cD.1 := by
  have h6 := hD.2.2.2
  obtain ⟨o, h1, h2, h3, h4, h5⟩ := joinCells_2 (f := f) hD hN cA.1 cD.1 H N 0 cA cD (by omega) (by omega) ⟨hA, fun k h => absurd h (by omega), fun k h => absurd h (by omega)⟩ ⟨hB, fun k h => absurd h (by omega), fun k h => absurd h (by omega)⟩ rfl rfl
  exact ⟨o.1, o.2, h1, h2, h3, h4, h5⟩
end JC
/-! ===== the model's links ===== -/
section LK
variable {W H : Nat} {f : RowI}
theorem dn_le (d : Bool) : dn d ≤ 1 := by cases d <;> decide
theorem at_n {d : Bool} {k : Nat} : (36 : Int32) * nI (dn d) + nI k = nI (36 * dn d + k) := by rw [show (36 : Int32) = nI 36 from rfl, pk_mul, nI_add]
end LK
