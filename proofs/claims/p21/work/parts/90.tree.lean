/-! ===== all fillings: how many there are, whatever the order ===== -/
def sG (F : Nat → Nat) : Nat → Nat → Nat
  | 0, _ => 0
  | m + 1, n => F n + sG F m (n + 1)
theorem sG_cong {F G : Nat → Nat} : ∀ m n, (∀ i, n ≤ i → i < n + m → F i = G i) → sG F m n = sG G m n
  | 0, _, _ => rfl
  | m + 1, n, h => by rw [sG, sG, h n (Nat.le_refl _) (by omega), sG_cong m (n + 1) (fun i h1 h2 => h i (by omega) (by omega))]
theorem sG_zero {F : Nat → Nat} : ∀ m n, (∀ i, n ≤ i → i < n + m → F i = 0) → sG F m n = 0
  | 0, _, _ => rfl
  | m + 1, n, h => by rw [sG, h n (Nat.le_refl _) (by omega), sG_zero m (n + 1) (fun i h1 h2 => h i (by omega) (by omega))]
theorem sG_one {F : Nat → Nat} {v : Nat} : ∀ m n, n ≤ v → v < n + m → (∀ i, n ≤ i → i < n + m → i ≠ v → F i = 0) → sG F m n = F v
  | 0, n, h1, h2, _ => by omega
  | m + 1, n, h1, h2, h => by
    rw [sG]
    by_cases c : n = v
    · subst c
      rw [sG_zero m (n + 1) (fun i q1 q2 => h i (by omega) (by omega) (by omega)), Nat.add_zero]
    · rw [h n (Nat.le_refl _) (by omega) c, Nat.zero_add, sG_one m (n + 1) (by omega) (by omega) (fun i q1 q2 => h i (by omega) (by omega))]
theorem sG_add (F G : Nat → Nat) : ∀ m n, sG (fun i => F i + G i) m n = sG F m n + sG G m n
  | 0, _ => rfl
  | m + 1, n => by
    rw [sG, sG, sG, sG_add F G m (n + 1)]
    omega
theorem sG_swap (F : Nat → Nat → Nat) (a n : Nat) : ∀ b m, sG (fun i => sG (fun j => F i j) a n) b m = sG (fun j => sG (fun i => F i j) b m) a n
  | 0, m => by
    rw [sG]
    exact (sG_zero a n (fun _ _ _ => rfl)).symm
  | b + 1, m => by
    rw [sG, sG_swap F a n b (m + 1), ← sG_add]
    exact sG_cong a n (fun _ _ _ => rfl)
def cnt (P : RowI → Bool) : List Nat → RowI → Nat
  | [], f => if P f = true then 1 else 0
  | c :: cs, f => sG (fun n => cnt P cs (upd f c (nI n))) 9 1
def tot (C : RowI → Nat → Nat) : List Nat → RowI → Nat
  | [], _ => 1
  | c :: cs, f => sG (fun n => if (2 * C f c).testBit n = true then tot C cs (upd f c (nI n)) else 0) 9 1
theorem upd_comm {f : RowI} {c d : Nat} (h : c ≠ d) (x y : Int32) : upd (upd f c x) d y = upd (upd f d y) c x := by
  funext j
  by_cases h1 : j = c
  · subst h1; rw [upd_n h, upd_s, upd_s]
  · by_cases h2 : j = d
    · subst h2; rw [upd_s, upd_n h1, upd_s]
    · rw [upd_n h2, upd_n h1, upd_n h1, upd_n h2]
theorem cnt_swap (P : RowI → Bool) {c d : Nat} (h : c ≠ d) (cs : List Nat) (f : RowI) : cnt P (c :: d :: cs) f = cnt P (d :: c :: cs) f := by
  rw [cnt, cnt]
  show sG (fun n => sG (fun m => cnt P cs (upd (upd f c (nI n)) d (nI m))) 9 1) 9 1 = sG (fun n => sG (fun m => cnt P cs (upd (upd f d (nI n)) c (nI m))) 9 1) 9 1
  rw [sG_swap (fun n m => cnt P cs (upd (upd f c (nI n)) d (nI m))) 9 1 9 1]
  exact sG_cong 9 1 (fun i _ _ => sG_cong 9 1 (fun j _ _ => by rw [upd_comm h]))
theorem cnt_front (P : RowI → Bool) (B : List Nat) {k : Nat} : ∀ (A : List Nat) (f : RowI), k ∉ A → cnt P (A ++ k :: B) f = cnt P (k :: (A ++ B)) f
  | [], _, _ => rfl
  | a :: A, f, h => by
    have ha : a ≠ k := fun e => h (e ▸ List.mem_cons_self)
    rw [List.cons_append, List.cons_append, cnt_swap P ha.symm]
    rw [cnt, cnt]
    exact sG_cong 9 1 (fun i _ _ => cnt_front P B A _ (fun q => h (List.mem_cons_of_mem _ q)))
theorem zl_at {f : RowI} {k : Nat} (h0 : f k = 0) {x : Int32} (hx : x ≠ 0) : ∀ m j, j ≤ k → k < j + m → ∃ A B, zl f m j = A ++ k :: B ∧ zl (upd f k x) m j = A ++ B ∧ k ∉ A
  | 0, j, h1, h2 => by omega
  | m + 1, j, h1, h2 => by
    by_cases c : j = k
    · subst c
      refine ⟨[], zl f m (j + 1), ?_, ?_, List.not_mem_nil⟩
      · rw [zl, if_pos h0]; rfl
      · rw [zl, upd_s, if_neg hx, zl_cong m (j + 1) (fun i hi => upd_n (f := f) (k := j) (x := x) (by omega))]; rfl
    · obtain ⟨A, B, e1, e2, e3⟩ := zl_at h0 hx m (j + 1) (by omega) (by omega)
      by_cases z : f j = 0
      · refine ⟨j :: A, B, ?_, ?_, fun q => ?_⟩
        · rw [zl, if_pos z, e1]; rfl
        · rw [zl, upd_n c, if_pos z, e2]; rfl
        · rcases List.mem_cons.mp q with q | q
          · exact c q.symm
          · exact e3 q
      · refine ⟨A, B, ?_, ?_, e3⟩
        · rw [zl, if_neg z, e1]
        · rw [zl, upd_n c, if_neg z, e2]
section TR
variable {W H : Nat} {uA uD : RowI}
theorem aw_iff {f : RowI} : aw f uA uD W H = true ↔ ∀ k, k < W * H → f k ≠ -1 → wsp f uA false W H k = true ∧ wsp f uD true W H k = true := by
  unfold aw
  rw [allf_t]
  constructor
  · intro h k hk ho
    have h1 := h k (Nat.zero_le _) (by omega)
    unfold okc at h1
    rw [decide_eq_false ho, Bool.false_or, Bool.and_eq_true] at h1
    exact h1
  · intro h k _ hk
    unfold okc
    by_cases c : f k = -1
    · rw [decide_eq_true c]; rfl
    · obtain ⟨h1, h2⟩ := h k (by omega) c
      rw [h1, h2]; simp
theorem line_oth {f : RowI} {d : Bool} (hD : Dim W H) {K b : Nat} (hK : f K ≠ -1) (hb0 : bg f d W K ≠ b) (x : Int32) : ∀ n k, (n = 0 ∨ (k < W * H ∧ fwd d W H k = n)) → (f k = -1 ∨ bg f d W k = b) → line (upd f K x) (stp d W) n k = line f (stp d W) n k := by
  intro n
  induction n with
  | zero => intros; rfl
  | succ n ih =>
    intro k hc hb
    rcases hc with hc | ⟨hk, hf⟩
    · omega
    · have hne : k ≠ K := by
        rintro rfl
        rcases hb with q | q
        · exact hK q
        · exact hb0 q
      rw [line_succ, line_succ, upd_n hne]
      by_cases c : f k = -1
      · rw [if_pos c, if_pos c]
      · rw [if_neg c, if_neg c]
        have hb : bg f d W k = b := hb.resolve_left c
        obtain ⟨_, _, _, _, _, _, _, g2, _⟩ := geo hD d hk
        rcases g2 with g2 | ⟨g2, g3, g4⟩
        · obtain rfl : n = 0 := by omega
          rfl
        · have e := ih (k + stp d W) (Or.inr ⟨g2, by omega⟩) (by
            by_cases c3 : f (k + stp d W) = -1
            · exact Or.inl c3
            · right
              rw [(bg_s (f := f) hD g2 (by omega) (by rw [Nat.add_sub_cancel]; exact c)).1, Nat.add_sub_cancel]
              exact hb)
          rw [e]
/-- other corridors stay as they are -/
theorem wsp_upd {f u : RowI} {d : Bool} (hD : Dim W H) {c j : Nat} {x : Int32} (hc : f c ≠ -1) (hx : x ≠ -1) (hj : j < W * H) (ho : f j ≠ -1) (h : wsp (upd f c x) u d W H c = true) (hw : wsp f u d W H j = true) : wsp (upd f c x) u d W H j = true := by
  unfold wsp at h hw ⊢
  rw [bg_upd hc hx] at h ⊢
  by_cases e : bg f d W c = bg f d W j
  · rw [← e]; exact h
  · have hbj : bg f d W j < W * H := bg_lt hj
    have hl : ln (upd f c x) d W H (bg f d W j) = ln f d W H (bg f d W j) := line_oth hD hc e x _ _ (Or.inr ⟨hbj, rfl⟩) (Or.inr (bg_bg hD j hj))
    rw [hl]
    exact hw
theorem cn_bit {f : RowI} {k n : Nat} (h0 : f k = 0) (h1 : 1 ≤ n) (h9 : n ≤ 9) : (2 * cn f uA uD W H k).testBit n = (wsp (upd f k (nI n)) uA false W H k && wsp (upd f k (nI n)) uD true W H k) := by
  obtain ⟨i, rfl⟩ : ∃ i, n = i + 1 := ⟨n - 1, by omega⟩
  unfold cn
  rw [if_pos h0, Nat.testBit_succ, Nat.mul_div_cancel_left _ (by decide), stf_bit, decide_eq_true (show i < 9 by omega), Bool.true_and]
theorem ext_ok {f : RowI} {c : Nat} {n : Nat} (h0 : f c = 0) (h9 : n ≤ 9) : (∀ j, f j = -1 ↔ upd f c (nI n) j = -1) ∧ (∀ j, f j = upd f c (nI n) j ∨ f j = 0) := by
  refine ⟨open_upd (by rw [h0]; decide) (nI_m1 n (by omega)), fun j => ?_⟩
  by_cases e : j = c
  · subst e; exact Or.inr h0
  · exact Or.inl (upd_n e).symm
/-- with one corridor that is not well there is none -/
theorem cnt_no (hD : Dim W H) {k : Nat} (hk : k < W * H) : ∀ (cs : List Nat) (f : RowI), ris cs → (∀ c ∈ cs, c < W * H ∧ f c = 0) → SR f → f k ≠ -1 → ¬ (wsp f uA false W H k = true ∧ wsp f uD true W H k = true) → cnt (fun g => aw g uA uD W H) cs f = 0
  | [], f, _, _, _, ho, hn => by
    rw [cnt, if_neg (fun q => hn (aw_iff.mp q k hk ho))]
  | c :: cs, f, hr, hc, hR, ho, hn => by
    rw [cnt]
    refine sG_zero 9 1 (fun n h1 h2 => ?_)
    obtain ⟨c1, c2⟩ := hc c List.mem_cons_self
    obtain ⟨x1, x2⟩ := ext_ok (n := n) c2 (by omega)
    have hR2 := hR.upd c (show n ≤ 9 by omega)
    refine cnt_no hD hk cs _ hr.2 (fun c' hc' => ?_) hR2 (fun q => ho ((x1 k).mpr q)) (fun q => hn ⟨wsp_mono hD hR2 x1 x2 hk q.1, wsp_mono hD hR2 x1 x2 hk q.2⟩)
    have h3 := hr.1 c' hc'
    obtain ⟨d1, d2⟩ := hc c' (List.mem_cons_of_mem _ hc')
    exact ⟨d1, by rw [upd_n (by omega)]; exact d2⟩
theorem aw_step (hD : Dim W H) {f : RowI} {c n : Nat} (hc : c < W * H) (h0 : f c = 0) (h9 : n ≤ 9) (h : aw f uA uD W H = true) (h1 : wsp (upd f c (nI n)) uA false W H c = true) (h2 : wsp (upd f c (nI n)) uD true W H c = true) : aw (upd f c (nI n)) uA uD W H = true := by
  have hco : f c ≠ -1 := by rw [h0]; decide
  have hx := nI_m1 n (by omega)
  rw [aw_iff] at h ⊢
  intro j hj ho
  have ho2 : f j ≠ -1 := fun q => ho ((open_upd hco hx j).mp q)
  obtain ⟨q1, q2⟩ := h j hj ho2
  exact ⟨wsp_upd hD hco hx hj ho2 h1 q1, wsp_upd hD hco hx hj ho2 h2 q2⟩
theorem tot_cnt (hD : Dim W H) : ∀ (cs : List Nat) (f : RowI), ris cs → (∀ c ∈ cs, c < W * H ∧ f c = 0) → SR f → aw f uA uD W H = true → tot (fun f k => cn f uA uD W H k) cs f = cnt (fun g => aw g uA uD W H) cs f
  | [], f, _, _, _, ha => by rw [tot, cnt, if_pos ha]
  | c :: cs, f, hr, hc, hR, ha => by
    rw [tot, cnt]
    refine sG_cong 9 1 (fun n h1 h2 => ?_)
    obtain ⟨c1, c2⟩ := hc c List.mem_cons_self
    have hR2 := hR.upd c (show n ≤ 9 by omega)
    have hm : ∀ c' ∈ cs, c' < W * H ∧ upd f c (nI n) c' = 0 := fun c' hc' => by
      have h3 := hr.1 c' hc'
      obtain ⟨d1, d2⟩ := hc c' (List.mem_cons_of_mem _ hc')
      exact ⟨d1, by rw [upd_n (by omega)]; exact d2⟩
    show (if (2 * cn f uA uD W H c).testBit n = true then _ else 0) = _
    rw [cn_bit c2 h1 (by omega)]
    by_cases q : (wsp (upd f c (nI n)) uA false W H c && wsp (upd f c (nI n)) uD true W H c) = true
    · rw [if_pos q]
      rw [Bool.and_eq_true] at q
      exact tot_cnt hD cs _ hr.2 hm hR2 (aw_step hD c1 c2 (by omega) ha q.1 q.2)
    · rw [if_neg q]
      rw [Bool.and_eq_true] at q
      exact (cnt_no hD c1 cs _ hr.2 hm hR2 (by rw [upd_s]; exact nI_m1 n (by omega)) q).symm
/-- how many fillings there are -/
def nT (f uA uD : RowI) (W H : Nat) : Nat := cnt (fun g => aw g uA uD W H) (zl f (W * H) 0) f
theorem zl_ok {f : RowI} : ∀ c ∈ zl f (W * H) 0, c < W * H ∧ f c = 0 := fun c hc => by
  have := zl_in (W * H) 0 c hc
  exact ⟨by omega, this.2.2⟩
theorem nT_at (hD : Dim W H) {f : RowI} (hR : SR f) {k : Nat} (hk : k < W * H) (h0 : f k = 0) : nT f uA uD W H = sG (fun n => if (2 * cn f uA uD W H k).testBit n = true then nT (upd f k (nI n)) uA uD W H else 0) 9 1 := by
  have g36 := dim36 hD
  obtain ⟨A, B, e1, e2, e3⟩ := zl_at h0 (x := nI 1) (by decide) (W * H) 0 (Nat.zero_le _) (by omega)
  unfold nT
  rw [e1, cnt_front _ B A f e3, cnt]
  refine sG_cong 9 1 (fun n h1 h2 => ?_)
  obtain ⟨A2, B2, d1, d2, d3⟩ := zl_at h0 (x := nI n) (nI_ne0 (by omega) (by omega)) (W * H) 0 (Nat.zero_le _) (by omega)
  have hAB : A ++ B = zl (upd f k (nI n)) (W * H) 0 := by
    rw [d2]
    have hz : zl (upd f k (nI n)) (W * H) 0 = zl (upd f k (nI 1)) (W * H) 0 := by
      have key : ∀ m j, zl (upd f k (nI n)) m j = zl (upd f k (nI 1)) m j := by
        intro m
        induction m with
        | zero => intro j; rfl
        | succ m ih =>
          intro j
          rw [zl, zl, ih]
          by_cases c : j = k
          · subst c
            rw [upd_s, upd_s, if_neg (nI_ne0 (by omega) (by omega)), if_neg (by decide)]
          · rw [upd_n c, upd_n c]
      exact key _ _
    rw [← d2, hz, e2]
  have hR2 := hR.upd k (show n ≤ 9 by omega)
  by_cases q : (2 * cn f uA uD W H k).testBit n = true
  · rw [if_pos q, hAB]
  · rw [if_neg q]
    rw [cn_bit h0 h1 (by omega), Bool.and_eq_true] at q
    refine cnt_no hD hk (A ++ B) _ (by rw [hAB]; exact zl_ris _ _) (by rw [hAB]; exact zl_ok) hR2 (by rw [upd_s]; exact nI_m1 n (by omega)) q
/-- a forced number leaves as many -/
theorem nT_force (hD : Dim W H) {f : RowI} (hR : SR f) {k : Nat} (hk : k < W * H) (h0 : f k = 0) {v : Nat} (h1 : 1 ≤ v) (h9 : v ≤ 9) (hb : 2 * cn f uA uD W H k = 2 ^ v) : nT f uA uD W H = nT (upd f k (nI v)) uA uD W H := by
  rw [nT_at hD hR hk h0, sG_one (v := v) 9 1 h1 (by omega) (fun i q1 q2 q3 => ?_), hb, Nat.testBit_two_pow, if_pos (decide_eq_true rfl)]
  rw [hb, Nat.testBit_two_pow, if_neg (by rw [decide_eq_true_iff]; exact fun q => q3 q.symm)]
theorem nT_none (hD : Dim W H) {f : RowI} (hR : SR f) {k : Nat} (hk : k < W * H) (h0 : f k = 0) (hb : cn f uA uD W H k = 0) : nT f uA uD W H = 0 := by
  rw [nT_at hD hR hk h0]
  exact sG_zero 9 1 (fun i _ _ => by rw [hb]; simp)
/-! the search counts them, up to a hundred -/
def goodR (Gd : RowI → Prop) (T : Nat) (a r : SA) : Prop := SI r ∧ a.1 ≤ r.1 ∧ (r.1 ≤ 4000 → r.2.1 = min 100 (a.2.1 + T)) ∧ ((a.2.1 ≠ 0 → ∃ g, a.2.2 = some g ∧ Gd g) → r.2.1 ≠ 0 → ∃ g, r.2.2 = some g ∧ Gd g)
theorem srl_good {Gd : RowI → Prop} {P : Nat → Bool} {R : Nat → SA → SA} {T : Nat → Nat} : ∀ m n a, (∀ i b, n ≤ i → i < n + m → P i = true → SI b → b.2.1 < 100 → b.1 ≤ 4000 → goodR Gd (T i) b (R i b)) → SI a → goodR Gd (sG (fun i => if P i = true then T i else 0) m n) a (srl P R m n a)
  | 0, n, a, _, hs => by
    refine ⟨hs, Nat.le_refl _, fun _ => ?_, fun h => h⟩
    have := hs.2
    show a.2.1 = min 100 (a.2.1 + 0)
    omega
  | m + 1, n, a, hR, hs => by
    rw [srl]
    cases ho : over a
    · obtain ⟨o1, o2⟩ := over_f ho
      rw [if_neg (by decide), sG]
      have key : ∀ b t, SI b → a.1 ≤ b.1 → (b.1 ≤ 4000 → b.2.1 = min 100 (a.2.1 + t) ∧ t = (if P n = true then T n else 0)) → ((a.2.1 ≠ 0 → ∃ g, a.2.2 = some g ∧ Gd g) → b.2.1 ≠ 0 → ∃ g, b.2.2 = some g ∧ Gd g) → goodR Gd ((if P n = true then T n else 0) + sG (fun i => if P i = true then T i else 0) m (n + 1)) a (srl P R m (n + 1) b) := by
        intro b t hb hab h1 h2
        obtain ⟨q1, q2, q3, q4⟩ := srl_good m (n + 1) b (fun i b h1 h2 => hR i b (by omega) (by omega)) hb
        refine ⟨q1, by omega, fun h => ?_, fun h => q4 (h2 h)⟩
        have h3 := q3 h
        obtain ⟨h4, h5⟩ := h1 (by omega)
        rw [h3, h4, ← h5]
        omega
      by_cases c : a.1 + 1 ≤ 4000 ∧ P n = true
      · obtain ⟨r1, r2, r3, r4⟩ := hR n (a.1 + 1, a.2) (Nat.le_refl _) (by omega) c.2 ⟨by show a.1 + 1 ≤ 4001; omega, hs.2⟩ o2 c.1
        rw [if_pos c]
        have r2 : a.1 + 1 ≤ (R n (a.1 + 1, a.2)).1 := r2
        exact key _ (T n) r1 (by omega) (fun h => ⟨r3 h, by rw [if_pos c.2]⟩) r4
      · rw [if_neg c]
        refine key _ (if P n = true then T n else 0) ⟨by show a.1 + 1 ≤ 4001; omega, hs.2⟩ (by show a.1 ≤ a.1 + 1; omega) (fun h => ⟨?_, rfl⟩) (fun h => h)
        have h : a.1 + 1 ≤ 4000 := h
        have hP : ¬ P n = true := fun q => c ⟨h, q⟩
        rw [if_neg hP]
        show a.2.1 = min 100 (a.2.1 + 0)
        omega
    · have o := over_t ho
      rw [if_pos rfl]
      refine ⟨hs, Nat.le_refl _, fun h => ?_, fun h => h⟩
      have := hs.2
      omega
/-- what the search may find -/
def rch (C : RowI → Nat → Nat) : List Nat → RowI → RowI → Prop
  | [], f, g => g = f
  | c :: cs, f, g => ∃ n, 1 ≤ n ∧ n ≤ 9 ∧ (2 * C f c).testBit n = true ∧ rch C cs (upd f c (nI n)) g
theorem srch_good {Gd : RowI → Prop} {C : RowI → Nat → Nat} : ∀ (cs : List Nat) (f : RowI) (a : SA), (∀ g, rch C cs f g → Gd g) → SI a → a.2.1 < 100 → goodR Gd (tot C cs f) a (srch C cs f a)
  | [], f, a, hg, hs, h100 => by
    refine ⟨⟨hs.1, by show a.2.1 + 1 ≤ 100; omega⟩, Nat.le_refl _, fun _ => ?_, fun h _ => ?_⟩
    · show a.2.1 + 1 = min 100 (a.2.1 + 1)
      omega
    · show ∃ g, (if a.2.1 = 0 then some f else a.2.2) = some g ∧ Gd g
      by_cases c : a.2.1 = 0
      · rw [if_pos c]; exact ⟨f, rfl, hg f rfl⟩
      · rw [if_neg c]; exact h c
  | c :: cs, f, a, hg, hs, h100 => by
    rw [srch, tot]
    refine srl_good (T := fun n => tot C cs (upd f c (nI n))) 9 1 a (fun i b h1 h2 hP hb hb1 hb2 => ?_) hs
    exact srch_good cs _ b (fun g hr => hg g ⟨i, h1, by omega, hP, hr⟩) hb hb1
/-- what is found -/
theorem rch_ok (hD : Dim W H) : ∀ (cs : List Nat) (f g : RowI), ris cs → (∀ c ∈ cs, c < W * H ∧ f c = 0) → SR f → aw f uA uD W H = true → rch (fun f k => cn f uA uD W H k) cs f g → aw g uA uD W H = true ∧ SR g ∧ (∀ j, j ∉ cs → g j = f j) ∧ (∀ j, j ∈ cs → ∃ n, 1 ≤ n ∧ n ≤ 9 ∧ g j = nI n)
  | [], f, g, _, _, hR, ha, h => by
    have h : g = f := h
    subst h
    exact ⟨ha, hR, fun _ _ => rfl, fun j q => absurd q List.not_mem_nil⟩
  | c :: cs, f, g, hr, hc, hR, ha, h => by
    obtain ⟨n, h1, h9, hb, h⟩ := h
    obtain ⟨c1, c2⟩ := hc c List.mem_cons_self
    have hb : (2 * cn f uA uD W H c).testBit n = true := hb
    rw [cn_bit c2 h1 h9, Bool.and_eq_true] at hb
    have hnc : c ∉ cs := fun q => by have := hr.1 c q; omega
    obtain ⟨q1, q2, q3, q4⟩ := rch_ok hD cs _ g hr.2 (fun c' hc' => by
      have h3 := hr.1 c' hc'
      obtain ⟨d1, d2⟩ := hc c' (List.mem_cons_of_mem _ hc')
      exact ⟨d1, by rw [upd_n (by omega)]; exact d2⟩) (hR.upd c h9) (aw_step hD c1 c2 h9 ha hb.1 hb.2) h
    refine ⟨q1, q2, fun j hj => ?_, fun j hj => ?_⟩
    · rw [q3 j (fun q => hj (List.mem_cons_of_mem _ q)), upd_n (f := f) (k := c) (j := j) (fun e => hj (by rw [e]; exact List.mem_cons_self))]
    · rcases List.mem_cons.mp hj with e | e
      · subst e
        exact ⟨n, h1, h9, by rw [q3 j hnc, upd_s]⟩
      · exact q4 j e
/-- what a filling has -/
def fil (f uA uD : RowI) (W H : Nat) (g : RowI) : Prop := ∀ j, j < W * H → (f j ≠ 0 → g j = f j) ∧ (f j = 0 → ∃ n, 1 ≤ n ∧ n ≤ 9 ∧ g j = nI n ∧ (2 * cn f uA uD W H j).testBit n = true)
theorem zl_mem {f : RowI} {j : Nat} (h0 : f j = 0) : ∀ m k, k ≤ j → j < k + m → j ∈ zl f m k
  | 0, k, h1, h2 => by omega
  | m + 1, k, h1, h2 => by
    rw [zl]
    by_cases c : k = j
    · subst c; rw [if_pos h0]; exact List.mem_cons_self
    · have := zl_mem h0 m (k + 1) (by omega) (by omega)
      split
      · exact List.mem_cons_of_mem _ this
      · exact this
theorem res_good (hD : Dim W H) {f : RowI} (hR : SR f) : SI (res f uA uD W H) ∧ ((res f uA uD W H).1 ≤ 4000 → (res f uA uD W H).2.1 = min 100 (nT f uA uD W H)) ∧ ((res f uA uD W H).2.1 ≠ 0 → ∃ g, (res f uA uD W H).2.2 = some g ∧ fil f uA uD W H g) := by
  unfold res
  cases ha : aw f uA uD W H
  · rw [if_neg (by decide)]
    refine ⟨⟨Nat.zero_le _, Nat.zero_le _⟩, fun _ => ?_, fun h => absurd rfl h⟩
    have hno : ¬ ∀ k, k < W * H → f k ≠ -1 → wsp f uA false W H k = true ∧ wsp f uD true W H k = true := fun q => by
      rw [aw_iff.mpr q] at ha; cases ha
    have h0 : nT f uA uD W H = 0 := by
      refine Classical.byContradiction fun hn => hno fun k hk ho => ?_
      refine Classical.byContradiction fun hw => hn ?_
      exact cnt_no hD hk _ f (zl_ris _ _) zl_ok hR ho hw
    rw [h0]
    rfl
  · rw [if_pos rfl]
    have hG : ∀ g, rch (fun f k => cn f uA uD W H k) (zl f (W * H) 0) f g → fil f uA uD W H g := by
      intro g hg
      obtain ⟨r1, r2, r3, r4⟩ := rch_ok hD _ f g (zl_ris _ _) zl_ok hR ha hg
      intro j hj
      refine ⟨fun h => r3 j (fun q => h (zl_ok j q).2), fun h0 => ?_⟩
      obtain ⟨n, h1, h9, e⟩ := r4 j (zl_mem h0 _ _ (Nat.zero_le _) (by omega))
      refine ⟨n, h1, h9, e, ?_⟩
      have ho : ∀ i, upd f j (nI n) i = -1 ↔ g i = -1 := by
        intro i
        by_cases c : i = j
        · subst c; rw [upd_s, e]
        · rw [upd_n c]
          by_cases c2 : i ∈ zl f (W * H) 0
          · obtain ⟨n2, z1, z2, z3⟩ := r4 i c2
            rw [z3, (zl_ok i c2).2]
            exact ⟨fun q => absurd q (by decide), fun q => absurd q (nI_m1 n2 (by omega))⟩
          · rw [r3 i c2]
      have hx : ∀ i, upd f j (nI n) i = g i ∨ upd f j (nI n) i = 0 := by
        intro i
        by_cases c : i = j
        · subst c; rw [upd_s, e]; exact Or.inl rfl
        · rw [upd_n c]
          by_cases c2 : i ∈ zl f (W * H) 0
          · exact Or.inr (zl_ok i c2).2
          · exact Or.inl (r3 i c2).symm
      obtain ⟨w1, w2⟩ := aw_iff.mp r1 j hj (by rw [e]; exact nI_m1 n (by omega))
      rw [cn_bit h0 h1 h9, wsp_mono hD r2 ho hx hj w1, wsp_mono hD r2 ho hx hj w2]
      rfl
    obtain ⟨q1, q2, q3, q4⟩ := srch_good (Gd := fil f uA uD W H) (C := fun f k => cn f uA uD W H k) (zl f (W * H) 0) f (0, 0, none) hG ⟨Nat.zero_le _, Nat.zero_le _⟩ (by decide)
    refine ⟨q1, fun h => ?_, q4 (fun h => absurd rfl h)⟩
    rw [q3 h, tot_cnt hD _ f (zl_ris _ _) zl_ok hR ha]
    show min 100 (0 + _) = _
    rw [Nat.zero_add]
    rfl
end TR
