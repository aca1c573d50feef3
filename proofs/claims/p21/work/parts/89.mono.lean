/-! ===== with more stones no corridor gets well; partitions of a corridor without stones ===== -/
theorem tb_more {X n z t : Nat} (hX : X < 512) (h1 : 1 ≤ n) (h9 : n ≤ 9) (hb : (2 * X).testBit n = false) (h : tb (X ||| bv n) z t = true) : tb X (z + 1) (t + n) = true := by
  have hX2 := obv hX h9
  unfold tb at h ⊢
  rw [← SS_iff _ 9 (Nat.le_refl _)] at h ⊢
  obtain ⟨x, hx, e1, e2, e3⟩ := h
  have hx : x < 512 := hx
  have hxn : (2 * x).testBit n = false := by
    cases q : (2 * x).testBit n
    · rfl
    · have h3 := e3 n q
      rw [not_tb _ hX2 n (by omega) h1, two_ob _ h1, Nat.testBit_or, Nat.testBit_two_pow] at h3
      simp at h3
  refine ⟨x ||| bv n, obv hx h9, ?_, ?_, fun m hm => ?_⟩
  · rw [two_ob _ h1, bc_or x hx n (by omega) h1, hxn, e1]; rfl
  · rw [two_ob _ h1, sm_or x hx n (by omega) h1, hxn, e2]; rfl
  · obtain ⟨q1, q2⟩ := hi_0 (obv hx h9) hm
    rw [not_tb _ hX m q2 q1]
    rw [two_ob _ h1, Nat.testBit_or, Nat.testBit_two_pow] at hm
    by_cases c : n = m
    · subst c; rw [hb]; rfl
    · rw [decide_eq_false c, Bool.or_false] at hm
      have h3 := e3 m hm
      rw [not_tb _ hX2 m q2 q1, two_ob _ h1, Nat.testBit_or, Nat.testBit_two_pow, decide_eq_false c, Bool.or_false] at h3
      exact h3
theorem wl_one {A B : List Nat} {n s : Nat} (h9 : ∀ v ∈ A ++ 0 :: B, v ≤ 9) (h1 : 1 ≤ n) (hn : n ≤ 9) (h : wl (A ++ n :: B) s = true) : wl (A ++ 0 :: B) s = true := by
  have hz := zc_mid h1 B A
  rw [wl_mid h9 h1 hn, Bool.and_eq_true, Bool.and_eq_true, Bool.or_eq_true, Bool.and_eq_true] at h
  obtain ⟨⟨q1, q2⟩, q3⟩ := h
  unfold wl
  rw [q1, Bool.true_and, Bool.or_eq_true, Bool.and_eq_true]
  rcases q3 with q3 | ⟨q3, q4⟩
  · exact Or.inl q3
  · have q3 := of_decide_eq_true q3
    refine Or.inr ⟨decide_eq_true (by omega), ?_⟩
    have h2 := tb_more (gX_lt _ h9) h1 hn (by simpa using q2) q4
    rw [show zc (A ++ 0 :: B) - 1 + 1 = zc (A ++ 0 :: B) by omega, show s - (smD (A ++ 0 :: B) + n) + n = s - smD (A ++ 0 :: B) by omega] at h2
    exact h2
def nrel : List Nat → List Nat → Prop
  | [], [] => True
  | x :: xs, y :: ys => (x = y ∨ x = 0) ∧ nrel xs ys
  | [], _ :: _ => False
  | _ :: _, [] => False
theorem wl_mono {s : Nat} : ∀ (S' S P : List Nat), nrel S' S → (∀ v ∈ P ++ S, v ≤ 9) → wl (P ++ S) s = true → wl (P ++ S') s = true
  | [], [], _, _, _, h => h
  | [], _ :: _, _, hr, _, _ => hr.elim
  | _ :: _, [], _, hr, _, _ => hr.elim
  | x :: xs, y :: ys, P, hr, h9, h => by
    have same : ∀ z, (∀ v ∈ P ++ z :: ys, v ≤ 9) → wl (P ++ z :: ys) s = true → wl (P ++ z :: xs) s = true := fun z hz hh => by
      have := wl_mono xs ys (P ++ [z]) hr.2 (by simpa using hz) (by simpa using hh)
      simpa using this
    rcases hr.1 with e | e
    · subst e; exact same x h9 h
    · subst e
      by_cases hy : y = 0
      · subst hy; exact same 0 h9 h
      · have h90 : ∀ v ∈ P ++ 0 :: ys, v ≤ 9 := fun v hv => by
          rcases List.mem_append.mp hv with q | q
          · exact h9 v (List.mem_append_left _ q)
          · rcases List.mem_cons.mp q with q | q
            · omega
            · exact h9 v (List.mem_append_right _ (List.mem_cons_of_mem _ q))
        exact same 0 h90 (wl_one h90 (by omega) (h9 y (List.mem_append_right _ List.mem_cons_self)) h)
theorem line_rel {f g : RowI} (he : ∀ j, f j = -1 ↔ g j = -1) (hx : ∀ j, f j = g j ∨ f j = 0) (s : Nat) : ∀ n k, nrel (dg (line f s n k)) (dg (line g s n k))
  | 0, _ => trivial
  | n + 1, k => by
    rw [line_succ, line_succ]
    by_cases c : f k = -1
    · rw [if_pos c, if_pos ((he k).mp c)]; exact trivial
    · rw [if_neg c, if_neg (fun q => c ((he k).mpr q))]
      refine ⟨?_, line_rel he hx s n (k + s)⟩
      rcases hx k with q | q
      · exact Or.inl (by rw [q])
      · exact Or.inr (by rw [q]; rfl)
theorem wsp_mono {W H : Nat} {f g u : RowI} {d : Bool} (hD : Dim W H) (hR : SR g) (he : ∀ j, f j = -1 ↔ g j = -1) (hx : ∀ j, f j = g j ∨ f j = 0) {k : Nat} (hk : k < W * H) (h : wsp g u d W H k = true) : wsp f u d W H k = true := by
  unfold wsp at h ⊢
  rw [bg_cong he k]
  exact wl_mono _ _ [] (line_rel he hx _ _ _) (ln_dig hD hR (bg_lt hk)).1 h
/-! a corridor of holes alone -/
theorem gX_z : ∀ L, gX (List.replicate L 0) = 0
  | 0 => rfl
  | L + 1 => by rw [List.replicate_succ, gX, gX_z L]; rfl
theorem nzc_z : ∀ L, nzc (List.replicate L 0) = 0
  | 0 => rfl
  | L + 1 => by rw [List.replicate_succ, nzc, nzc_z L]; rfl
theorem zc_z : ∀ L, zc (List.replicate L 0) = L
  | 0 => rfl
  | L + 1 => by rw [List.replicate_succ, zc, zc_z L, if_pos rfl]; omega
theorem smD_z : ∀ L, smD (List.replicate L 0) = 0
  | 0 => rfl
  | L + 1 => by rw [List.replicate_succ, smD, smD_z L]
theorem wl_z (L s : Nat) : wl (List.replicate L 0) s = (decide (s = 0) || tb 0 L s) := by
  unfold wl
  rw [gX_z, nzc_z, zc_z, smD_z, decide_eq_true (show bcN 9 (2 * 0) = 0 by decide), Bool.true_and, decide_eq_true (Nat.zero_le s), Bool.true_and, Nat.sub_zero]
theorem nrel_z : ∀ D : List Nat, nrel (List.replicate D.length 0) D
  | [] => trivial
  | _ :: D => ⟨Or.inr rfl, nrel_z D⟩
theorem wl_tb {D : List Nat} {s : Nat} (h9 : ∀ v ∈ D, v ≤ 9) (hs : s ≠ 0) (h : wl D s = true) : tb 0 D.length s = true := by
  have h1 := wl_mono _ D [] (nrel_z D) h9 h
  rw [List.nil_append, wl_z, decide_eq_false hs, Bool.false_or] at h1
  exact h1
theorem inn_tb {c t : Nat} (ht : t ≤ 45) : 0 < inn (46 * c + t) 512 ↔ tb 0 c t = true := by
  rw [← tb_iff (z := 0) (by decide) ht]
  constructor
  · intro h
    obtain ⟨i, h1, h2⟩ := fb_ct_pos.mp h
    exact ⟨i, Nat.zero_le _, h1, isK_t.mp h2, by simp⟩
  · rintro ⟨i, _, h1, h2, _⟩
    exact fb_ct_pos.mpr ⟨i, h1, isK_t.mpr h2⟩
theorem nz_all : ∀ D : List Nat, nzc D = 0 → D = List.replicate D.length 0
  | [], _ => rfl
  | v :: D, h => by
    rw [nzc] at h
    by_cases c : v = 0
    · subst c
      rw [List.length_cons, List.replicate_succ, ← nz_all D (by omega)]
    · rw [if_neg c] at h; omega
/-! no more numbers than the ways have together -/
def hasK (K : Nat) : Nat → Nat → Bool
  | 0, _ => false
  | m + 1, n => hasK K m n || (isK K m && (2 * m).testBit n)
theorem hasK_of {K x n : Nat} (hK : kap x = K) (hn : (2 * x).testBit n = true) : ∀ m, x < m → hasK K m n = true
  | 0, h => absurd h (Nat.not_lt_zero x)
  | m + 1, h => by
    rw [hasK]
    by_cases c : x = m
    · subst c; rw [isK_t.mpr hK, hn]; simp
    · rw [hasK_of hK hn m (by omega)]; rfl
theorem ct_or_le (p q : Nat → Bool) : ∀ n, fb_ct (fun k => p k || q k) n ≤ fb_ct p n + fb_ct q n
  | 0 => Nat.le_refl _
  | n + 1 => by
    have := ct_or_le p q n
    rw [fb_ct_succ, fb_ct_succ, fb_ct_succ]
    cases p n <;> cases q n <;> simp <;> omega
theorem bcN_ct (Y : Nat) : ∀ h, bcN h Y = fb_ct (fun i => Y.testBit (i + 1)) h
  | 0 => rfl
  | h + 1 => by rw [bcN, bcN_ct Y h, fb_ct_succ]
theorem hasK_le {K L : Nat} (hL : ∀ x, x < 512 → kap x = K → bcN 9 (2 * x) = L) : ∀ m, m ≤ 512 → fb_ct (fun i => hasK K m (i + 1)) 9 ≤ inn K m * L
  | 0, _ => by
    have : fb_ct (fun i => hasK K 0 (i + 1)) 9 = 0 := fb_ct_zero.mpr fun _ _ => rfl
    omega
  | m + 1, hm => by
    have ih := hasK_le hL m (by omega)
    by_cases c : kap m = K
    · have h1 := ct_or_le (fun i => hasK K m (i + 1)) (fun i => isK K m && (2 * m).testBit (i + 1)) 9
      have h2 : fb_ct (fun i => isK K m && (2 * m).testBit (i + 1)) 9 = L := by
        rw [← hL m (by omega) c, bcN_ct]
        exact fb_ct_cong fun k _ => by rw [isK_t.mpr c, Bool.true_and]
      rw [inn_t c, Nat.succ_mul]
      show fb_ct (fun i => hasK K m (i + 1) || (isK K m && (2 * m).testBit (i + 1))) 9 ≤ _
      omega
    · rw [inn_f c]
      have h2 : isK K m = false := by
        cases q : isK K m
        · rfl
        · exact absurd (isK_t.mp q) c
      refine Nat.le_trans (Nat.le_of_eq (fb_ct_cong fun k _ => ?_)) ih
      show (hasK K m (k + 1) || (isK K m && (2 * m).testBit (k + 1))) = _
      rw [h2, Bool.false_and, Bool.or_false]
theorem union_le {K L Y : Nat} (hL : ∀ x, x < 512 → kap x = K → bcN 9 (2 * x) = L) (hY : ∀ n, 1 ≤ n → n ≤ 9 → Y.testBit n = true → ∃ x, x < 512 ∧ kap x = K ∧ (2 * x).testBit n = true) : bcN 9 Y ≤ inn K 512 * L := by
  rw [bcN_ct]
  refine Nat.le_trans (fb_ct_sub fun k hk h => ?_) (hasK_le hL 512 (Nat.le_refl _))
  obtain ⟨x, h1, h2, h3⟩ := hY (k + 1) (by omega) (by omega) h
  exact hasK_of h2 h3 512 h1
/-- a number that can stand in a corridor without stones is in one of its ways -/
theorem wl_part {A B : List Nat} {n s : Nat} (h9 : ∀ v ∈ A ++ 0 :: B, v ≤ 9) (hz : nzc (A ++ 0 :: B) = 0) (h1 : 1 ≤ n) (hn : n ≤ 9) (hs : s ≠ 0) (h : wl (A ++ n :: B) s = true) : ∃ x, x < 512 ∧ kap x = 46 * (A ++ 0 :: B).length + s ∧ (2 * x).testBit n = true := by
  have hl := len_zc (A ++ 0 :: B)
  have hzm := zc_mid h1 B A
  have hall := nz_all _ hz
  have g0 : gX (A ++ 0 :: B) = 0 := by rw [hall, gX_z]
  have s0 : smD (A ++ 0 :: B) = 0 := by rw [hall, smD_z]
  rw [wl_mid h9 h1 hn, Bool.and_eq_true, Bool.and_eq_true, Bool.or_eq_true, Bool.and_eq_true] at h
  obtain ⟨_, q3⟩ := h
  rcases q3 with q3 | ⟨q3, q4⟩
  · exact absurd (of_decide_eq_true q3) hs
  · have q3 := of_decide_eq_true q3
    have hb0 : (2 * 0).testBit n = false := by simp
    have hv := obv (x := 0) (by decide) hn
    rw [g0, s0] at q4
    rw [s0] at q3
    unfold tb at q4
    rw [← SS_iff _ 9 (Nat.le_refl _)] at q4
    obtain ⟨x, hx, e1, e2, e3⟩ := q4
    have hx : x < 512 := hx
    have hxn : (2 * x).testBit n = false := by
      cases q : (2 * x).testBit n
      · rfl
      · have h3 := e3 n q
        rw [not_tb _ hv n (by omega) h1, two_ob _ h1, Nat.testBit_or, Nat.testBit_two_pow] at h3
        simp at h3
    refine ⟨x ||| bv n, obv hx hn, ?_, ?_⟩
    · unfold kap
      rw [two_ob _ h1, bc_or x hx n (by omega) h1, sm_or x hx n (by omega) h1, hxn, e1, e2, if_neg (by decide), if_neg (by decide)]
      omega
    · rw [two_ob _ h1, Nat.testBit_or, Nat.testBit_two_pow]
      simp
