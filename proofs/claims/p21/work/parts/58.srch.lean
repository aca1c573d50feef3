/-! ===== the search for fillings: what both answer ===== -/
/-- tries, ways, the first filling -/
abbrev SA : Type := Nat × Nat × Option RowI
def over (a : SA) : Bool := decide (4000 < a.1) || decide (100 ≤ a.2.1)
def srl (P : Nat → Bool) (R : Nat → SA → SA) : Nat → Nat → SA → SA
  | 0, _, a => a
  | m + 1, n, a => if over a then a else srl P R m (n + 1) (if a.1 + 1 ≤ 4000 ∧ P n = true then R n (a.1 + 1, a.2) else (a.1 + 1, a.2))
def srch (C : RowI → Nat → Nat) : List Nat → RowI → SA → SA
  | [], f, a => (a.1, a.2.1 + 1, if a.2.1 = 0 then some f else a.2.2)
  | c :: cs, f, a => srl (fun n => (2 * C f c).testBit n) (fun n b => srch C cs (upd f c (nI n)) b) 9 1 a
/-- what holds of tries and ways at any time -/
def SI (a : SA) : Prop := a.1 ≤ 4001 ∧ a.2.1 ≤ 100
theorem over_f {a : SA} (h : over a = false) : a.1 ≤ 4000 ∧ a.2.1 < 100 := by
  unfold over at h
  rw [Bool.or_eq_false_iff] at h
  have h1 := of_decide_eq_false h.1
  have h2 := of_decide_eq_false h.2
  omega
theorem over_t {a : SA} (h : over a = true) : ¬ (a.1 ≤ 4000 ∧ a.2.1 < 100) := by
  unfold over at h
  rw [Bool.or_eq_true] at h
  rcases h with h | h
  · have := of_decide_eq_true h; omega
  · have := of_decide_eq_true h; omega
/-- a row that holds the first filling -/
def KR (a : SA) (ke : RowI) : Prop := a.2.1 ≠ 0 → ∃ g, a.2.2 = some g ∧ ∀ j, j < 36 → ke j = g j
/-- the cells without a stone from k on -/
def zl (f : RowI) : Nat → Nat → List Nat
  | 0, _ => []
  | m + 1, k => if f k = 0 then k :: zl f m (k + 1) else zl f m (k + 1)
theorem zl_cong {f g : RowI} : ∀ m k, (∀ j, k ≤ j → f j = g j) → zl f m k = zl g m k
  | 0, _, _ => rfl
  | m + 1, k, h => by rw [zl, zl, h k (Nat.le_refl _), zl_cong m (k + 1) (fun j hj => h j (by omega))]
theorem zl_len {f : RowI} : ∀ m k, (zl f m k).length ≤ m
  | 0, _ => Nat.le_refl _
  | m + 1, k => by
    have := zl_len (f := f) m (k + 1)
    rw [zl]
    split
    · rw [List.length_cons]; omega
    · omega
theorem zl_in {f : RowI} : ∀ m k, ∀ c ∈ zl f m k, k ≤ c ∧ c < k + m ∧ f c = 0
  | 0, _, c, h => absurd h List.not_mem_nil
  | m + 1, k, c, h => by
    rw [zl] at h
    split at h
    · rcases List.mem_cons.mp h with q | q
      · subst q; exact ⟨Nat.le_refl _, by omega, by assumption⟩
      · have := zl_in m (k + 1) c q
        exact ⟨by omega, by omega, this.2.2⟩
    · have := zl_in m (k + 1) c h
      exact ⟨by omega, by omega, this.2.2⟩
/-- rising -/
def ris : List Nat → Prop
  | [] => True
  | c :: cs => (∀ x ∈ cs, c < x) ∧ ris cs
theorem zl_ris {f : RowI} : ∀ m k, ris (zl f m k)
  | 0, _ => trivial
  | m + 1, k => by
    rw [zl]
    split
    · exact ⟨fun x hx => by have := zl_in m (k + 1) x hx; omega, zl_ris m (k + 1)⟩
    · exact zl_ris m (k + 1)
/-! ===== the class ===== -/
section SC
variable {W H : Nat} {cA cD : CS} {su : RowJ} {N : Nat}
theorem unknown_n {t : Nat} (ht : t < 2 ^ 31) : mX3_isUnknown N (nI t) = some (if 4000 < t then 1 else 0) := by
  rw [mX3_isUnknown]
  by_cases h : 4000 < t
  · rw [if_neg (show ¬ nI t ≤ (4000 : Int32) from nI_ge (a := 4000) h ht), if_pos h]
  · rw [if_pos (show nI t ≤ (4000 : Int32) from nI_le (b := 4000) (by omega) (by omega)), if_neg h]
theorem isOver_c {a : SA} (h : SI a) : mX3_isOver N (nI a.1) (nI a.2.1) = some (if over a = true then 1 else 0) := by
  obtain ⟨h1, h2⟩ := h
  rw [mX3_isOver, unknown_n (by omega), Option.bind_some]
  unfold over
  by_cases c : 4000 < a.1
  · rw [if_pos c, if_neg (by decide), decide_eq_true c, Bool.true_or, if_pos rfl]
  · rw [if_neg c, if_pos rfl, decide_eq_false c, Bool.false_or]
    by_cases e : 100 ≤ a.2.1
    · rw [if_neg (show ¬ nI a.2.1 < (100 : Int32) from nI_nlt (b := 100) e (by omega)), decide_eq_true e, if_pos rfl]
    · rw [if_pos (show nI a.2.1 < (100 : Int32) from nI_lt (b := 100) (by omega) (by omega)), decide_eq_false e, if_neg (by decide)]
theorem keep_9 {f : RowI} {fo : Int32} : ∀ m n k ke, m < n → k + m = 36 → (∀ j, j < k → ke j = f j) → ∃ ke', mX3_keepFilling_9 N fo f n (nI k) ke = some (ke', fo + 1) ∧ ∀ j, j < 36 → ke' j = f j := by
  intro m
  induction m with
  | zero =>
    intro n k ke hn hk h
    obtain ⟨n, rfl⟩ : ∃ j, n = j + 1 := ⟨n - 1, by omega⟩
    obtain rfl : k = 36 := by omega
    rw [s_mX3_keepFilling_9, if_pos (by decide)]
    exact ⟨ke, rfl, h⟩
  | succ m ih =>
    intro n k ke hn hk h
    obtain ⟨n, rfl⟩ : ∃ j, n = j + 1 := ⟨n - 1, by omega⟩
    rw [s_mX3_keepFilling_9, if_neg (show ¬ (36 : Int32) ≤ nI k from nI_ge (b := 36) (by omega) (by omega)), mX1_stoneAt, rd_n (by omega), Option.bind_some, wr_n (by omega), nI_1]
    refine ih n (k + 1) _ (by omega) (by omega) (fun j hj => ?_)
    by_cases e : j = k
    · subst e; rw [upd_s]
    · rw [upd_n e]; exact h j (by omega)
theorem fill_14 (hN : 600 ≤ N) (R : RowI → RowI → Int32 → Int32 → Int32 → RowI → CS → CS → RowJ → Int32 → Option (RowI × Int32 × Int32 × RowI)) {f ke : RowI} {a : SA} (h : SI a) (hk : KR a ke) (t : Int32) : ∃ ke', mX3_fillFrom_14 N R ke t (nI a.2.1) f = some (ke', t, nI (a.2.1 + 1), f) ∧ KR (a.1, a.2.1 + 1, if a.2.1 = 0 then some f else a.2.2) ke' := by
  rw [mX3_fillFrom_14, mX3_keepFilling]
  by_cases c : a.2.1 = 0
  · obtain ⟨ke', h1, h2⟩ := keep_9 (N := N) (f := f) (fo := nI a.2.1) 36 N 0 ke (by omega) (by omega) (fun j h => absurd h (Nat.not_lt_zero _))
    rw [if_pos (by rw [c]; exact nI_0), show (0 : Int32) = nI 0 from rfl, h1, Option.bind_some, nI_1]
    refine ⟨ke', rfl, fun _ => ⟨f, ?_, h2⟩⟩
    show (if a.2.1 = 0 then some f else a.2.2) = some f
    rw [if_pos c]
  · rw [if_neg (nI_ne0 (by omega) (by have := h.2; omega)), Option.bind_some, show nI a.2.1 + (1 : Int32) = nI (a.2.1 + 1) from nI_1 _]
    refine ⟨ke, rfl, fun _ => ?_⟩
    show ∃ g, (if a.2.1 = 0 then some f else a.2.2) = some g ∧ _
    rw [if_neg c]
    exact hk c
theorem fill_43 (hN : 600 ≤ N) (R : RowI → RowI → Int32 → Int32 → Int32 → RowI → CS → CS → RowJ → Int32 → Option (RowI × Int32 × Int32 × RowI)) (ho : RowI) (hc : Int32) (p : Nat) (f : RowI) {c F : Nat} (hc36 : c < 36) (h0 : f c = 0) (R' : Nat → SA → SA)
    (hR : ∀ n a ke, 1 ≤ n → n ≤ 9 → SI a → a.2.1 < 100 → a.1 ≤ 4000 → KR a ke → ∃ ke', R ho ke hc (nI a.1) (nI a.2.1) (upd f c (nI n)) cA cD su (nI (p + 1)) = some (ke', nI (R' n a).1, nI (R' n a).2.1, upd f c (nI n)) ∧ KR (R' n a) ke' ∧ SI (R' n a)) :
    ∀ m n k a ke g, m < n → k + m = 10 → 1 ≤ k → SI a → KR a ke → (∀ x, upd g c x = upd f c x) → ∃ ke', mX3_fillFrom_43 N R ho hc cA cD su (nI p) n (nI c) (nI (2 * F)) (nI k) ke (nI a.1) (nI a.2.1) g = some (ke', nI (srl (fun n => (2 * F).testBit n) R' m k a).1, nI (srl (fun n => (2 * F).testBit n) R' m k a).2.1, f) ∧ KR (srl (fun n => (2 * F).testBit n) R' m k a) ke' ∧ SI (srl (fun n => (2 * F).testBit n) R' m k a) := by
  have hend : ∀ (g ke : RowI) (t w : Int32), (∀ x, upd g c x = upd f c x) → mX3_fillFrom_104 N R (nI c) ke t w g = some (ke, t, w, f) := by
    intro g ke t w hg
    rw [mX3_fillFrom_104, mX1_lay, wr_n hc36, Option.bind_some, hg, upd_id h0]
  intro m
  induction m with
  | zero =>
    intro n k a ke g hn hk h1 hS hK hg
    obtain ⟨n, rfl⟩ : ∃ j, n = j + 1 := ⟨n - 1, by omega⟩
    obtain rfl : k = 10 := by omega
    rw [s_mX3_fillFrom_43, if_pos (show (9 : Int32) < nI 10 by decide), hend g ke _ _ hg]
    exact ⟨ke, rfl, hK, hS⟩
  | succ m ih =>
    intro n k a ke g hn hk h1 hS hK hg
    obtain ⟨n, rfl⟩ : ∃ j, n = j + 1 := ⟨n - 1, by omega⟩
    rw [s_mX3_fillFrom_43, if_neg (show ¬ (9 : Int32) < nI k from nI_nlt (a := 9) (by omega) (by omega)), isOver_c hS, Option.bind_some, bq]
    rw [srl]
    cases ho1 : over a
    · obtain ⟨o1, o2⟩ := over_f ho1
      rw [if_neg (by decide), if_neg (by decide), show nI a.1 + (1 : Int32) = nI (a.1 + 1) from nI_1 _, unknown_n (by omega), Option.bind_some, has_n (by omega), nI_1]
      have skip : SI (a.1 + 1, a.2) := ⟨by show a.1 + 1 ≤ 4001; omega, hS.2⟩
      by_cases c1 : 4000 < a.1 + 1
      · rw [if_pos c1, if_neg (show ¬ (1 : Int32) = 0 by decide), if_neg (show ¬ (a.1 + 1 ≤ 4000 ∧ (2 * F).testBit k = true) by omega)]
        exact ih n (k + 1) (a.1 + 1, a.2) ke g (by omega) (by omega) (by omega) skip hK hg
      · rw [if_neg c1, if_pos rfl, Option.bind_some]
        cases hb : (2 * F).testBit k
        · rw [if_neg (show ¬ (a.1 + 1 ≤ 4000 ∧ false = true) by simp)]
          exact ih n (k + 1) (a.1 + 1, a.2) ke g (by omega) (by omega) (by omega) skip hK hg
        · obtain ⟨ke1, e1, e2, e3⟩ := hR k (a.1 + 1, a.2) ke h1 (by omega) skip o2 (by show a.1 + 1 ≤ 4000; omega) hK
          rw [if_pos (show a.1 + 1 ≤ 4000 ∧ true = true from ⟨by omega, rfl⟩)]
          have e1 : R ho ke hc (nI (a.1 + 1)) (nI a.2.1) (upd f c (nI k)) cA cD su (nI (p + 1)) = _ := e1
          show ∃ ke', (if (1 : Int32) = 0 then _ else ((mX1_lay N g (nI c) (nI k)).bind _)) = _ ∧ _
          rw [if_neg (show ¬ (1 : Int32) = 0 by decide), mX1_lay, wr_n hc36, Option.bind_some, hg, show nI p + (1 : Int32) = nI (p + 1) from nI_1 p, e1, Option.bind_some]
          exact ih n (k + 1) _ ke1 _ (by omega) (by omega) (by omega) e3 e2 (fun x => upd_upd)
    · rw [if_pos rfl, if_pos rfl, hend g ke _ _ hg]
      exact ⟨ke, rfl, hK, hS⟩
theorem fillFrom_n (hN : 600 ≤ N) (ho : RowI) {hc : Nat} (hc36 : hc ≤ 36) : ∀ (cs : List Nat) d p f a ke, cs.length < d → p + cs.length = hc → (∀ i (h : i < cs.length), ho (p + i) = nI (cs[i])) → ris cs → (∀ c ∈ cs, c < W * H ∧ f c = 0) → ST W H f cA cD su → SI a → a.2.1 < 100 → KR a ke →
    ∃ ke', mX3_fillFrom N d ho ke (nI hc) (nI a.1) (nI a.2.1) f cA cD su (nI p) = some (ke', nI (srch (fun f k => cn f cA.1 cD.1 W H k) cs f a).1, nI (srch (fun f k => cn f cA.1 cD.1 W H k) cs f a).2.1, f) ∧ KR (srch (fun f k => cn f cA.1 cD.1 W H k) cs f a) ke' ∧ SI (srch (fun f k => cn f cA.1 cD.1 W H k) cs f a) := by
  intro cs
  induction cs with
  | nil =>
    intro d p f a ke hd hp _ _ _ _ hI h100 hK
    obtain ⟨d, rfl⟩ : ∃ j, d = j + 1 := ⟨d - 1, by omega⟩
    simp only [List.length_nil, Nat.add_zero] at hp
    subst hp
    rw [s_mX3_fillFrom, if_pos (nI_le (Nat.le_refl p) (by omega))]
    obtain ⟨ke', h1, h2⟩ := fill_14 hN (mX3_fillFrom N d) (f := f) hI hK (nI a.1)
    exact ⟨ke', h1, h2, hI.1, by show a.2.1 + 1 ≤ 100; omega⟩
  | cons c cs ih =>
    intro d p f a ke hd hp hho hris hz hS hI h100 hK
    obtain ⟨d, rfl⟩ : ∃ j, d = j + 1 := ⟨d - 1, by omega⟩
    simp only [List.length_cons] at hd hp
    have g36 := dim36 hS.1
    obtain ⟨hcW, hc0⟩ := hz c List.mem_cons_self
    have e0 : ho p = nI c := hho 0 (by simp)
    rw [s_mX3_fillFrom, if_neg (nI_ge (show p < hc by omega) (by omega)), if_pos (show nI p < (36 : Int32) from nI_lt (b := 36) (by omega) (by omega)), rd_n (by omega), e0, can_c hN hS hcW, Option.bind_some]
    exact fill_43 hN (mX3_fillFrom N d) ho (nI hc) p f (by omega) hc0 (fun n b => srch (fun f k => cn f cA.1 cD.1 W H k) cs (upd f c (nI n)) b) (fun n b ke1 h1 h9 bI b100 _ bK =>
      ih d (p + 1) (upd f c (nI n)) b ke1 (by omega) (by omega) (fun i h => by
        have := hho (i + 1) (by simp; omega)
        rw [show p + 1 + i = p + (i + 1) by omega, this]
        rfl) hris.2 (fun x hx => by
        have := hris.1 x hx
        obtain ⟨q1, q2⟩ := hz x (List.mem_cons_of_mem _ hx)
        exact ⟨q1, by rw [upd_n (by omega)]; exact q2⟩) (hS.upd (by rw [hc0]; decide) h9) bI b100 bK) 9 N 1 a ke f (by omega) (by omega) (by omega) hI hK (fun _ => rfl)
theorem holes_2 (hD : Dim W H) {f : RowI} : ∀ m n k ho (L : List Nat), m < n → k + m = W * H → L.length ≤ k → (∀ i (h : i < L.length), ho i = nI (L[i])) → ∃ ho', mX3_collectHoles_2 N f (nI W) (nI H) n (nI k) ho (nI L.length) = some (ho', nI (L ++ zl f m k).length) ∧ ∀ i (h : i < (L ++ zl f m k).length), ho' i = nI ((L ++ zl f m k)[i]) := by
  have g36 := dim36 hD
  intro m
  induction m with
  | zero =>
    intro n k ho L hn hk hL h
    obtain ⟨n, rfl⟩ : ∃ j, n = j + 1 := ⟨n - 1, by omega⟩
    rw [s_mX3_collectHoles_2, mX1_cells, pk_mul, Option.bind_some, if_pos (nI_le (by omega) (by omega))]
    simp only [zl, List.append_nil]
    exact ⟨ho, rfl, h⟩
  | succ m ih =>
    intro n k ho L hn hk hL h
    obtain ⟨n, rfl⟩ : ∃ j, n = j + 1 := ⟨n - 1, by omega⟩
    rw [s_mX3_collectHoles_2, mX1_cells, pk_mul, Option.bind_some, if_neg (nI_ge (by omega) (by omega)), mX1_isHole, rd_n (by omega), nI_1, zl]
    by_cases c : f k = 0
    · rw [if_pos c, if_pos c, Option.bind_some, if_neg (by decide), wr_n (by omega)]
      have := ih n (k + 1) (upd ho L.length (nI k)) (L ++ [k]) (by omega) (by omega) (by simp; omega) (fun i hi => by
        simp only [List.length_append, List.length_cons, List.length_nil] at hi
        rcases Nat.lt_or_ge i L.length with q | q
        · rw [upd_n (by omega), h i q, List.getElem_append_left q]
        · have e : i = L.length := by omega
          subst e
          rw [upd_s]
          simp)
      rw [List.append_assoc] at this
      simp only [List.length_append, List.length_cons, List.length_nil, List.singleton_append] at this ⊢
      rw [show nI L.length + (1 : Int32) = nI (L.length + 1) from nI_1 _]
      exact this
    · rw [if_neg c, if_neg c, Option.bind_some, if_pos rfl]
      exact ih n (k + 1) ho L (by omega) (by omega) (by omega) h
end SC
/-- what is found of a floor -/
def res (f uA uD : RowI) (W H : Nat) : SA := if aw f uA uD W H = true then srch (fun f k => cn f uA uD W H k) (zl f (W * H) 0) f (0, 0, none) else (0, 0, none)
theorem refresh_n {W H N : Nat} {f : RowI} {cA cD : CS} {su : RowJ} (hN : 600 ≤ N) (hS : ST W H f cA cD su) (ho ke : RowI) (hc tr fo : Int32) : ∃ ho' ke' hc', mX3_refresh N ho ke hc tr fo 0 f (nI W) (nI H) cA cD su = some (ho', ke', hc', nI (res f cA.1 cD.1 W H).1, nI (res f cA.1 cD.1 W H).2.1, 1, f) ∧ KR (res f cA.1 cD.1 W H) ke' ∧ SI (res f cA.1 cD.1 W H) := by
  have g36 := dim36 hS.1
  rw [mX3_refresh, if_pos rfl, allWell_c hN hS, Option.bind_some, bq]
  unfold res
  cases aw f cA.1 cD.1 W H
  · rw [if_neg (by decide), if_neg (by decide)]
    exact ⟨ho, ke, 0, rfl, fun h => absurd rfl h, by show 0 ≤ 4001; omega, by show 0 ≤ 100; omega⟩
  · obtain ⟨ho', h1, h2⟩ := holes_2 (N := N) (f := f) hS.1 (W * H) N 0 ho [] (by omega) (by omega) (Nat.le_refl _) (fun i h => by simp at h)
    have h1 : mX3_collectHoles_2 N f (nI W) (nI H) N 0 ho 0 = some (ho', nI (zl f (W * H) 0).length) := h1
    have hlen := zl_len (f := f) (W * H) 0
    obtain ⟨ke', q1, q2, q3⟩ := fillFrom_n (W := W) (H := H) (cA := cA) (cD := cD) (su := su) hN ho' (hc := (zl f (W * H) 0).length) (by omega) (zl f (W * H) 0) 40 0 f (0, 0, none) ke (by omega) (by omega) (fun i h => by rw [Nat.zero_add]; exact h2 i h) (zl_ris _ _) (fun c hc => by
      have := zl_in _ _ c hc
      exact ⟨by omega, this.2.2⟩) hS ⟨by show 0 ≤ 4001; omega, by show 0 ≤ 100; omega⟩ (by show 0 < 100; omega) (fun h => absurd rfl h)
    have q1 : mX3_fillFrom N 40 ho' ke (nI (zl f (W * H) 0).length) 0 0 f cA cD su 0 = _ := q1
    rw [if_pos rfl, if_pos rfl, mX3_collectHoles, h1, Option.bind_some, q1, Option.bind_some]
    exact ⟨ho', ke', _, rfl, q2, q3⟩
