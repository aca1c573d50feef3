/-! ===== one turn of the law: the cells and their corridors ===== -/
abbrev KT87 : Type := RowI → Int32 → Int32 → Int32 → Int32 → Int32 → Int32 → Int32 → Int32 → Int32 → Int32 → RowI → Int32 → Int32 → CS → CS → Int32 → Int32 → Nat → Nat → RowR → RowR → RowR → Option Int32
abbrev KT226 : Type := RowI → Int32 → Int32 → Int32 → Int32 → Int32 → Int32 → Int32 → Int32 → Int32 → Int32 → Int32 → Int32 → Int32 → Int32 → RowI → Int32 → Int32 → CS → CS → Int32 → Int32 → Nat → Nat → RowR → RowR → RowR → Option Int32
section LC
variable {W H : Nat} {f uA uD : RowI}
theorem cn_none (hD : Dim W H) (hR : SR f) {k : Nat} (hk : k < W * H) {d : Bool} (hw : wsp f (uD2 uA uD d) d W H k = false) : cn f uA uD W H k = 0 := by
  unfold cn
  by_cases c : f k = 0
  · rw [if_pos c]
    refine stf_no fun i h1 h9 => ?_
    obtain ⟨x1, x2⟩ := ext_ok (n := i) c h9
    have hR2 := hR.upd k h9
    have key : wsp (upd f k (nI i)) (uD2 uA uD d) d W H k = false := by
      cases q : wsp (upd f k (nI i)) (uD2 uA uD d) d W H k
      · rfl
      · rw [wsp_mono hD hR2 x1 x2 hk q] at hw; cases hw
    cases d
    · show (wsp (upd f k (nI i)) uA false W H k && _) = false
      rw [show wsp (upd f k (nI i)) uA false W H k = false from key]; rfl
    · show (_ && wsp (upd f k (nI i)) uD true W H k) = false
      rw [show wsp (upd f k (nI i)) uD true W H k = false from key, Bool.and_false]
  · rw [if_neg c]
theorem many_le (hD : Dim W H) (hR : SR f) {k : Nat} (hk : k < W * H) {d : Bool} {s : Nat} (hs45 : s ≤ 45) (hs : s ≠ 0) (hu : uD2 uA uD d (bg f d W k) = nI s) (hz : nzc (dg (ln f d W H (bg f d W k))) = 0) (hl6 : (dg (ln f d W H (bg f d W k))).length ≤ 6) : bq1 f uA uD W H k ≤ inn (46 * (dg (ln f d W H (bg f d W k))).length + s) 512 * (dg (ln f d W H (bg f d W k))).length := by
  unfold bq1
  refine union_le (fun x hx hK => ?_) (fun n h1 h9 hb => ?_)
  · have := ((kap_iff hx).mp hK).1
    omega
  · by_cases c : f k = 0
    · rw [cn_bit c h1 h9, Bool.and_eq_true] at hb
      have hw : wsp (upd f k (nI n)) (uD2 uA uD d) d W H k = true := by cases d; exact hb.1; exact hb.2
      obtain ⟨A, B, e1, e2⟩ := ln_mid (d := d) hD hk c
      have hb9 : ∀ v ∈ dg (ln f d W H (bg f d W k)), v ≤ 9 := (ln_dig hD hR (bg_lt hk)).1
      have hbg : bg (upd f k (nI n)) d W k = bg f d W k := bg_upd (by rw [c]; decide) (nI_m1 n (by omega)) k
      unfold wsp at hw
      rw [e2 n h9, hbg, hu, nI_clamp (by omega)] at hw
      rw [e1] at hz hb9 ⊢
      exact wl_part hb9 hz h1 h9 hs hw
    · rw [cn_no c] at hb
      simp at hb
theorem nzc_len : ∀ D : List Nat, nzc D ≤ D.length
  | [] => Nat.le_refl _
  | v :: D => by
    have := nzc_len D
    rw [nzc, List.length_cons]
    split <;> omega
theorem tl_bg {u : RowI} {d : Bool} (hD : Dim W H) {k : Nat} (hk : k < W * H) (ho : f k ≠ -1) (what : Int32) : tl f u d W H (bg f d W k) what = tl f u d W H k what := by
  unfold tl
  rw [if_neg ho, if_neg (bg_open hD k hk ho), bg_bg hD k hk, wsp_bg hD hk]
end LC
section LX
variable {N : Nat} {st : RowI} {cA cD : CS} {su : RowJ} {W H : Nat} {gS gA gD : RowR} {K22 : KT22} {t3 o : Int32} {L : Nat} {xs : Nat → Int32}
/-- one way of one cell -/
theorem law_243 (hN : 600 ≤ N) (hS : ST W H st cA cD su) {k : Nat} (hk : k < W * H) (d : Bool) (ho ke : RowI) (hc tr fo fr : Int32) (K87 : KT87) (K226 : KT226) (fL : RowI) (v4 v5 v6 v7 v8 v9 v10 v11 : Int32) :
    mL_law_243 L xs N ho ke hc tr fo su t3 K22 K87 K226 fL v4 v5 v6 v7 v8 v9 v10 v11 (nI k) (st k) (nI (2 * cn st cA.1 cD.1 W H k)) (nI (bq1 st cA.1 cD.1 W H k)) (nI (dn d)) (nI (dn d)) fr st (nI W) (nI H) cA cD (nI W) (nI H) W H gS gA gD = K226 (if bgn st d W k = true then upd fL (dn d) (fL (dn d) + nI (ln st d W H (bg st d W k)).length) else fL) v4 v5 v6 v7 (v8 + oneb (bgn st d W k)) (v9 + oneb (wlb st (uD2 cA.1 cD.1 d) d W H k)) v10 v11 (nI k) (st k) (nI (2 * cn st cA.1 cD.1 W H k)) (nI (bq1 st cA.1 cD.1 W H k)) (nI (dn d) + 1) fr st (nI W) (nI H) cA cD (nI W) (nI H) W H gS gA gD := by
  have hD := hS.1
  have g36 := dim36 hD
  have hb : bg st d W k < W * H := bg_lt hk
  have hbg : (nI (bg st d W k) = nI k) ↔ bg st d W k = k := nI_eq (by omega) (by omega)
  have i0 : ∀ x : Int32, x + 0 = x := fun x => Int32.add_zero x
  have hdn := dn_le d
  obtain ⟨n1, n2⟩ := st_neg hS hk
  have c0 := a_corr hN hS hk d (v := 0) (by omega)
  have c0 : mX4_corridor N st (nI W) (nI H) cA cD su (nI k) (nI (dn d)) (0 : Int32) = some (.inr (tl st (uD2 cA.1 cD.1 d) d W H k (0 : Int32))) := c0
  have c1 := a_corr hN hS hk d (v := 1) (by omega)
  have c1 : mX4_corridor N st (nI W) (nI H) cA cD su (nI k) (nI (dn d)) (1 : Int32) = some (.inr (tl st (uD2 cA.1 cD.1 d) d W H k (1 : Int32))) := c1
  have c2 := a_corr hN hS hk d (v := 2) (by omega)
  have c2 : mX4_corridor N st (nI W) (nI H) cA cD su (nI k) (nI (dn d)) (2 : Int32) = some (.inr (tl st (uD2 cA.1 cD.1 d) d W H k (2 : Int32))) := c2
  have c3 := a_corr hN hS hk d (v := 3) (by omega)
  have c3 : mX4_corridor N st (nI W) (nI H) cA cD su (nI k) (nI (dn d)) (3 : Int32) = some (.inr (tl st (uD2 cA.1 cD.1 d) d W H k (3 : Int32))) := c3
  have c5 := a_corr hN hS hk d (v := 5) (by omega)
  have c5 : mX4_corridor N st (nI W) (nI H) cA cD su (nI k) (nI (dn d)) (5 : Int32) = some (.inr (tl st (uD2 cA.1 cD.1 d) d W H k (5 : Int32))) := c5
  rw [mL_law_243, c0]
  dsimp only [Option.bind_some, Sum.elim_inr]
  by_cases c : st k = -1
  · have hbf : bgn st d W k = false := by unfold bgn; rw [decide_eq_false (fun q => q c)]; rfl
    have hw : wlb st (uD2 cA.1 cD.1 d) d W H k = false := by unfold wlb; rw [hbf]; rfl
    have e0 : tl st (uD2 cA.1 cD.1 d) d W H k 0 = -1 := by unfold tl; rw [if_pos c]
    rw [e0, if_neg (show ¬ 0 ≤ (-1 : Int32) by decide), mL_law_266, if_neg (fun q => n2.mp q c), mL_law_276, if_pos rfl, if_neg (show ¬ 0 ≤ (-1 : Int32) by decide), hbf, hw, oneb_f, i0, i0, if_neg (show ¬ (false = true) by decide)]
  · have hU : UR (uD2 cA.1 cD.1 d) := by cases d; exact hS.2.2.2.2.1; exact hS.2.2.2.2.2.1
    obtain ⟨s, hs45, hus⟩ := hU _ (show bg st d W k < 36 by omega)
    obtain ⟨l1, l6⟩ := len_pos (d := d) hD hk c
    obtain ⟨h9, _⟩ := ln_dig (d := d) hD hS.2.1 hb
    have hdl : (dg (ln st d W H (bg st d W k))).length = (ln st d W H (bg st d W k)).length := by unfold dg; rw [List.length_map]
    have hnz := nzc_len (dg (ln st d W H (bg st d W k)))
    have hb9 := bq1_le st cA.1 cD.1 W H k
    have e0 : tl st (uD2 cA.1 cD.1 d) d W H k 0 = nI (bg st d W k) := by unfold tl; rw [if_neg c, if_pos rfl]
    have e1 : tl st (uD2 cA.1 cD.1 d) d W H k 1 = nI (ln st d W H (bg st d W k)).length := by unfold tl; rw [if_neg c, if_neg (by decide), if_pos rfl, hdl]
    have e2 : tl st (uD2 cA.1 cD.1 d) d W H k 2 = nI s := by unfold tl; rw [if_neg c, if_neg (by decide), if_neg (by decide), if_pos rfl, hus]
    have e3 : tl st (uD2 cA.1 cD.1 d) d W H k 3 = nI (nzc (dg (ln st d W H (bg st d W k)))) := by unfold tl; rw [if_neg c, if_neg (by decide), if_neg (by decide), if_neg (by decide), if_pos rfl]
    have e5 : tl st (uD2 cA.1 cD.1 d) d W H k 5 = (if wsp st (uD2 cA.1 cD.1 d) d W H k = true then (1 : Int32) else 0) := by unfold tl; rw [if_neg c, if_neg (by decide), if_neg (by decide), if_neg (by decide), if_neg (by decide), if_neg (by decide)]
    have hwd : wsp st (uD2 cA.1 cD.1 d) d W H k = wl (dg (ln st d W H (bg st d W k))) s := by unfold wsp; rw [hus, nI_clamp (by omega)]
    -- the end of a way
    have s500 : mL_law_500 L xs N ho ke hc tr fo su t3 K22 K87 K226 fL v4 v5 v6 v7 v8 v9 v10 v11 (nI k) (st k) (nI (2 * cn st cA.1 cD.1 W H k)) (nI (bq1 st cA.1 cD.1 W H k)) (nI (dn d)) (nI (bg st d W k)) (nI (ln st d W H (bg st d W k)).length) (if wsp st (uD2 cA.1 cD.1 d) d W H k = true then (1 : Int32) else 0) fr st (nI W) (nI H) cA cD (nI W) (nI H) W H gS gA gD = K226 (if bgn st d W k = true then upd fL (dn d) (fL (dn d) + nI (ln st d W H (bg st d W k)).length) else fL) v4 v5 v6 v7 (v8 + oneb (bgn st d W k)) (v9 + oneb (wlb st (uD2 cA.1 cD.1 d) d W H k)) v10 v11 (nI k) (st k) (nI (2 * cn st cA.1 cD.1 W H k)) (nI (bq1 st cA.1 cD.1 W H k)) (nI (dn d) + 1) fr st (nI W) (nI H) cA cD (nI W) (nI H) W H gS gA gD := by
      rw [mL_law_500]
      by_cases cb : bg st d W k = k
      · have hbt : bgn st d W k = true := bgn_t.mpr ⟨c, cb⟩
        have hw6 : wlb st (uD2 cA.1 cD.1 d) d W H k = wsp st (uD2 cA.1 cD.1 d) d W H k := by unfold wlb; rw [hbt, Bool.true_and]
        have k525 : ∀ y : Int32, mL_law_525 L xs N ho ke hc tr fo su t3 K22 K87 K226 fL v4 v5 v6 v7 (v8 + 1) v10 v11 (nI k) (st k) (nI (2 * cn st cA.1 cD.1 W H k)) (nI (bq1 st cA.1 cD.1 W H k)) (nI (dn d)) (nI (ln st d W H (bg st d W k)).length) y v9 fr st (nI W) (nI H) cA cD (nI W) (nI H) W H gS gA gD = K226 (upd fL (dn d) (fL (dn d) + nI (ln st d W H (bg st d W k)).length)) v4 v5 v6 v7 (v8 + 1) (v9 + y) v10 v11 (nI k) (st k) (nI (2 * cn st cA.1 cD.1 W H k)) (nI (bq1 st cA.1 cD.1 W H k)) (nI (dn d) + 1) fr st (nI W) (nI H) cA cD (nI W) (nI H) W H gS gA gD := by
          intro y
          rw [mL_law_525, if_neg (bad_n (by omega) (by omega)), if_neg (bad_n (by omega) (by omega)), nI_clamp (by omega)]
        rw [if_pos (hbg.mpr cb), hbt, hw6, oneb_t, if_pos rfl, k525, k525]
        cases hwb : wsp st (uD2 cA.1 cD.1 d) d W H k
        · rw [if_neg (show ¬ (false = true) by decide), if_pos rfl]; rfl
        · rw [if_pos rfl, if_neg (show ¬ (1 : Int32) = 0 by decide)]; rfl
      · have hbf : bgn st d W k = false := by unfold bgn; rw [decide_eq_false cb, Bool.and_false]
        have hw : wlb st (uD2 cA.1 cD.1 d) d W H k = false := by unfold wlb; rw [hbf]; rfl
        rw [if_neg (fun q => cb (hbg.mp q)), hbf, hw, oneb_f, i0, i0, if_neg (show ¬ (false = true) by decide)]
    -- the sum and the ways
    have s454 : ∀ y : Int32, (s = 0 ∨ y = nI (inn (46 * (ln st d W H (bg st d W k)).length + s) 512)) → mL_law_454 L xs N ho ke hc tr fo su t3 K22 K87 K226 fL v4 v5 v6 v7 v8 v9 v10 v11 (nI k) (st k) (nI (2 * cn st cA.1 cD.1 W H k)) (nI (bq1 st cA.1 cD.1 W H k)) (nI (dn d)) (nI (dn d)) (nI (bg st d W k)) (nI (ln st d W H (bg st d W k)).length) (nI s) (if wsp st (uD2 cA.1 cD.1 d) d W H k = true then (1 : Int32) else 0) y fr st (nI W) (nI H) cA cD (nI W) (nI H) W H gS gA gD = K226 (if bgn st d W k = true then upd fL (dn d) (fL (dn d) + nI (ln st d W H (bg st d W k)).length) else fL) v4 v5 v6 v7 (v8 + oneb (bgn st d W k)) (v9 + oneb (wlb st (uD2 cA.1 cD.1 d) d W H k)) v10 v11 (nI k) (st k) (nI (2 * cn st cA.1 cD.1 W H k)) (nI (bq1 st cA.1 cD.1 W H k)) (nI (dn d) + 1) fr st (nI W) (nI H) cA cD (nI W) (nI H) W H gS gA gD := by
      intro y hy
      rw [mL_law_454]
      by_cases s0 : s = 0
      · rw [if_pos (show nI s ≤ 0 by rw [s0]; decide)]; exact s500
      · have hy := hy.resolve_left s0
        subst hy
        rw [if_neg (nI_nle (by omega) (by omega)), c3]
        dsimp only [Option.bind_some, Sum.elim_inr]
        rw [e3]
        by_cases z : nzc (dg (ln st d W H (bg st d W k))) = 0
        · have hm := many_le (f := st) (uA := cA.1) (uD := cD.1) hD hS.2.1 hk (d := d) hs45 s0 hus z (by omega)
          rw [hdl] at hm
          have hi : inn (46 * (ln st d W H (bg st d W k)).length + s) 512 ≤ 512 := fb_ct_le _ _
          have hmul : inn (46 * (ln st d W H (bg st d W k)).length + s) 512 * (ln st d W H (bg st d W k)).length ≤ 512 * 6 := Nat.mul_le_mul hi l6
          have hall := nz_all _ z
          have hwi : (wsp st (uD2 cA.1 cD.1 d) d W H k = true) ↔ 0 < inn (46 * (ln st d W H (bg st d W k)).length + s) 512 := by
            rw [inn_tb hs45, hwd, hall, wl_z, decide_eq_false s0, Bool.false_or, hdl]
          have s485 : ∀ y : Int32, y = (if wsp st (uD2 cA.1 cD.1 d) d W H k = true then (1 : Int32) else 0) → mL_law_485 L xs N ho ke hc tr fo su t3 K22 K87 K226 fL v4 v5 v6 v7 v8 v9 v10 v11 (nI k) (st k) (nI (2 * cn st cA.1 cD.1 W H k)) (nI (bq1 st cA.1 cD.1 W H k)) (nI (dn d)) (nI (bg st d W k)) (nI (ln st d W H (bg st d W k)).length) (if wsp st (uD2 cA.1 cD.1 d) d W H k = true then (1 : Int32) else 0) (nI (inn (46 * (ln st d W H (bg st d W k)).length + s) 512)) y (if wsp st (uD2 cA.1 cD.1 d) d W H k = true then (1 : Int32) else 0) fr st (nI W) (nI H) cA cD (nI W) (nI H) W H gS gA gD = K226 (if bgn st d W k = true then upd fL (dn d) (fL (dn d) + nI (ln st d W H (bg st d W k)).length) else fL) v4 v5 v6 v7 (v8 + oneb (bgn st d W k)) (v9 + oneb (wlb st (uD2 cA.1 cD.1 d) d W H k)) v10 v11 (nI k) (st k) (nI (2 * cn st cA.1 cD.1 W H k)) (nI (bq1 st cA.1 cD.1 W H k)) (nI (dn d) + 1) fr st (nI W) (nI H) cA cD (nI W) (nI H) W H gS gA gD := by
            intro y hy
            rw [mL_law_485, if_pos hy.symm, pk_mul, if_pos (nI_le hm (by omega))]
            exact s500
          rw [if_pos (show nI (nzc (dg (ln st d W H (bg st d W k)))) = 0 by rw [z]; rfl)]
          by_cases ci : inn (46 * (ln st d W H (bg st d W k)).length + s) 512 = 0
          · rw [if_pos (show nI (inn (46 * (ln st d W H (bg st d W k)).length + s) 512) ≤ 0 by rw [ci]; decide)]
            exact s485 0 (by rw [if_neg (fun q => by have := hwi.mp q; omega)])
          · rw [if_neg (nI_nle (by omega) (by omega))]
            exact s485 1 (by rw [if_pos (hwi.mpr (by omega))])
        · rw [if_neg (nI_ne0 (by omega) (by omega))]
          exact s500
    have s437 : mL_law_437 L xs N ho ke hc tr fo su t3 K22 K87 K226 fL v4 v5 v6 v7 v8 v9 v10 v11 (nI k) (st k) (nI (2 * cn st cA.1 cD.1 W H k)) (nI (bq1 st cA.1 cD.1 W H k)) (nI (dn d)) (nI (dn d)) (nI (bg st d W k)) (nI (ln st d W H (bg st d W k)).length) (nI s) (if wsp st (uD2 cA.1 cD.1 d) d W H k = true then (1 : Int32) else 0) fr st (nI W) (nI H) cA cD (nI W) (nI H) W H gS gA gD = K226 (if bgn st d W k = true then upd fL (dn d) (fL (dn d) + nI (ln st d W H (bg st d W k)).length) else fL) v4 v5 v6 v7 (v8 + oneb (bgn st d W k)) (v9 + oneb (wlb st (uD2 cA.1 cD.1 d) d W H k)) v10 v11 (nI k) (st k) (nI (2 * cn st cA.1 cD.1 W H k)) (nI (bq1 st cA.1 cD.1 W H k)) (nI (dn d) + 1) fr st (nI W) (nI H) cA cD (nI W) (nI H) W H gS gA gD := by
      rw [mL_law_437]
      by_cases s0 : s = 0
      · rw [if_pos (show nI s = 0 by rw [s0]; rfl)]; exact s454 0 (Or.inl s0)
      · rw [if_neg (nI_ne0 (by omega) (by omega)), a_ways hN l1 (by omega) (by omega) hs45]
        dsimp only [Option.bind_some, Sum.elim_inr]
        exact s454 _ (Or.inr rfl)
    have s420 : mL_law_420 L xs N ho ke hc tr fo su t3 K22 K87 K226 fL v4 v5 v6 v7 v8 v9 v10 v11 (nI k) (st k) (nI (2 * cn st cA.1 cD.1 W H k)) (nI (bq1 st cA.1 cD.1 W H k)) (nI (dn d)) (nI (dn d)) (nI (bg st d W k)) (nI (ln st d W H (bg st d W k)).length) (nI s) (if wsp st (uD2 cA.1 cD.1 d) d W H k = true then (1 : Int32) else 0) fr st (nI W) (nI H) cA cD (nI W) (nI H) W H gS gA gD = K226 (if bgn st d W k = true then upd fL (dn d) (fL (dn d) + nI (ln st d W H (bg st d W k)).length) else fL) v4 v5 v6 v7 (v8 + oneb (bgn st d W k)) (v9 + oneb (wlb st (uD2 cA.1 cD.1 d) d W H k)) v10 v11 (nI k) (st k) (nI (2 * cn st cA.1 cD.1 W H k)) (nI (bq1 st cA.1 cD.1 W H k)) (nI (dn d) + 1) fr st (nI W) (nI H) cA cD (nI W) (nI H) W H gS gA gD := by
      rw [mL_law_420]
      cases hwb : wsp st (uD2 cA.1 cD.1 d) d W H k
      · have hcn := cn_none (f := st) (uA := cA.1) (uD := cD.1) hD hS.2.1 hk hwb
        rw [hwb] at s437
        rw [if_pos (show (if (false = true) then (1 : Int32) else 0) = 0 from rfl), if_pos (show nI (2 * cn st cA.1 cD.1 W H k) = 0 by rw [hcn]; rfl)]
        exact s437
      · rw [hwb] at s437
        rw [if_neg (show ¬ (if (true = true) then (1 : Int32) else 0) = 0 by decide)]
        exact s437
    have s370 : mL_law_370 L xs N ho ke hc tr fo su t3 K22 K87 K226 fL v4 v5 v6 v7 v8 v9 v10 v11 (nI k) (st k) (nI (2 * cn st cA.1 cD.1 W H k)) (nI (bq1 st cA.1 cD.1 W H k)) (nI (dn d)) (nI (dn d)) (nI (bg st d W k)) (nI (ln st d W H (bg st d W k)).length) (nI s) (if wsp st (uD2 cA.1 cD.1 d) d W H k = true then (1 : Int32) else 0) fr st (nI W) (nI H) cA cD (nI W) (nI H) W H gS gA gD = K226 (if bgn st d W k = true then upd fL (dn d) (fL (dn d) + nI (ln st d W H (bg st d W k)).length) else fL) v4 v5 v6 v7 (v8 + oneb (bgn st d W k)) (v9 + oneb (wlb st (uD2 cA.1 cD.1 d) d W H k)) v10 v11 (nI k) (st k) (nI (2 * cn st cA.1 cD.1 W H k)) (nI (bq1 st cA.1 cD.1 W H k)) (nI (dn d) + 1) fr st (nI W) (nI H) cA cD (nI W) (nI H) W H gS gA gD := by
      rw [mL_law_370, if_neg (show ¬ nI (ln st d W H (bg st d W k)).length < (1 : Int32) from nI_nlt (b := 1) (by omega) (by omega)), if_neg (show ¬ (6 : Int32) < nI (ln st d W H (bg st d W k)).length from nI_nlt (a := 6) (by omega) (by omega)), c3]
      dsimp only [Option.bind_some, Sum.elim_inr]
      rw [e3, if_neg (nI_nlt (by omega) (by omega))]
      by_cases s0 : s = 0
      · by_cases cw : (if wsp st (uD2 cA.1 cD.1 d) d W H k = true then (1 : Int32) else 0) = 0
        · rw [if_pos cw]; exact s420
        · rw [if_neg cw, if_pos (show nI s ≤ 0 by rw [s0]; decide)]; exact s420
      · by_cases cw : (if wsp st (uD2 cA.1 cD.1 d) d W H k = true then (1 : Int32) else 0) = 0
        · rw [if_pos cw]; exact s420
        · have hwt : wsp st (uD2 cA.1 cD.1 d) d W H k = true := by
            cases q : wsp st (uD2 cA.1 cD.1 d) d W H k
            · rw [q] at cw; exact absurd rfl cw
            · rfl
          have hi : 0 < inn (46 * (ln st d W H (bg st d W k)).length + s) 512 := by
            rw [inn_tb hs45, ← hdl]
            exact wl_tb h9 s0 (by rw [← hwd]; exact hwt)
          have hi2 : inn (46 * (ln st d W H (bg st d W k)).length + s) 512 ≤ 512 := fb_ct_le _ _
          rw [if_neg cw, if_neg (nI_nle (by omega) (by omega)), a_ways hN l1 (by omega) (by omega) hs45]
          dsimp only [Option.bind_some, Sum.elim_inr]
          rw [if_neg (nI_ne0 (by omega) (by omega))]
          exact s420
    have s292 : ∀ m n v, m < n → v + m = 6 → mL_law_292 L xs N ho ke hc tr fo su t3 K22 K87 K226 n fL v4 v5 v6 v7 v8 v9 v10 v11 (nI k) (st k) (nI (2 * cn st cA.1 cD.1 W H k)) (nI (bq1 st cA.1 cD.1 W H k)) (nI (dn d)) (nI (dn d)) (nI (bg st d W k)) (nI v) fr st (nI W) (nI H) cA cD (nI W) (nI H) W H gS gA gD = K226 (if bgn st d W k = true then upd fL (dn d) (fL (dn d) + nI (ln st d W H (bg st d W k)).length) else fL) v4 v5 v6 v7 (v8 + oneb (bgn st d W k)) (v9 + oneb (wlb st (uD2 cA.1 cD.1 d) d W H k)) v10 v11 (nI k) (st k) (nI (2 * cn st cA.1 cD.1 W H k)) (nI (bq1 st cA.1 cD.1 W H k)) (nI (dn d) + 1) fr st (nI W) (nI H) cA cD (nI W) (nI H) W H gS gA gD := by
      intro m
      induction m with
      | zero =>
        intro n v hn hv
        obtain ⟨n, rfl⟩ : ∃ j, n = j + 1 := ⟨n - 1, by omega⟩
        rw [mL_law_292]
        dsimp only
        rw [if_pos (show (6 : Int32) ≤ nI v by rw [show v = 6 by omega]; decide), c1]
        dsimp only [Option.bind_some, Sum.elim_inr]
        rw [c2]
        dsimp only [Option.bind_some, Sum.elim_inr]
        rw [c5]
        dsimp only [Option.bind_some, Sum.elim_inr]
        rw [e1, e2, e5]
        cases hwb : wsp st (uD2 cA.1 cD.1 d) d W H k
        · rw [hwb] at s370
          rw [if_neg (show ¬ (if (false = true) then (1 : Int32) else 0) = 1 by decide)]
          exact s370
        · rw [hwb] at s370
          rw [if_pos (show (if (true = true) then (1 : Int32) else 0) = 1 from rfl)]
          exact s370
      | succ m ih =>
        intro n v hn hv
        obtain ⟨n, rfl⟩ : ∃ j, n = j + 1 := ⟨n - 1, by omega⟩
        rw [mL_law_292]
        dsimp only
        rw [if_neg (show ¬ (6 : Int32) ≤ nI v from nI_ge (a := v) (b := 6) (by omega) (by omega)), a_corr hN hS hb d (show v ≤ 5 by omega)]
        dsimp only [Option.bind_some, Sum.elim_inr]
        rw [a_corr hN hS hk d (show v ≤ 5 by omega)]
        dsimp only [Option.bind_some, Sum.elim_inr]
        rw [tl_bg hD hk c, if_pos rfl, nI_1]
        exact ih n (v + 1) (by omega) (by omega)
    rw [e0, if_pos (nI_pos' (by omega)), mL_law_266, if_pos (n2.mpr c), mL_law_276, if_pos rfl, if_pos (nI_pos' (by omega))]
    exact s292 6 7 0 (by omega) (by omega)
end LX
