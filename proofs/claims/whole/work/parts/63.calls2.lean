/-! ===== calls, on: pillar, setSum, put, force ===== -/
theorem ne10 : ¬ (1 : Int32) = 0 := by decide
theorem ne20 : ¬ (2 : Int32) = 0 := by decide
theorem ne30 : ¬ (3 : Int32) = 0 := by decide
theorem ix0 {k : Nat} : (36 : Int32) * 0 + nI k = nI k := by rw [show (36 : Int32) * 0 = nI 0 by decide, nI_add, Nat.zero_add]
theorem ix1 {k : Nat} : (36 : Int32) * 1 + nI k = nI (36 + k) := by rw [show (36 : Int32) * 1 = nI 36 by decide, nI_add]
section C2
variable {N : Nat} {ke : RowI} {tr fo fr : Int32} {st : RowI} {co ro : Int32} {cA cD : CS} {su : RowJ} {w h : Int32} {ms mu mb me mf : RowI}
theorem rel_pil {W H : Nat} (hN : 600 ≤ N) (hS : ST W H st cA cD su) (hM : MS W H st cA.1 cD.1 mu mb me mf) {k : Nat} (hk : k < W * H) {x : Int32} (hx : x = -1 ∨ x = 0) :
    ∃ cA' cD' mb', mX1_joinCells N (upd st k x) (nI W) (nI H) cA cD = some (cA', cD') ∧ mX5_link N (nI W) (nI H) (upd st k x) mb = some mb' ∧ Rel ke tr fo 0 (upd st k x) (nI W) (nI H) cA' cD' su (nI W) (nI H) (upd st k x) mu mb' me mf := by
  obtain ⟨hD, hR, hA, hB, uA, uD, hT⟩ := hS
  obtain ⟨l1, l2, hu, ht⟩ := hM
  obtain ⟨cA', cD', j1, j2, j3, j4, j5⟩ := joinCells_n (f := upd st k x) hD hN (cA := cA) (cD := cD) hA.1 hB.1
  obtain ⟨mb', m1, m2, m3⟩ := link_n (f := upd st k x) hD hN mb
  refine ⟨cA', cD', mb', j1, m1, W, H, rfl, rfl, rfl, rfl, rfl, ⟨hD, ?_, j2, j3, by rw [j4]; exact uA, by rw [j5]; exact uD, hT⟩, ⟨m2, m3, by rw [j4, j5]; exact hu, ht⟩, Or.inl rfl⟩
  intro j hj
  by_cases e : j = k
  · subst e
    rw [upd_s]
    rcases hx with q | q
    · exact Or.inl q
    · exact Or.inr ⟨0, by omega, q⟩
  · rw [upd_n e]; exact hR j hj
theorem t_pillar (hN : 600 ≤ N) (hr : Rel ke tr fo fr st co ro cA cD su w h ms mu mb me mf) (ou : RowJ) (th p : Int32) :
    ∃ o1 o2, mL_pillar N ou fr st co ro cA cD p = some o1 ∧ mX5_pillar N th w h ms mb p = some o2 ∧ o2.2.1 = o1.1 ∧ (o1.1 = 0 → o1.2.1 0 = if o2.1 = 0 then 0 else 1) ∧ Rel ke tr fo o1.2.2.1 o1.2.2.2.1 co ro o1.2.2.2.2.1 o1.2.2.2.2.2 su w h o2.2.2.1 mu o2.2.2.2 me mf := by
  have hr0 := hr
  obtain ⟨W, H, rfl, rfl, rfl, rfl, rfl, hS, hM, _⟩ := hr
  have g36 := dim36 hS.1
  rcases cell_ix hS.1 N p with ⟨h1, h2⟩ | ⟨k, hk, rfl, h1, h2⟩
  · refine ⟨(1, ou, fr, ms, cA, cD), (0, 1, ms, mb), ?_, ?_, rfl, fun e => absurd e ne10, hr0⟩
    · rw [mL_pillar, mX4_pillar, h1]; rfl
    · rw [mX5_pillar, h2]; rfl
  · by_cases c : ms k = -1
    · obtain ⟨cA', cD', mb', q1, q2, q3⟩ := rel_pil (ke := ke) (tr := tr) (fo := fo) hN hS hM hk (x := 0) (Or.inr rfl)
      refine ⟨(0, vp_updL ou (0 : Int32).toNatClampNeg 0, 0, upd ms k 0, cA', cD'), (0, 0, upd ms k 0, mb'), ?_, ?_, rfl, fun _ => rfl, q3⟩
      · rw [mL_pillar, mX4_pillar, h1]
        dsimp only [Option.bind_some, Sum.elim_inr]
        rw [mX3_forget, mX1_turnPillar, mX1_isPillar, rd_n (by omega), if_pos c, Option.bind_some, Option.bind_some, if_neg ne10, mX1_turnPillar_18, wr_n (by omega), q1]
        dsimp only [Option.bind_some]
        rw [mX1_isPillar, rd_n (by omega), upd_s]
        rfl
      · rw [mX5_pillar, h2, Option.bind_some, if_neg ne10, mX5_pillar_14, if_pos rfl, if_neg (bad_n (by omega) (by omega)), nI_clamp (by omega), if_pos c, mX5_pillar_46, if_neg (bad_n (by omega) (by omega))]
        simp only [nI_clamp (show k < 2 ^ 31 by omega)]
        rw [q2, Option.bind_some, if_neg (bad_n (by omega) (by omega)), upd_s]
        rfl
    · obtain ⟨cA', cD', mb', q1, q2, q3⟩ := rel_pil (ke := ke) (tr := tr) (fo := fo) hN hS hM hk (x := -1) (Or.inl rfl)
      refine ⟨(0, vp_updL ou (0 : Int32).toNatClampNeg 1, 0, upd ms k (-1), cA', cD'), (1, 0, upd ms k (-1), mb'), ?_, ?_, rfl, fun _ => rfl, q3⟩
      · rw [mL_pillar, mX4_pillar, h1]
        dsimp only [Option.bind_some, Sum.elim_inr]
        rw [mX3_forget, mX1_turnPillar, mX1_isPillar, rd_n (by omega), if_neg c, Option.bind_some, Option.bind_some, if_pos rfl, mX1_turnPillar_18, wr_n (by omega), q1]
        dsimp only [Option.bind_some]
        rw [mX1_isPillar, rd_n (by omega), upd_s]
        rfl
      · rw [mX5_pillar, h2, Option.bind_some, if_neg ne10, mX5_pillar_14, if_pos rfl, if_neg (bad_n (by omega) (by omega)), nI_clamp (by omega), if_neg c, mX5_pillar_46, if_neg (bad_n (by omega) (by omega))]
        simp only [nI_clamp (show k < 2 ^ 31 by omega)]
        rw [q2, Option.bind_some, if_neg (bad_n (by omega) (by omega)), upd_s]
        rfl
theorem UR.upd {u : RowI} (h : UR u) (k : Nat) {v : Nat} (hv : v ≤ 45) : UR (upd u k (nI v)) := by
  intro j hj
  by_cases e : j = k
  · subst e; rw [upd_s]; exact ⟨v, hv, rfl⟩
  · rw [upd_n e]; exact h j hj
theorem t_setSum (hN : 600 ≤ N) (hr : Rel ke tr fo fr st co ro cA cD su w h ms mu mb me mf) (ou : RowJ) (th p q s : Int32) :
    ∃ o1 o2, mL_setSum N ou fr co ro cA cD p q s = some o1 ∧ mX5_setSum N th w h mu p q s = some o2 ∧ o2.2.1 = o1.1 ∧ (o1.1 = 0 → o1.2.1 0 = o2.1.toInt64) ∧ Rel ke tr fo o1.2.2.1 st co ro o1.2.2.2.1 o1.2.2.2.2 su w h ms o2.2.2 mb me mf := by
  have hr0 := hr
  obtain ⟨W, H, rfl, rfl, rfl, rfl, rfl, hS, hM, _⟩ := hr
  have g36 := dim36 hS.1
  rcases cell_ix hS.1 N p with ⟨h1, h2⟩ | ⟨k, hk, rfl, h1, h2⟩
  · refine ⟨(1, ou, fr, cA, cD), (0, 1, mu), ?_, ?_, rfl, fun e => absurd e ne10, hr0⟩
    · rw [mL_setSum, mX4_setSum, h1]; rfl
    · rw [mX5_setSum, h2]; rfl
  · by_cases a1 : s < 0
    · refine ⟨(2, ou, fr, cA, cD), (0, 2, mu), ?_, ?_, rfl, fun e => absurd e ne20, hr0⟩
      · rw [mL_setSum, mX4_setSum, h1]
        dsimp only [Option.bind_some, Sum.elim_inr]
        rw [if_pos a1]; rfl
      · rw [mX5_setSum, h2, Option.bind_some, if_neg ne10, mX5_isIn, if_pos a1]; rfl
    by_cases a2 : (45 : Int32) < s
    · refine ⟨(2, ou, fr, cA, cD), (0, 2, mu), ?_, ?_, rfl, fun e => absurd e ne20, hr0⟩
      · rw [mL_setSum, mX4_setSum, h1]
        dsimp only [Option.bind_some, Sum.elim_inr]
        rw [if_neg a1, if_neg (Int32.not_le.mpr a2)]; rfl
      · rw [mX5_setSum, h2, Option.bind_some, if_neg ne10, mX5_isIn, if_neg a1, if_pos a2]; rfl
    obtain ⟨v, _, hv, rfl⟩ := rng (x := s) 0 45 (by omega) (by omega) a1 a2
    obtain ⟨hD, hR, hA, hB, uA, uD, hT⟩ := hS
    obtain ⟨l1, l2, hu, ht⟩ := hM
    by_cases c : q = 0
    · refine ⟨(0, vp_updL ou (0 : Int32).toNatClampNeg (cA.1 k).toInt64, 0, (upd cA.1 k (nI v), cA.2.1, cA.2.2.1, cA.2.2.2), cD), (mu k, 0, upd mu k (nI v)), ?_, ?_, rfl, fun _ => ?_, ?_⟩
      · rw [mL_setSum, mX4_setSum, h1]
        dsimp only [Option.bind_some, Sum.elim_inr]
        rw [if_neg a1, if_pos (Int32.not_lt.mp a2), mX3_forget, Option.bind_some, if_pos c, mX0_tellSum, rd_n (by omega), wr_n (by omega)]
        rfl
      · rw [mX5_setSum, h2, Option.bind_some, if_neg ne10, mX5_isIn, if_neg a1, if_neg a2, Option.bind_some, if_neg ne10, if_pos c, mX5_setSum_46, ix0, if_neg (bad_n (show k < 72 by omega) (by omega)), if_neg (bad_n (show k < 72 by omega) (by omega)), nI_clamp (by omega)]
      · show (cA.1 k).toInt64 = (mu k).toInt64
        rw [(hu k (by omega)).1]
      · refine ⟨W, H, rfl, rfl, rfl, rfl, rfl, ⟨hD, hR, hA, hB, uA.upd k hv, uD, hT⟩, ⟨l1, l2, fun j hj => ⟨?_, ?_⟩, ht⟩, Or.inl rfl⟩
        · show upd mu k (nI v) j = upd cA.1 k (nI v) j
          by_cases e : j = k
          · subst e; rw [upd_s, upd_s]
          · rw [upd_n e, upd_n e, (hu j hj).1]
        · show upd mu k (nI v) (36 + j) = cD.1 j
          rw [upd_n (by omega), (hu j hj).2]
    · refine ⟨(0, vp_updL ou (0 : Int32).toNatClampNeg (cD.1 k).toInt64, 0, cA, (upd cD.1 k (nI v), cD.2.1, cD.2.2.1, cD.2.2.2)), (mu (36 + k), 0, upd mu (36 + k) (nI v)), ?_, ?_, rfl, fun _ => ?_, ?_⟩
      · rw [mL_setSum, mX4_setSum, h1]
        dsimp only [Option.bind_some, Sum.elim_inr]
        rw [if_neg a1, if_pos (Int32.not_lt.mp a2), mX3_forget, Option.bind_some, if_neg c, mX0_tellSum, rd_n (by omega), wr_n (by omega)]
        rfl
      · rw [mX5_setSum, h2, Option.bind_some, if_neg ne10, mX5_isIn, if_neg a1, if_neg a2, Option.bind_some, if_neg ne10, if_neg c, mX5_setSum_46, ix1, if_neg (bad_n (show 36 + k < 72 by omega) (by omega)), if_neg (bad_n (show 36 + k < 72 by omega) (by omega)), nI_clamp (by omega)]
      · show (cD.1 k).toInt64 = (mu (36 + k)).toInt64
        rw [(hu k (by omega)).2]
      · refine ⟨W, H, rfl, rfl, rfl, rfl, rfl, ⟨hD, hR, hA, hB, uA, uD.upd k hv, hT⟩, ⟨l1, l2, fun j hj => ⟨?_, ?_⟩, ht⟩, Or.inl rfl⟩
        · show upd mu (36 + k) (nI v) j = cA.1 j
          rw [upd_n (by omega), (hu j hj).1]
        · show upd mu (36 + k) (nI v) (36 + j) = upd cD.1 k (nI v) j
          by_cases e : j = k
          · subst e; rw [upd_s, upd_s]
          · rw [upd_n (by omega), upd_n e, (hu j hj).2]
theorem t_put (hN : 600 ≤ N) (hr : Rel ke tr fo fr st co ro cA cD su w h ms mu mb me mf) (ou : RowJ) (th p q : Int32) :
    ∃ o1 o2, mL_put N ou fr st co ro p q = some o1 ∧ mX5_put N th w h ms p q = some o2 ∧ o2.2.1 = o1.1 ∧ (o1.1 = 0 → o1.2.1 0 = o2.1.toInt64) ∧ Rel ke tr fo o1.2.2.1 o1.2.2.2 co ro cA cD su w h o2.2.2 mu mb me mf := by
  have hr0 := hr
  obtain ⟨W, H, rfl, rfl, rfl, rfl, rfl, hS, hM, _⟩ := hr
  have g36 := dim36 hS.1
  rcases cell_ix hS.1 N p with ⟨h1, h2⟩ | ⟨k, hk, rfl, h1, h2⟩
  · refine ⟨(1, ou, fr, ms), (0, 1, ms), ?_, ?_, rfl, fun e => absurd e ne10, hr0⟩
    · rw [mL_put, mX4_put, h1]; rfl
    · rw [mX5_put, h2]; rfl
  · by_cases a1 : q < 0
    · refine ⟨(2, ou, fr, ms), (0, 2, ms), ?_, ?_, rfl, fun e => absurd e ne20, hr0⟩
      · rw [mL_put, mX4_put, h1]
        dsimp only [Option.bind_some, Sum.elim_inr]
        rw [if_pos a1]; rfl
      · rw [mX5_put, h2, Option.bind_some, if_neg ne10, mX5_isIn, if_pos a1]; rfl
    by_cases a2 : (9 : Int32) < q
    · refine ⟨(2, ou, fr, ms), (0, 2, ms), ?_, ?_, rfl, fun e => absurd e ne20, hr0⟩
      · rw [mL_put, mX4_put, h1]
        dsimp only [Option.bind_some, Sum.elim_inr]
        rw [if_neg a1, if_neg (Int32.not_le.mpr a2)]; rfl
      · rw [mX5_put, h2, Option.bind_some, if_neg ne10, mX5_isIn, if_neg a1, if_pos a2]; rfl
    obtain ⟨v, _, hv, rfl⟩ := rng (x := q) 0 9 (by omega) (by omega) a1 a2
    by_cases c : ms k = -1
    · refine ⟨(3, ou, fr, ms), (0, 3, ms), ?_, ?_, rfl, fun e => absurd e ne30, hr0⟩
      · rw [mL_put, mX4_put, h1]
        dsimp only [Option.bind_some, Sum.elim_inr]
        rw [if_neg a1, if_pos (Int32.not_lt.mp a2), open_n (by omega), if_pos c]; rfl
      · rw [mX5_put, h2, Option.bind_some, if_neg ne10, mX5_isIn, if_neg a1, if_neg a2, Option.bind_some, if_neg ne10, if_neg (bad_n (by omega) (by omega))]
        simp only [nI_clamp (show k < 2 ^ 31 by omega)]
        rw [if_pos c]; rfl
    · refine ⟨(0, vp_updL ou (0 : Int32).toNatClampNeg (ms k).toInt64, 0, upd ms k (nI v)), (ms k, 0, upd ms k (nI v)), ?_, ?_, rfl, fun _ => rfl, W, H, rfl, rfl, rfl, rfl, rfl, hS.upd c hv, hM.upd c hv, Or.inl rfl⟩
      · rw [mL_put, mX4_put, h1]
        dsimp only [Option.bind_some, Sum.elim_inr]
        rw [if_neg a1, if_pos (Int32.not_lt.mp a2), open_n (by omega), if_neg c]
        dsimp only [Option.bind_some, Sum.elim_inr]
        rw [mX1_stoneAt, rd_n (by omega), mX3_forget, mX1_lay, wr_n (by omega)]
        rfl
      · rw [mX5_put, h2, Option.bind_some, if_neg ne10, mX5_isIn, if_neg a1, if_neg a2, Option.bind_some, if_neg ne10, if_neg (bad_n (by omega) (by omega))]
        simp only [nI_clamp (show k < 2 ^ 31 by omega)]
        rw [if_neg c, if_neg (bad_n (by omega) (by omega)), if_neg (bad_n (by omega) (by omega))]
theorem t_force (hN : 600 ≤ N) (hr : Rel ke tr fo fr st co ro cA cD su w h ms mu mb me mf) (th : Int32) :
    ∃ o1 o2, mX4_force N fr st co ro cA cD su = some o1 ∧ mX5_force N th w h ms mu mb me mf = some o2 ∧ o1.1 = o2.1 ∧ Rel ke tr fo o1.2.1 o1.2.2 co ro cA cD su w h o2.2.2 mu mb me mf := by
  obtain ⟨W, H, rfl, rfl, rfl, rfl, rfl, hS, hM, _⟩ := hr
  obtain ⟨k1, k2⟩ := frc_keeps 36 0 ms hS hM
  have e1 := force_9 (N := N) hN 36 N 0 ms 0 (by omega) (by omega) hS
  have e2 := force_12 (N := N) hN hS.1 hS.2.2.2.2.1 hS.2.2.2.2.2.1 36 N 0 ms 0 (by omega) (zrs_le ms) hS.2.1 hM
  refine ⟨(nI (frc cA.1 cD.1 W H 36 0 ms).1, 0, (frc cA.1 cD.1 W H 36 0 ms).2), (nI (frc cA.1 cD.1 W H 36 0 ms).1, 0, (frc cA.1 cD.1 W H 36 0 ms).2), ?_, ?_, rfl, W, H, rfl, rfl, rfl, rfl, rfl, k1, k2, Or.inl rfl⟩
  · rw [mX4_force, mX3_forget, Option.bind_some]
    exact e1
  · rw [mX5_force, first_m hN hS.1 hS.2.1 hM hS.2.2.2.2.1 hS.2.2.2.2.2.1, Option.bind_some]
    exact e2
end C2
