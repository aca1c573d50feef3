/-! ===== calls, on: those that ask ===== -/
section C3
variable {N : Nat} {ke : RowI} {tr fo fr : Int32} {st : RowI} {co ro : Int32} {cA cD : CS} {su : RowJ} {w h : Int32} {ms mu mb me mf : RowI}
theorem t_stone (hr : Rel ke tr fo fr st co ro cA cD su w h ms mu mb me mf) (ou : RowJ) (th p : Int32) :
    ∃ o1 o2, mL_stone N ou st co ro p = some o1 ∧ mX5_stone N th w h ms p = some o2 ∧ o2.2 = o1.1 ∧ (o1.1 = 0 → o1.2 0 = o2.1.toInt64) := by
  obtain ⟨W, H, rfl, rfl, rfl, rfl, rfl, hS, hM, _⟩ := hr
  have g36 := dim36 hS.1
  rcases cell_ix hS.1 N p with ⟨h1, h2⟩ | ⟨k, hk, rfl, h1, h2⟩
  · refine ⟨(1, ou), (0, 1), ?_, ?_, rfl, fun e => absurd e ne10⟩
    · rw [mL_stone, mX4_stone, h1]; rfl
    · rw [mX5_stone, h2]; rfl
  · refine ⟨(0, vp_updL ou (0 : Int32).toNatClampNeg (ms k).toInt64), (ms k, 0), ?_, ?_, rfl, fun _ => rfl⟩
    · rw [mL_stone, mX4_stone, h1]
      dsimp only [Option.bind_some, Sum.elim_inr]
      rw [mX1_stoneAt, rd_n (by omega)]
      rfl
    · rw [mX5_stone, h2, Option.bind_some, if_neg ne10, if_neg (bad_n (by omega) (by omega)), nI_clamp (by omega)]
theorem t_corridor (hN : 600 ≤ N) (hr : Rel ke tr fo fr st co ro cA cD su w h ms mu mb me mf) (ou : RowJ) (th p q s : Int32) :
    ∃ o1 o2, mL_corridor N ou st co ro cA cD su p q s = some o1 ∧ mX5_corridor N th w h ms mu mb me mf p q s = some o2 ∧ o2.2 = o1.1 ∧ (o1.1 = 0 → o1.2 0 = o2.1.toInt64) := by
  obtain ⟨W, H, rfl, rfl, rfl, rfl, rfl, hS, hM, _⟩ := hr
  have g36 := dim36 hS.1
  rcases cell_ix hS.1 N p with ⟨h1, h2⟩ | ⟨k, hk, rfl, h1, h2⟩
  · refine ⟨(1, ou), (0, 1), ?_, ?_, rfl, fun e => absurd e ne10⟩
    · rw [mL_corridor, mX4_corridor, h1]; rfl
    · rw [mX5_corridor, h2]; rfl
  · by_cases a1 : s < 0
    · refine ⟨(1, ou), (0, 1), ?_, ?_, rfl, fun e => absurd e ne10⟩
      · rw [mL_corridor, mX4_corridor, h1]
        dsimp only [Option.bind_some, Sum.elim_inr]
        rw [if_pos a1]; rfl
      · rw [mX5_corridor, h2, Option.bind_some, if_neg ne10, mX5_isIn, if_pos a1]; rfl
    by_cases a2 : (5 : Int32) < s
    · have a3 : ¬ s < (6 : Int32) := by
        rw [Int32.lt_iff_toInt_lt] at a2 ⊢
        rw [show (5 : Int32).toInt = 5 from rfl] at a2
        rw [show (6 : Int32).toInt = 6 from rfl]
        omega
      refine ⟨(1, ou), (0, 1), ?_, ?_, rfl, fun e => absurd e ne10⟩
      · rw [mL_corridor, mX4_corridor, h1]
        dsimp only [Option.bind_some, Sum.elim_inr]
        rw [if_neg a1, if_neg a3]; rfl
      · rw [mX5_corridor, h2, Option.bind_some, if_neg ne10, mX5_isIn, if_neg a1, if_pos a2]; rfl
    obtain ⟨v, _, hv, rfl⟩ := rng (x := s) 0 5 (by omega) (by omega) a1 a2
    obtain ⟨hD, hR, hA, hB, uA, uD, hT⟩ := hS
    obtain ⟨l1, l2, hu, ht⟩ := hM
    have a3 : nI v < (6 : Int32) := nI_lt (b := 6) (by omega) (by omega)
    by_cases c : q = 0
    · refine ⟨(0, vp_updL ou (0 : Int32).toNatClampNeg (tl ms cA.1 false W H k (nI v)).toInt64), (tl ms cA.1 false W H k (nI v), 0), ?_, ?_, rfl, fun _ => rfl⟩
      · rw [mL_corridor, mX4_corridor, h1]
        dsimp only [Option.bind_some, Sum.elim_inr]
        rw [if_neg a1, if_pos a3, if_pos c, tell_n hD hN hR hA uA hT hk]
        rfl
      · have e : mX5_corridorTold N (nI W) (nI H) ms mu mb me mf (nI k) 0 (nI v) = _ := corridorTold_n (d := false) (mu := mu) (u := cA.1) hD hN hR ht l1 (fun j hj => by rw [show 36 * dn false + j = j from Nat.zero_add j]; exact (hu j hj).1) uA hk (nI v)
        rw [mX5_corridor, h2, Option.bind_some, if_neg ne10, mX5_isIn, if_neg a1, if_neg a2, Option.bind_some, if_neg ne10, if_pos c, mX5_corridor_33, e]
        rfl
    · refine ⟨(0, vp_updL ou (0 : Int32).toNatClampNeg (tl ms cD.1 true W H k (nI v)).toInt64), (tl ms cD.1 true W H k (nI v), 0), ?_, ?_, rfl, fun _ => rfl⟩
      · rw [mL_corridor, mX4_corridor, h1]
        dsimp only [Option.bind_some, Sum.elim_inr]
        rw [if_neg a1, if_pos a3, if_neg c, tell_n hD hN hR hB uD hT hk]
        rfl
      · have e : mX5_corridorTold N (nI W) (nI H) ms mu mb me mf (nI k) 1 (nI v) = _ := corridorTold_n (d := true) (mu := mu) (u := cD.1) hD hN hR ht l2 (fun j hj => (hu j hj).2) uD hk (nI v)
        rw [mX5_corridor, h2, Option.bind_some, if_neg ne10, mX5_isIn, if_neg a1, if_neg a2, Option.bind_some, if_neg ne10, if_neg c, mX5_corridor_33, e]
        rfl
theorem t_can (hN : 600 ≤ N) (hr : Rel ke tr fo fr st co ro cA cD su w h ms mu mb me mf) (ou : RowJ) (th p : Int32) :
    ∃ o1 o2, mL_can N ou st co ro cA cD su p = some o1 ∧ mX5_can N th w h ms mu mb me mf p = some o2 ∧ o2.2.1 = o1.1 ∧ (o1.1 = 0 → o1.2 0 = o2.1.toInt64) ∧ o2.2.2 = ms := by
  obtain ⟨W, H, rfl, rfl, rfl, rfl, rfl, hS, hM, _⟩ := hr
  have g36 := dim36 hS.1
  rcases cell_ix hS.1 N p with ⟨h1, h2⟩ | ⟨k, hk, rfl, h1, h2⟩
  · refine ⟨(1, ou), (0, 1, ms), ?_, ?_, rfl, fun e => absurd e ne10, rfl⟩
    · rw [mL_can, mX4_can, h1]; rfl
    · rw [mX5_can, h2]; rfl
  · refine ⟨(0, vp_updL ou (0 : Int32).toNatClampNeg (nI (2 * cn ms cA.1 cD.1 W H k)).toInt64), (nI (2 * cn ms cA.1 cD.1 W H k), 0, ms), ?_, ?_, rfl, fun _ => rfl, rfl⟩
    · rw [mL_can, mX4_can, h1]
      dsimp only [Option.bind_some, Sum.elim_inr]
      rw [can_c hN hS hk]
      rfl
    · rw [mX5_can, h2, Option.bind_some, if_neg ne10, can_m hN hS.1 hS.2.1 hM hS.2.2.2.2.1 hS.2.2.2.2.2.1 hk]
      rfl
theorem t_count (hN : 600 ≤ N) (hr : Rel ke tr fo fr st co ro cA cD su w h ms mu mb me mf) (ou : RowJ) (th p : Int32) :
    ∃ o1 o2, mL_count N ou st co ro cA cD su p = some o1 ∧ mX5_count N th w h ms mu mb me mf p = some o2 ∧ o2.2.1 = o1.1 ∧ (o1.1 = 0 → o1.2 0 = o2.1.toInt64) ∧ o2.2.2 = ms := by
  obtain ⟨W, H, rfl, rfl, rfl, rfl, rfl, hS, hM, _⟩ := hr
  by_cases a1 : p < 0
  · refine ⟨(1, ou), (0, 1, ms), ?_, ?_, rfl, fun e => absurd e ne10, rfl⟩
    · rw [mL_count, mX4_count, if_pos a1]; rfl
    · rw [mX5_count, mX5_isIn, if_pos a1]; rfl
  by_cases a2 : (8 : Int32) < p
  · have a3 : ¬ p < (9 : Int32) := by
      rw [Int32.lt_iff_toInt_lt] at a2 ⊢
      rw [show (8 : Int32).toInt = 8 from rfl] at a2
      rw [show (9 : Int32).toInt = 9 from rfl]
      omega
    refine ⟨(1, ou), (0, 1, ms), ?_, ?_, rfl, fun e => absurd e ne10, rfl⟩
    · rw [mL_count, mX4_count, if_neg a1, if_neg a3]; rfl
    · rw [mX5_count, mX5_isIn, if_neg a1, if_pos a2]; rfl
  obtain ⟨v, _, hv, rfl⟩ := rng (x := p) 0 8 (by omega) (by omega) a1 a2
  refine ⟨(0, vp_updL ou (0 : Int32).toNatClampNeg (tal ms cA.1 cD.1 W H (nI v)).toInt64), (tal ms cA.1 cD.1 W H (nI v), 0, ms), ?_, ?_, rfl, fun _ => rfl, rfl⟩
  · rw [mL_count, mX4_count, if_neg a1, if_pos (show nI v < (9 : Int32) from nI_lt (b := 9) (by omega) (by omega)), tally_n hN hS]
    rfl
  · rw [mX5_count, mX5_isIn, if_neg a1, if_neg a2, Option.bind_some, if_neg ne10, counted_n hN hS.1 hS.2.1 hM hS.2.2.2.2.1 hS.2.2.2.2.2.1 hv]
    rfl
theorem key_n (a b : Nat) : ((46 : Int32) * nI a) + nI b = nI (46 * a + b) := by rw [show (46 : Int32) = nI 46 from rfl, pk_mul, nI_add]
theorem t_ways (hN : 600 ≤ N) (hT : MTB me mf) (ou : RowJ) (th p q : Int32) :
    ∃ o1 o2, mL_ways N ou p q = some o1 ∧ mX5_ways N th mf p q = some o2 ∧ o2.2 = o1.1 ∧ (o1.1 = 0 → o1.2 0 = o2.1.toInt64) := by
  have hno : mX4_checkPartition N p q = some (.inl 2) → mX5_ways N th mf p q = some (0, 1) → ∃ o1 o2, mL_ways N ou p q = some o1 ∧ mX5_ways N th mf p q = some o2 ∧ o2.2 = o1.1 ∧ (o1.1 = 0 → o1.2 0 = o2.1.toInt64) := by
    intro h1 h2
    refine ⟨(1, ou), (0, 1), ?_, h2, rfl, fun e => absurd e ne10⟩
    rw [mL_ways, mX4_ways, h1]
    rfl
  by_cases a1 : p < (1 : Int32)
  · exact hno (by rw [mX4_checkPartition, if_pos a1]) (by rw [mX5_ways, mX5_isIn, if_pos a1]; rfl)
  by_cases a2 : (9 : Int32) < p
  · exact hno (by rw [mX4_checkPartition, if_neg a1, if_neg (Int32.not_le.mpr a2)]) (by rw [mX5_ways, mX5_isIn, if_neg a1, if_pos a2]; rfl)
  by_cases a3 : q < (1 : Int32)
  · exact hno (by rw [mX4_checkPartition, if_neg a1, if_pos (Int32.not_lt.mp a2), if_pos a3]) (by rw [mX5_ways, mX5_isIn, if_neg a1, if_neg a2, mX5_isIn, if_pos a3]; rfl)
  by_cases a4 : (45 : Int32) < q
  · exact hno (by rw [mX4_checkPartition, if_neg a1, if_pos (Int32.not_lt.mp a2), if_neg a3, if_neg (Int32.not_le.mpr a4)]) (by rw [mX5_ways, mX5_isIn, if_neg a1, if_neg a2, mX5_isIn, if_neg a3, if_pos a4]; rfl)
  obtain ⟨c, c1, c9, rfl⟩ := rng (x := p) 1 9 (by omega) (by omega) a1 a2
  obtain ⟨t, t1, t45, rfl⟩ := rng (x := q) 1 45 (by omega) (by omega) a3 a4
  have e1 : mX4_checkPartition N (nI c) (nI t) = some (.inr ()) := by rw [mX4_checkPartition, if_neg a1, if_pos (Int32.not_lt.mp a2), if_neg a3, if_pos (Int32.not_lt.mp a4)]
  have e2 := ways_10 (N := N) hN c9 t45 512 N 0 (by omega) (by omega)
  have hs := stt_s (46 * c + t)
  have hle := stt_le (46 * c + t + 1)
  refine ⟨(0, vp_updL ou (0 : Int32).toNatClampNeg (nI (inn (46 * c + t) 512)).toInt64), (nI (inn (46 * c + t) 512), 0), ?_, ?_, rfl, fun _ => rfl⟩
  · rw [mL_ways, mX4_ways, e1]
    dsimp only [Option.bind_some, Sum.elim_inr]
    rw [show mX4_ways_10 N (nI c) (nI t) N 0 0 = _ from e2]
    rfl
  · rw [mX5_ways, mX5_isIn, if_neg a1, if_neg a2, Option.bind_some, if_neg ne10, mX5_isIn, if_neg a3, if_neg a4, Option.bind_some, if_neg ne10, key_n, show nI (46 * c + t) + (1 : Int32) = nI (46 * c + t + 1) from nI_1 _, if_neg (bad_n (by omega) (by omega)), if_neg (bad_n (by omega) (by omega)), nI_clamp (by omega), nI_clamp (by omega), hT.2 _ (by omega), hT.2 _ (by omega), pk_sub (by omega), show stt (46 * c + t + 1) - stt (46 * c + t) = inn (46 * c + t) 512 by omega]
theorem t_forced (hN : 600 ≤ N) (hT : MTB me mf) (ou : RowJ) (th p q : Int32) :
    ∃ o1 o2, mL_forced N ou p q = some o1 ∧ mX5_forced N th me mf p q = some o2 ∧ o2.2 = o1.1 ∧ (o1.1 = 0 → o1.2 0 = o2.1.toInt64) := by
  have hno : mX4_checkPartition N p q = some (.inl 2) → mX5_forced N th me mf p q = some (0, 1) → ∃ o1 o2, mL_forced N ou p q = some o1 ∧ mX5_forced N th me mf p q = some o2 ∧ o2.2 = o1.1 ∧ (o1.1 = 0 → o1.2 0 = o2.1.toInt64) := by
    intro h1 h2
    refine ⟨(1, ou), (0, 1), ?_, h2, rfl, fun e => absurd e ne10⟩
    rw [mL_forced, mX4_forced, h1]
    rfl
  by_cases a1 : p < (1 : Int32)
  · exact hno (by rw [mX4_checkPartition, if_pos a1]) (by rw [mX5_forced, mX5_isIn, if_pos a1]; rfl)
  by_cases a2 : (9 : Int32) < p
  · exact hno (by rw [mX4_checkPartition, if_neg a1, if_neg (Int32.not_le.mpr a2)]) (by rw [mX5_forced, mX5_isIn, if_neg a1, if_pos a2]; rfl)
  by_cases a3 : q < (1 : Int32)
  · exact hno (by rw [mX4_checkPartition, if_neg a1, if_pos (Int32.not_lt.mp a2), if_pos a3]) (by rw [mX5_forced, mX5_isIn, if_neg a1, if_neg a2, mX5_isIn, if_pos a3]; rfl)
  by_cases a4 : (45 : Int32) < q
  · exact hno (by rw [mX4_checkPartition, if_neg a1, if_pos (Int32.not_lt.mp a2), if_neg a3, if_neg (Int32.not_le.mpr a4)]) (by rw [mX5_forced, mX5_isIn, if_neg a1, if_neg a2, mX5_isIn, if_neg a3, if_pos a4]; rfl)
  obtain ⟨c, c1, c9, rfl⟩ := rng (x := p) 1 9 (by omega) (by omega) a1 a2
  obtain ⟨t, t1, t45, rfl⟩ := rng (x := q) 1 45 (by omega) (by omega) a3 a4
  have e1 : mX4_checkPartition N (nI c) (nI t) = some (.inr ()) := by rw [mX4_checkPartition, if_neg a1, if_pos (Int32.not_lt.mp a2), if_neg a3, if_pos (Int32.not_lt.mp a4)]
  have e2 := forced_15 (N := N) hN c9 t45 512 N 0 (by omega) (by omega)
  have hs := stt_s (46 * c + t)
  have hle := stt_le (46 * c + t + 1)
  have h0 : inn (46 * c + t) 0 = 0 := rfl
  have e3 : mX5_forcedOf N me mf (nI c) (nI t) = some (if inn (46 * c + t) 512 = 0 then 0 else fA (46 * c + t) 512) := by
    rw [mX5_forcedOf, key_n, show nI (46 * c + t) + (1 : Int32) = nI (46 * c + t + 1) from nI_1 _, if_neg (bad_n (by omega) (by omega)), if_neg (bad_n (by omega) (by omega))]
    simp only [nI_clamp (show 46 * c + t < 2 ^ 31 by omega), nI_clamp (show 46 * c + t + 1 < 2 ^ 31 by omega)]
    rw [hT.2 _ (by omega), hT.2 _ (by omega)]
    by_cases z : inn (46 * c + t) 512 = 0
    · rw [if_pos (by rw [hs, z, Nat.add_zero]), if_neg (bad_n (by omega) (by omega)), if_pos z]
      obtain ⟨M, rfl⟩ : ∃ j, N = j + 1 := ⟨N - 1, by omega⟩
      rw [s_mX5_forcedOf_41, show nI (46 * c + t) + (1 : Int32) = nI (46 * c + t + 1) from nI_1 _, if_neg (bad_n (by omega) (by omega)), nI_clamp (by omega), hT.2 _ (by omega), if_pos (nI_le (by omega) (by omega))]
    · rw [if_neg (fun e => z (by have := (nI_eq (by omega) (by omega)).mp e; omega)), if_neg (bad_n (by omega) (by omega)), if_neg z]
      have e := forced_41 (N := N) hT (K := 46 * c + t) (by omega) (inn (46 * c + t) 512) N 0 (by omega) (by omega) (by omega)
      rw [h0, Nat.add_zero] at e
      exact e
  refine ⟨(0, vp_updL ou (0 : Int32).toNatClampNeg (if inn (46 * c + t) 512 = 0 then 0 else fA (46 * c + t) 512 : Int32).toInt64), ((if inn (46 * c + t) 512 = 0 then 0 else fA (46 * c + t) 512), 0), ?_, ?_, rfl, fun _ => rfl⟩
  · rw [mL_forced, mX4_forced, e1]
    dsimp only [Option.bind_some, Sum.elim_inr]
    rw [show mX4_forced_15 N (nI c) (nI t) N 0 1022 0 = _ from e2]
    rfl
  · rw [mX5_forced, mX5_isIn, if_neg a1, if_neg a2, Option.bind_some, if_neg ne10, mX5_isIn, if_neg a3, if_neg a4, Option.bind_some, if_neg ne10, e3]
    rfl
/-- asked, the search is fresh -/
theorem refresh_any {W H : Nat} (hN : 600 ≤ N) (hS : ST W H st cA cD su) (hf : fr = 0 ∨ (fr = 1 ∧ tr = nI (res st cA.1 cD.1 W H).1 ∧ fo = nI (res st cA.1 cD.1 W H).2.1 ∧ KR (res st cA.1 cD.1 W H) ke ∧ SI (res st cA.1 cD.1 W H))) (ho : RowI) (hc : Int32) :
    ∃ ho' ke' hc', mX3_refresh N ho ke hc tr fo fr st (nI W) (nI H) cA cD su = some (ho', ke', hc', nI (res st cA.1 cD.1 W H).1, nI (res st cA.1 cD.1 W H).2.1, 1, st) ∧ KR (res st cA.1 cD.1 W H) ke' ∧ SI (res st cA.1 cD.1 W H) := by
  rcases hf with rfl | ⟨rfl, rfl, rfl, h4, h5⟩
  · exact refresh_n hN hS ho ke hc tr fo
  · exact ⟨ho, ke, hc, by rw [mX3_refresh, if_neg ne10], h4, h5⟩
theorem t_fillings (hN : 600 ≤ N) (hr : Rel ke tr fo fr st co ro cA cD su w h ms mu mb me mf) (ho : RowI) (hc : Int32) (th mt mv ml : Int32) (mk : RowI) :
    ∃ o1 o2, mX4_fillings N ho ke hc tr fo fr st co ro cA cD su = some o1 ∧ mX5_fillings N th w h ms mu mb me mf mt mv ml mk = some o2 ∧ o1.1 = o2.1 ∧ Rel o1.2.2.1 o1.2.2.2.2.1 o1.2.2.2.2.2.1 o1.2.2.2.2.2.2.1 o1.2.2.2.2.2.2.2 co ro cA cD su w h o2.2.2.1 mu mb me mf := by
  obtain ⟨W, H, rfl, rfl, rfl, rfl, rfl, hS, hM, hf⟩ := hr
  obtain ⟨ho', ke', hc', r1, r2, r3⟩ := refresh_any hN hS hf ho hc
  obtain ⟨mk', q1, q2, q3⟩ := look_m hN hS.1 hS.2.1 hM hS.2.2.2.2.1 hS.2.2.2.2.2.1 mt mv ml mk
  refine ⟨(tld (res ms cA.1 cD.1 W H), ho', ke', hc', nI (res ms cA.1 cD.1 W H).1, nI (res ms cA.1 cD.1 W H).2.1, 1, ms), (tld (res ms cA.1 cD.1 W H), 0, ms, nI (res ms cA.1 cD.1 W H).1, nI (res ms cA.1 cD.1 W H).2.1, lg (res ms cA.1 cD.1 W H), mk'), ?_, ?_, rfl, W, H, rfl, rfl, rfl, rfl, rfl, hS, hM, Or.inr ⟨rfl, rfl, rfl, r2, r3⟩⟩
  · rw [mX4_fillings, r1, Option.bind_some, told_c r3]; rfl
  · rw [mX5_fillings, q1, Option.bind_some, told_m]; rfl
theorem t_tries (hN : 600 ≤ N) (hr : Rel ke tr fo fr st co ro cA cD su w h ms mu mb me mf) (ho : RowI) (hc : Int32) (th mt mv ml : Int32) (mk : RowI) :
    ∃ o1 o2, mX4_tries N ho ke hc tr fo fr st co ro cA cD su = some o1 ∧ mX5_tries N th w h ms mu mb me mf mt mv ml mk = some o2 ∧ o1.1 = o2.1 ∧ Rel o1.2.2.1 o1.2.2.2.2.1 o1.2.2.2.2.2.1 o1.2.2.2.2.2.2.1 o1.2.2.2.2.2.2.2 co ro cA cD su w h o2.2.2.1 mu mb me mf := by
  obtain ⟨W, H, rfl, rfl, rfl, rfl, rfl, hS, hM, hf⟩ := hr
  obtain ⟨ho', ke', hc', r1, r2, r3⟩ := refresh_any hN hS hf ho hc
  obtain ⟨mk', q1, q2, q3⟩ := look_m hN hS.1 hS.2.1 hM hS.2.2.2.2.1 hS.2.2.2.2.2.1 mt mv ml mk
  refine ⟨(nI (res ms cA.1 cD.1 W H).1, ho', ke', hc', nI (res ms cA.1 cD.1 W H).1, nI (res ms cA.1 cD.1 W H).2.1, 1, ms), (nI (res ms cA.1 cD.1 W H).1, 0, ms, nI (res ms cA.1 cD.1 W H).1, nI (res ms cA.1 cD.1 W H).2.1, lg (res ms cA.1 cD.1 W H), mk'), ?_, ?_, rfl, W, H, rfl, rfl, rfl, rfl, rfl, hS, hM, Or.inr ⟨rfl, rfl, rfl, r2, r3⟩⟩
  · rw [mX4_tries, r1]; rfl
  · rw [mX5_tries, q1]; rfl
theorem t_solved (hN : 600 ≤ N) (hr : Rel ke tr fo fr st co ro cA cD su w h ms mu mb me mf) (ou : RowJ) (ho : RowI) (hc : Int32) (th mt mv ml : Int32) (mk : RowI) (p : Int32) :
    ∃ o1 o2, mL_solved N ou ho ke hc tr fo fr st co ro cA cD su p = some o1 ∧ mX5_solved N th w h ms mu mb me mf mt mv ml mk p = some o2 ∧ o2.2.1 = o1.1 ∧ (o1.1 = 0 → o1.2.1 0 = o2.1.toInt64) ∧ Rel o1.2.2.2.1 o1.2.2.2.2.2.1 o1.2.2.2.2.2.2.1 o1.2.2.2.2.2.2.2.1 o1.2.2.2.2.2.2.2.2 co ro cA cD su w h o2.2.2.1 mu mb me mf := by
  have hr0 := hr
  obtain ⟨W, H, rfl, rfl, rfl, rfl, rfl, hS, hM, hf⟩ := hr
  have g36 := dim36 hS.1
  rcases cell_ix hS.1 N p with ⟨h1, h2⟩ | ⟨k, hk, rfl, h1, h2⟩
  · refine ⟨(1, ou, ho, ke, hc, tr, fo, fr, ms), (0, 1, ms, mt, mv, ml, mk), ?_, ?_, rfl, fun e => absurd e ne10, hr0⟩
    · rw [mL_solved, mX4_solved, h1]; rfl
    · rw [mX5_solved, h2]; rfl
  · obtain ⟨mk', q1, q2, q3⟩ := look_m hN hS.1 hS.2.1 hM hS.2.2.2.2.1 hS.2.2.2.2.2.1 mt mv ml mk
    obtain ⟨q3a, q3b⟩ := q3
    have em : ∀ z, mX5_solvedAt N (nI W) (nI H) ms mu mb me mf mt mv ml mk (nI k) = some (z, ms, nI (res ms cA.1 cD.1 W H).1, nI (res ms cA.1 cD.1 W H).2.1, lg (res ms cA.1 cD.1 W H), mk') → mX5_solved N th (nI W) (nI H) ms mu mb me mf mt mv ml mk (nI k) = some (z, 0, ms, nI (res ms cA.1 cD.1 W H).1, nI (res ms cA.1 cD.1 W H).2.1, lg (res ms cA.1 cD.1 W H), mk') := by
      intro z hz
      rw [mX5_solved, h2, Option.bind_some, if_neg ne10, hz]
      rfl
    by_cases c : ms k = -1
    · refine ⟨(0, vp_updL ou (0 : Int32).toNatClampNeg (0 : Int32).toInt64, ho, ke, hc, tr, fo, fr, ms), _, ?_, em 0 ?_, rfl, fun _ => rfl, hr0⟩
      · rw [mL_solved, mX4_solved, h1]
        dsimp only [Option.bind_some, Sum.elim_inr]
        rw [mX1_isPillar, rd_n (by omega), if_pos c, Option.bind_some, if_neg ne10]
        rfl
      · rw [mX5_solvedAt, q1, Option.bind_some]
        dsimp only
        by_cases z1 : lg (res ms cA.1 cD.1 W H) = 0
        · rw [if_pos z1]
          by_cases z2 : nI (res ms cA.1 cD.1 W H).2.1 = 0
          · rw [if_pos z2]
          · rw [if_neg z2, if_neg (bad_n (by omega) (by omega))]
            simp only [nI_clamp (show k < 2 ^ 31 by omega)]
            rw [if_pos c]
        · rw [if_neg z1]
    · obtain ⟨ho', ke', hc', r1, r2, r3⟩ := refresh_any hN hS hf ho hc
      have ec : ∀ z, mX3_firstFilling N ke' (nI (res ms cA.1 cD.1 W H).1) (nI (res ms cA.1 cD.1 W H).2.1) (nI k) = some z → mL_solved N ou ho ke hc tr fo fr ms (nI W) (nI H) cA cD su (nI k) = some (0, vp_updL ou (0 : Int32).toNatClampNeg z.toInt64, ho', ke', hc', nI (res ms cA.1 cD.1 W H).1, nI (res ms cA.1 cD.1 W H).2.1, 1, ms) := by
        intro z hz
        rw [mL_solved, mX4_solved, h1]
        dsimp only [Option.bind_some, Sum.elim_inr]
        rw [mX1_isPillar, rd_n (by omega), if_neg c, Option.bind_some, if_pos rfl, r1]
        dsimp only [Option.bind_some]
        rw [hz]
        rfl
      have fin : ∀ z, mX3_firstFilling N ke' (nI (res ms cA.1 cD.1 W H).1) (nI (res ms cA.1 cD.1 W H).2.1) (nI k) = some z → mX5_solvedAt N (nI W) (nI H) ms mu mb me mf mt mv ml mk (nI k) = some (z, ms, nI (res ms cA.1 cD.1 W H).1, nI (res ms cA.1 cD.1 W H).2.1, lg (res ms cA.1 cD.1 W H), mk') →
          ∃ o1 o2, mL_solved N ou ho ke hc tr fo fr ms (nI W) (nI H) cA cD su (nI k) = some o1 ∧ mX5_solved N th (nI W) (nI H) ms mu mb me mf mt mv ml mk (nI k) = some o2 ∧ o2.2.1 = o1.1 ∧ (o1.1 = 0 → o1.2.1 0 = o2.1.toInt64) ∧ Rel o1.2.2.2.1 o1.2.2.2.2.2.1 o1.2.2.2.2.2.2.1 o1.2.2.2.2.2.2.2.1 o1.2.2.2.2.2.2.2.2 (nI W) (nI H) cA cD su (nI W) (nI H) o2.2.2.1 mu mb me mf :=
        fun z a b => ⟨_, _, ec z a, em z b, rfl, fun _ => rfl, W, H, rfl, rfl, rfl, rfl, rfl, hS, hM, Or.inr ⟨rfl, rfl, rfl, r2, r3⟩⟩
      by_cases z1 : 4000 < (res ms cA.1 cD.1 W H).1
      · refine fin 0 ?_ ?_
        · rw [mX3_firstFilling, unknown_n (by omega), if_pos z1, Option.bind_some, if_neg ne10]
        · rw [mX5_solvedAt, q1, Option.bind_some]
          dsimp only
          rw [if_neg (show ¬ lg (res ms cA.1 cD.1 W H) = 0 by unfold lg; rw [if_pos z1]; exact ne10)]
      · have el : lg (res ms cA.1 cD.1 W H) = 0 := if_neg z1
        by_cases z2 : (res ms cA.1 cD.1 W H).2.1 = 0
        · refine fin 0 ?_ ?_
          · rw [mX3_firstFilling, unknown_n (by omega), if_neg z1, Option.bind_some, if_pos rfl, if_pos (by rw [z2]; exact nI_0)]
          · rw [mX5_solvedAt, q1, Option.bind_some]
            dsimp only
            rw [if_pos el, if_pos (by rw [z2]; exact nI_0)]
        · obtain ⟨g, g1, g2⟩ := r2 z2
          obtain ⟨g', g3, g4⟩ := q2 z2
          rw [g1] at g3
          cases g3
          refine fin (ke' k) ?_ ?_
          · rw [mX3_firstFilling, unknown_n (by omega), if_neg z1, Option.bind_some, if_pos rfl, if_neg (nI_ne0 (by omega) (by omega)), rd_n (by omega)]
          · rw [mX5_solvedAt, q1, Option.bind_some]
            dsimp only
            rw [if_pos el, if_neg (nI_ne0 (by omega) (by omega)), if_neg (bad_n (by omega) (by omega))]
            simp only [nI_clamp (show k < 2 ^ 31 by omega)]
            rw [if_neg c, if_neg (bad_n (by omega) (by omega)), g2 k (by omega), g4 k (by omega)]
theorem t_next (hN : 600 ≤ N) (hr : Rel ke tr fo fr st co ro cA cD su w h ms mu mb me mf) (th : Int32) :
    ∃ o1 o2, mX4_next N st co ro cA cD su = some o1 ∧ mX5_next N th w h ms mu mb me mf = some o2 ∧ o1 = o2.1 ∧ o2.2.2 = ms := by
  obtain ⟨W, H, rfl, rfl, rfl, rfl, rfl, hS, hM, hf⟩ := hr
  refine ⟨_, _, ?_, next_m hN hS.1 hS.2.1 hM hS.2.2.2.2.1 hS.2.2.2.2.2.1 th, rfl, rfl⟩
  rw [mX4_next, next_c hN hS]
  rfl
theorem t_would (hN : 600 ≤ N) (hr : Rel ke tr fo fr st co ro cA cD su w h ms mu mb me mf) (ou : RowJ) (ho : RowI) (hc : Int32) (th mt mv ml : Int32) (mk : RowI) (p q : Int32) :
    ∃ o1 o2, mL_would N ou ho ke hc tr fo fr st co ro cA cD su p q = some o1 ∧ mX5_would N th w h ms mu mb me mf mt mv ml mk p q = some o2 ∧ o2.2.1 = o1.1 ∧ (o1.1 = 0 → o1.2.1 0 = o2.1.toInt64) ∧ Rel o1.2.2.2.1 o1.2.2.2.2.2.1 o1.2.2.2.2.2.2.1 o1.2.2.2.2.2.2.2.1 o1.2.2.2.2.2.2.2.2 co ro cA cD su w h o2.2.2.1 mu mb me mf := by
  have hr0 := hr
  obtain ⟨W, H, rfl, rfl, rfl, rfl, rfl, hS, hM, hf⟩ := hr
  have g36 := dim36 hS.1
  rcases cell_ix hS.1 N p with ⟨h1, h2⟩ | ⟨k, hk, rfl, h1, h2⟩
  · refine ⟨(1, ou, ho, ke, hc, tr, fo, fr, ms), (0, 1, ms, mt, mv, ml, mk), ?_, ?_, rfl, fun e => absurd e ne10, hr0⟩
    · rw [mL_would, mX4_would, h1]; rfl
    · rw [mX5_would, h2]; rfl
  · by_cases a1 : q < (1 : Int32)
    · refine ⟨(2, ou, ho, ke, hc, tr, fo, fr, ms), (0, 2, ms, mt, mv, ml, mk), ?_, ?_, rfl, fun e => absurd e ne20, hr0⟩
      · rw [mL_would, mX4_would, h1]
        dsimp only [Option.bind_some, Sum.elim_inr]
        rw [if_pos a1]; rfl
      · rw [mX5_would, h2, Option.bind_some, if_neg ne10, mX5_isIn, if_pos a1]; rfl
    by_cases a2 : (9 : Int32) < q
    · refine ⟨(2, ou, ho, ke, hc, tr, fo, fr, ms), (0, 2, ms, mt, mv, ml, mk), ?_, ?_, rfl, fun e => absurd e ne20, hr0⟩
      · rw [mL_would, mX4_would, h1]
        dsimp only [Option.bind_some, Sum.elim_inr]
        rw [if_neg a1, if_neg (Int32.not_le.mpr a2)]; rfl
      · rw [mX5_would, h2, Option.bind_some, if_neg ne10, mX5_isIn, if_neg a1, if_pos a2]; rfl
    obtain ⟨v, v1, v9, rfl⟩ := rng (x := q) 1 9 (by omega) (by omega) a1 a2
    by_cases c : ms k = -1
    · refine ⟨(3, ou, ho, ke, hc, tr, fo, fr, ms), (0, 3, ms, mt, mv, ml, mk), ?_, ?_, rfl, fun e => absurd e ne30, hr0⟩
      · rw [mL_would, mX4_would, h1]
        dsimp only [Option.bind_some, Sum.elim_inr]
        rw [if_neg a1, if_pos (Int32.not_lt.mp a2), open_n (by omega), if_pos c]; rfl
      · rw [mX5_would, h2, Option.bind_some, if_neg ne10, mX5_isIn, if_neg a1, if_neg a2, Option.bind_some, if_neg ne10, if_neg (bad_n (by omega) (by omega))]
        simp only [nI_clamp (show k < 2 ^ 31 by omega)]
        rw [if_pos c]; rfl
    · have hS' := hS.upd c v9
      have hM' := hM.upd c v9
      obtain ⟨ho', ke', hc', r1, r2, r3⟩ := refresh_n (N := N) hN hS' ho ke hc tr fo
      obtain ⟨mk', q1, q2, q3⟩ := look_m hN hS'.1 hS'.2.1 hM' hS'.2.2.2.2.1 hS'.2.2.2.2.2.1 mt mv ml mk
      have eb : upd (upd ms k (nI v)) k (ms k) = ms := by rw [upd_upd, upd_id rfl]
      refine ⟨(0, vp_updL ou (0 : Int32).toNatClampNeg (tld (res (upd ms k (nI v)) cA.1 cD.1 W H)).toInt64, ho', ke', hc', nI (res (upd ms k (nI v)) cA.1 cD.1 W H).1, nI (res (upd ms k (nI v)) cA.1 cD.1 W H).2.1, 0, ms), (tld (res (upd ms k (nI v)) cA.1 cD.1 W H), 0, ms, nI (res (upd ms k (nI v)) cA.1 cD.1 W H).1, nI (res (upd ms k (nI v)) cA.1 cD.1 W H).2.1, lg (res (upd ms k (nI v)) cA.1 cD.1 W H), mk'), ?_, ?_, rfl, fun _ => rfl, W, H, rfl, rfl, rfl, rfl, rfl, hS, hM, Or.inl rfl⟩
      · rw [mL_would, mX4_would, h1]
        dsimp only [Option.bind_some, Sum.elim_inr]
        rw [if_neg a1, if_pos (Int32.not_lt.mp a2), open_n (by omega), if_neg c]
        dsimp only [Option.bind_some, Sum.elim_inr]
        rw [mX1_stoneAt, rd_n (by omega), mX1_lay, wr_n (by omega), mX3_forget]
        dsimp only [Option.bind_some]
        rw [r1]
        dsimp only [Option.bind_some]
        rw [told_c r3, mX1_lay, wr_n (by omega), eb]
        rfl
      · rw [mX5_would, h2, Option.bind_some, if_neg ne10, mX5_isIn, if_neg a1, if_neg a2, Option.bind_some, if_neg ne10, if_neg (bad_n (by omega) (by omega))]
        simp only [nI_clamp (show k < 2 ^ 31 by omega)]
        rw [if_neg c, if_neg (bad_n (by omega) (by omega)), if_neg (bad_n (by omega) (by omega)), q1, Option.bind_some, if_neg (bad_n (by omega) (by omega))]
        dsimp only
        rw [told_m, Option.bind_some, eb]
theorem t_mean (hN : 600 ≤ N) (hr : Rel ke tr fo fr st co ro cA cD su w h ms mu mb me mf) (th : Int32) :
    ∃ o1 o2, mX4_mean N st co ro cA cD su = some o1 ∧ mX5_mean N th w h ms mu mb me mf = some o2 ∧ o1 = o2.1 ∧ o2.2.2 = ms := by
  obtain ⟨W, H, rfl, rfl, rfl, rfl, rfl, hS, hM, hf⟩ := hr
  exact ⟨_, _, mean_c hN hS, mean_m hN hS.1 hS.2.1 hM hS.2.2.2.2.1 hS.2.2.2.2.2.1 th, rfl, rfl⟩
theorem t_digest (hN : 600 ≤ N) (hr : Rel ke tr fo fr st co ro cA cD su w h ms mu mb me mf) (ho : RowI) (hc : Int32) (th mt mv ml : Int32) (mk : RowI) :
    ∃ o1 o2, mX4_digest N ho ke hc tr fo fr st co ro cA cD su = some o1 ∧ mX5_digest N th w h ms mu mb me mf mt mv ml mk = some o2 ∧ o1.1 = o2.1 ∧ Rel o1.2.2.1 o1.2.2.2.2.1 o1.2.2.2.2.2.1 o1.2.2.2.2.2.2.1 o1.2.2.2.2.2.2.2 co ro cA cD su w h o2.2.2.1 mu mb me mf := by
  obtain ⟨W, H, rfl, rfl, rfl, rfl, rfl, hS, hM, hf⟩ := hr
  obtain ⟨ho', ke', hc', r1, r2, r3⟩ := refresh_any hN hS hf ho hc
  obtain ⟨mk', q1, q2, q3⟩ := look_m hN hS.1 hS.2.1 hM hS.2.2.2.2.1 hS.2.2.2.2.2.1 mt mv ml mk
  exact ⟨_, _, digest_c hN hS r1 rfl rfl r3, digest_m hN hS.1 hS.2.1 hM hS.2.2.2.2.1 hS.2.2.2.2.2.1 th q1, rfl, W, H, rfl, rfl, rfl, rfl, rfl, hS, hM, Or.inr ⟨rfl, rfl, rfl, r2, r3⟩⟩
/-- the start: both constructors -/
theorem t_start (hN : 600 ≤ N) : ∃ su o1 o2, mX2_init N (fun _ => 0) = some su ∧ mX1_clear N z0 0 0 cs0 cs0 4 4 = some o1 ∧ mX5_init N 4 4 z0 z0 z0 z0 = some o2 ∧ Rel z0 0 0 0 o1.1 o1.2.1 o1.2.2.1 o1.2.2.2.1 o1.2.2.2.2 su 4 4 z0 z0 o2.1 o2.2.1 o2.2.2 := by
  have hD : Dim 4 4 := ⟨by omega, by omega, by omega, by omega⟩
  obtain ⟨su, s1, s2⟩ := tab_class N hN
  obtain ⟨cA', cD', c1, c2, c3, c4, c5⟩ := clear_n (N := N) hD hN z0 0 0 cs0 cs0
  obtain ⟨mb', l1, l2, l3⟩ := link_n (f := z0) hD hN z0
  obtain ⟨me', mf', m1, m2⟩ := tab_model N hN (nI 4) (nI 4) z0 z0 mb' z0 z0 l1
  have ez : zr 36 z0 = z0 := zr_z 36
  have h := rel_new (ke := z0) (tr := 0) (fo := 0) (f := z0) (mu := z0) (mb := mb') (me := me') (mf := mf') hD hN s2 m2 c2 c3 (fun k hk => by rw [c4]; exact zr_at 36 k hk) (fun k hk => by rw [c5]; exact zr_at 36 k hk) (by rw [ez]; exact l2) (by rw [ez]; exact l3) (fun _ _ => rfl)
  refine ⟨su, _, _, s1, c1, m1, ?_⟩
  rw [ez] at h
  show Rel z0 0 0 0 (zr 36 z0) (nI 4) (nI 4) cA' cD' su 4 4 z0 z0 mb' me' mf'
  rw [ez]
  exact h
end C3
