/-! ===== the class's calls, by what they answer ===== -/
/-- what holds of the kept search -/
def FR (W H : Nat) (st : RowI) (cA cD : CS) (ke : RowI) (tr fo fr : Int32) : Prop := fr = 0 ∨ (fr = 1 ∧ tr = nI (res st cA.1 cD.1 W H).1 ∧ fo = nI (res st cA.1 cD.1 W H).2.1 ∧ KR (res st cA.1 cD.1 W H) ke ∧ SI (res st cA.1 cD.1 W H))
theorem cell_c {W H : Nat} (hD : Dim W H) (N : Nat) {k : Nat} (hk : k < W * H) : mX4_checkCell N (nI W) (nI H) (nI k) = some (.inr ()) := by
  have g36 := dim36 hD
  rw [mX4_checkCell, mX1_has, if_neg (nI_pos (by omega)), mX1_cells, Option.bind_some, pk_mul, if_neg (nI_ge hk (by omega)), Option.bind_some, if_neg (by decide)]
section AK
variable {N : Nat} {ke : RowI} {tr fo fr : Int32} {st : RowI} {cA cD : CS} {su : RowJ} {W H : Nat}
theorem a_stone (hS : ST W H st cA cD su) {k : Nat} (hk : k < W * H) : mX4_stone N st (nI W) (nI H) (nI k) = some (.inr (st k)) := by
  have g36 := dim36 hS.1
  rw [mX4_stone, cell_c hS.1 N hk]
  dsimp only [Option.bind_some, Sum.elim_inr]
  rw [mX1_stoneAt, rd_n (by omega)]
  rfl
theorem a_corr (hN : 600 ≤ N) (hS : ST W H st cA cD su) {k : Nat} (hk : k < W * H) (d : Bool) {v : Nat} (hv : v ≤ 5) : mX4_corridor N st (nI W) (nI H) cA cD su (nI k) (nI (dn d)) (nI v) = some (.inr (tl st (uD2 cA.1 cD.1 d) d W H k (nI v))) := by
  have g36 := dim36 hS.1
  obtain ⟨hD, hR, hA, hB, uA, uD, hT⟩ := hS
  rw [mX4_corridor, cell_c hD N hk]
  dsimp only [Option.bind_some, Sum.elim_inr]
  rw [if_neg (nI_pos (by omega)), if_pos (show nI v < (6 : Int32) from nI_lt (b := 6) (by omega) (by omega))]
  cases d
  · rw [if_pos (show nI (dn false) = 0 from rfl), tell_n hD hN hR hA uA hT hk]
    rfl
  · rw [if_neg (show ¬ nI (dn true) = 0 by decide), tell_n hD hN hR hB uD hT hk]
    rfl
theorem a_can (hN : 600 ≤ N) (hS : ST W H st cA cD su) {k : Nat} (hk : k < W * H) : mX4_can N st (nI W) (nI H) cA cD su (nI k) = some (.inr (nI (2 * cn st cA.1 cD.1 W H k))) := by
  rw [mX4_can, cell_c hS.1 N hk]
  dsimp only [Option.bind_some, Sum.elim_inr]
  rw [can_c hN hS hk]
  rfl
theorem a_count (hN : 600 ≤ N) (hS : ST W H st cA cD su) {v : Nat} (hv : v ≤ 8) : mX4_count N st (nI W) (nI H) cA cD su (nI v) = some (.inr (tal st cA.1 cD.1 W H (nI v))) := by
  rw [mX4_count, if_neg (nI_pos (by omega)), if_pos (show nI v < (9 : Int32) from nI_lt (b := 9) (by omega) (by omega)), tally_n hN hS]
  rfl
theorem a_part {c t : Nat} (c1 : 1 ≤ c) (c9 : c ≤ 9) (t1 : 1 ≤ t) (t45 : t ≤ 45) : mX4_checkPartition N (nI c) (nI t) = some (.inr ()) := by
  rw [mX4_checkPartition, if_neg (show ¬ nI c < (1 : Int32) from nI_nlt (a := c) (b := 1) (by omega) (by omega)), if_pos (show nI c ≤ (9 : Int32) from nI_le (a := c) (b := 9) (by omega) (by omega)), if_neg (show ¬ nI t < (1 : Int32) from nI_nlt (a := t) (b := 1) (by omega) (by omega)), if_pos (show nI t ≤ (45 : Int32) from nI_le (a := t) (b := 45) (by omega) (by omega))]
theorem a_ways (hN : 600 ≤ N) {c t : Nat} (c1 : 1 ≤ c) (c9 : c ≤ 9) (t1 : 1 ≤ t) (t45 : t ≤ 45) : mX4_ways N (nI c) (nI t) = some (.inr (nI (inn (46 * c + t) 512))) := by
  rw [mX4_ways, a_part c1 c9 t1 t45]
  dsimp only [Option.bind_some, Sum.elim_inr]
  exact ways_10 (N := N) hN c9 t45 512 N 0 (by omega) (by omega)
theorem a_forced (hN : 600 ≤ N) {c t : Nat} (c1 : 1 ≤ c) (c9 : c ≤ 9) (t1 : 1 ≤ t) (t45 : t ≤ 45) : mX4_forced N (nI c) (nI t) = some (.inr (if inn (46 * c + t) 512 = 0 then 0 else fA (46 * c + t) 512)) := by
  rw [mX4_forced, a_part c1 c9 t1 t45]
  dsimp only [Option.bind_some, Sum.elim_inr]
  exact forced_15 (N := N) hN c9 t45 512 N 0 (by omega) (by omega)
theorem FR.on (ke : RowI) (hk : KR (res st cA.1 cD.1 W H) ke) (hI : SI (res st cA.1 cD.1 W H)) : FR W H st cA cD ke (nI (res st cA.1 cD.1 W H).1) (nI (res st cA.1 cD.1 W H).2.1) 1 := Or.inr ⟨rfl, rfl, rfl, hk, hI⟩
theorem a_fill (hN : 600 ≤ N) (hS : ST W H st cA cD su) (hf : FR W H st cA cD ke tr fo fr) (ho : RowI) (hc : Int32) : SI (res st cA.1 cD.1 W H) ∧ ∃ ho' ke' hc' tr' fo' fr', mX4_fillings N ho ke hc tr fo fr st (nI W) (nI H) cA cD su = some (tld (res st cA.1 cD.1 W H), ho', ke', hc', tr', fo', fr', st) ∧ FR W H st cA cD ke' tr' fo' fr' := by
  obtain ⟨ho', ke', hc', r1, r2, r3⟩ := refresh_any hN hS hf ho hc
  refine ⟨r3, ho', ke', hc', _, _, _, ?_, FR.on ke' r2 r3⟩
  rw [mX4_fillings, r1, Option.bind_some, told_c r3]; rfl
theorem a_tries (hN : 600 ≤ N) (hS : ST W H st cA cD su) (hf : FR W H st cA cD ke tr fo fr) (ho : RowI) (hc : Int32) : ∃ ho' ke' hc' tr' fo' fr', mX4_tries N ho ke hc tr fo fr st (nI W) (nI H) cA cD su = some (nI (res st cA.1 cD.1 W H).1, ho', ke', hc', tr', fo', fr', st) ∧ FR W H st cA cD ke' tr' fo' fr' := by
  obtain ⟨ho', ke', hc', r1, r2, r3⟩ := refresh_any hN hS hf ho hc
  refine ⟨ho', ke', hc', _, _, _, ?_, FR.on ke' r2 r3⟩
  rw [mX4_tries, r1]; rfl
theorem a_digest (hN : 600 ≤ N) (hS : ST W H st cA cD su) (hf : FR W H st cA cD ke tr fo fr) (ho : RowI) (hc : Int32) : ∃ ho' ke' hc' tr' fo' fr', mX4_digest N ho ke hc tr fo fr st (nI W) (nI H) cA cD su = some (dig st cA.1 cD.1 W H, ho', ke', hc', tr', fo', fr', st) ∧ FR W H st cA cD ke' tr' fo' fr' := by
  obtain ⟨ho', ke', hc', r1, r2, r3⟩ := refresh_any hN hS hf ho hc
  exact ⟨ho', ke', hc', _, _, _, digest_c hN hS r1 rfl rfl r3, FR.on ke' r2 r3⟩
/-- what solved says -/
def slv (st uA uD : RowI) (W H k : Nat) : Int32 := if st k = -1 then 0 else if 4000 < (res st uA uD W H).1 then 0 else if (res st uA uD W H).2.1 = 0 then 0 else ((res st uA uD W H).2.2.getD (fun _ => 0)) k
theorem a_solved (hN : 600 ≤ N) (hS : ST W H st cA cD su) (hf : FR W H st cA cD ke tr fo fr) (ho : RowI) (hc : Int32) {k : Nat} (hk : k < W * H) : ∃ ho' ke' hc' tr' fo' fr', mX4_solved N ho ke hc tr fo fr st (nI W) (nI H) cA cD su (nI k) = some (.inr (slv st cA.1 cD.1 W H k, ho', ke', hc', tr', fo', fr', st)) ∧ FR W H st cA cD ke' tr' fo' fr' := by
  have g36 := dim36 hS.1
  by_cases c : st k = -1
  · refine ⟨ho, ke, hc, tr, fo, fr, ?_, hf⟩
    rw [mX4_solved, cell_c hS.1 N hk]
    dsimp only [Option.bind_some, Sum.elim_inr]
    rw [mX1_isPillar, rd_n (by omega), if_pos c, Option.bind_some, if_neg ne10]
    unfold slv
    rw [if_pos c]
  · obtain ⟨ho', ke', hc', r1, r2, r3⟩ := refresh_any hN hS hf ho hc
    refine ⟨ho', ke', hc', _, _, _, ?_, FR.on ke' r2 r3⟩
    have ec : ∀ z, mX3_firstFilling N ke' (nI (res st cA.1 cD.1 W H).1) (nI (res st cA.1 cD.1 W H).2.1) (nI k) = some z → mX4_solved N ho ke hc tr fo fr st (nI W) (nI H) cA cD su (nI k) = some (.inr (z, ho', ke', hc', nI (res st cA.1 cD.1 W H).1, nI (res st cA.1 cD.1 W H).2.1, 1, st)) := by
      intro z hz
      rw [mX4_solved, cell_c hS.1 N hk]
      dsimp only [Option.bind_some, Sum.elim_inr]
      rw [mX1_isPillar, rd_n (by omega), if_neg c, Option.bind_some, if_pos rfl, r1]
      dsimp only [Option.bind_some]
      rw [hz]
      rfl
    have h1 := r3.1
    have h2 := r3.2
    refine ec _ ?_
    unfold slv
    rw [if_neg c]
    by_cases z1 : 4000 < (res st cA.1 cD.1 W H).1
    · rw [mX3_firstFilling, unknown_n (by omega), if_pos z1, if_pos z1, Option.bind_some, if_neg ne10]
    · rw [if_neg z1]
      by_cases z2 : (res st cA.1 cD.1 W H).2.1 = 0
      · rw [mX3_firstFilling, unknown_n (by omega), if_neg z1, if_pos z2, Option.bind_some, if_pos rfl, if_pos (by rw [z2]; exact nI_0)]
      · rw [if_neg z2]
        obtain ⟨g, g1, g2⟩ := r2 z2
        rw [mX3_firstFilling, unknown_n (by omega), if_neg z1, Option.bind_some, if_pos rfl, if_neg (nI_ne0 (by omega) (by omega)), rd_n (by omega), g1, g2 k (by omega)]
        rfl
theorem a_next (hN : 600 ≤ N) (hS : ST W H st cA cD su) : mX4_next N st (nI W) (nI H) cA cD su = some (tg st cA.1 cD.1 W H (W * H) 0 (-1) 10) := by
  rw [mX4_next, next_c hN hS]
  rfl
theorem a_mean (hN : 600 ≤ N) (hS : ST W H st cA cD su) : mX4_mean N st (nI W) (nI H) cA cD su = some (mnv st cA.1 cD.1 W H) := mean_c hN hS
theorem a_force (hN : 600 ≤ N) (hS : ST W H st cA cD su) (fr : Int32) : mX4_force N fr st (nI W) (nI H) cA cD su = some (nI (frc cA.1 cD.1 W H 36 0 st).1, 0, (frc cA.1 cD.1 W H 36 0 st).2) := by
  rw [mX4_force, mX3_forget, Option.bind_some]
  exact force_9 (N := N) hN 36 N 0 st 0 (by omega) (by omega) hS
/-! acts -/
theorem a_floor (hN : 600 ≤ N) {W2 H2 : Nat} (hD : Dim W2 H2) (hT : TBto 512 su) (co ro : Int32) : ∃ cA' cD', mX4_setFloor N fr st co ro cA cD (nI W2) (nI H2) = some (.inr (nI (W2 * H2), 0, zr 36 st, nI W2, nI H2, cA', cD')) ∧ ST W2 H2 (zr 36 st) cA' cD' su ∧ (∀ k, k < 36 → cA'.1 k = 0) ∧ (∀ k, k < 36 → cD'.1 k = 0) := by
  obtain ⟨w2, w6, h2, h6⟩ := hD
  have hD : Dim W2 H2 := ⟨w2, w6, h2, h6⟩
  obtain ⟨cA', cD', c1, c2, c3, c4, c5⟩ := clear_n hD hN st co ro cA cD
  refine ⟨cA', cD', ?_, ⟨hD, sr_z (fun k hk => zr_at 36 k hk), c2, c3, ur_z (fun k hk => by rw [c4]; exact zr_at 36 k hk), ur_z (fun k hk => by rw [c5]; exact zr_at 36 k hk), hT⟩, fun k hk => by rw [c4]; exact zr_at 36 k hk, fun k hk => by rw [c5]; exact zr_at 36 k hk⟩
  rw [mX4_setFloor, if_neg (show ¬ nI W2 < (2 : Int32) from nI_nlt (a := W2) (b := 2) (by omega) (by omega)), if_neg (show ¬ (6 : Int32) < nI W2 from nI_nlt (a := 6) (b := W2) (by omega) (by omega)), if_neg (show ¬ nI H2 < (2 : Int32) from nI_nlt (a := H2) (b := 2) (by omega) (by omega)), if_pos (show nI H2 ≤ (6 : Int32) from nI_le (a := H2) (b := 6) (by omega) (by omega)), mX3_forget, Option.bind_some, c1]
  show some _ = _
  rw [pk_mul]
theorem a_pillar (hN : 600 ≤ N) (hS : ST W H st cA cD su) {k : Nat} (hk : k < W * H) : ∃ cA' cD' x, (x = if st k = -1 then 0 else -1) ∧ mX4_pillar N fr st (nI W) (nI H) cA cD (nI k) = some (.inr (if st k = -1 then 0 else 1, 0, upd st k x, cA', cD')) ∧ ST W H (upd st k x) cA' cD' su ∧ cA'.1 = cA.1 ∧ cD'.1 = cD.1 := by
  have g36 := dim36 hS.1
  obtain ⟨hD, hR, hA, hB, uA, uD, hT⟩ := hS
  have key : ∀ x : Int32, (x = -1 ∨ x = 0) → ∃ cA' cD', mX1_joinCells N (upd st k x) (nI W) (nI H) cA cD = some (cA', cD') ∧ ST W H (upd st k x) cA' cD' su ∧ cA'.1 = cA.1 ∧ cD'.1 = cD.1 := by
    intro x hx
    obtain ⟨cA', cD', j1, j2, j3, j4, j5⟩ := joinCells_n (f := upd st k x) hD hN (cA := cA) (cD := cD) hA.1 hB.1
    refine ⟨cA', cD', j1, ⟨hD, ?_, j2, j3, by rw [j4]; exact uA, by rw [j5]; exact uD, hT⟩, j4, j5⟩
    intro j hj
    by_cases e : j = k
    · subst e
      rw [upd_s]
      rcases hx with q | q
      · exact Or.inl q
      · exact Or.inr ⟨0, by omega, q⟩
    · rw [upd_n e]; exact hR j hj
  by_cases c : st k = -1
  · obtain ⟨cA', cD', q1, q2, q3, q4⟩ := key 0 (Or.inr rfl)
    refine ⟨cA', cD', 0, by rw [if_pos c], ?_, q2, q3, q4⟩
    rw [mX4_pillar, cell_c hD N hk]
    dsimp only [Option.bind_some, Sum.elim_inr]
    rw [mX3_forget, mX1_turnPillar, mX1_isPillar, rd_n (by omega), if_pos c, if_pos c, Option.bind_some, Option.bind_some, if_neg ne10, mX1_turnPillar_18, wr_n (by omega), q1]
    dsimp only [Option.bind_some]
    rw [mX1_isPillar, rd_n (by omega), upd_s]
    rfl
  · obtain ⟨cA', cD', q1, q2, q3, q4⟩ := key (-1) (Or.inl rfl)
    refine ⟨cA', cD', -1, by rw [if_neg c], ?_, q2, q3, q4⟩
    rw [mX4_pillar, cell_c hD N hk]
    dsimp only [Option.bind_some, Sum.elim_inr]
    rw [mX3_forget, mX1_turnPillar, mX1_isPillar, rd_n (by omega), if_neg c, if_neg c, Option.bind_some, Option.bind_some, if_pos rfl, mX1_turnPillar_18, wr_n (by omega), q1]
    dsimp only [Option.bind_some]
    rw [mX1_isPillar, rd_n (by omega), upd_s]
    rfl
theorem a_sumA (hS : ST W H st cA cD su) {k v : Nat} (hk : k < W * H) (hv : v ≤ 45) : mX4_setSum N fr (nI W) (nI H) cA cD (nI k) 0 (nI v) = some (.inr (cA.1 k, 0, (upd cA.1 k (nI v), cA.2.1, cA.2.2.1, cA.2.2.2), cD)) ∧ ST W H st (upd cA.1 k (nI v), cA.2.1, cA.2.2.1, cA.2.2.2) cD su := by
  have g36 := dim36 hS.1
  obtain ⟨hD, hR, hA, hB, uA, uD, hT⟩ := hS
  refine ⟨?_, hD, hR, hA, hB, uA.upd k hv, uD, hT⟩
  rw [mX4_setSum, cell_c hD N hk]
  dsimp only [Option.bind_some, Sum.elim_inr]
  rw [if_neg (nI_pos (by omega)), if_pos (show nI v ≤ (45 : Int32) from nI_le (a := v) (b := 45) (by omega) (by omega)), mX3_forget, Option.bind_some, if_pos rfl, mX0_tellSum, rd_n (by omega), wr_n (by omega)]
  rfl
theorem a_sumD (hS : ST W H st cA cD su) {k v : Nat} (hk : k < W * H) (hv : v ≤ 45) : mX4_setSum N fr (nI W) (nI H) cA cD (nI k) 1 (nI v) = some (.inr (cD.1 k, 0, cA, (upd cD.1 k (nI v), cD.2.1, cD.2.2.1, cD.2.2.2))) ∧ ST W H st cA (upd cD.1 k (nI v), cD.2.1, cD.2.2.1, cD.2.2.2) su := by
  have g36 := dim36 hS.1
  obtain ⟨hD, hR, hA, hB, uA, uD, hT⟩ := hS
  refine ⟨?_, hD, hR, hA, hB, uA, uD.upd k hv, hT⟩
  rw [mX4_setSum, cell_c hD N hk]
  dsimp only [Option.bind_some, Sum.elim_inr]
  rw [if_neg (nI_pos (by omega)), if_pos (show nI v ≤ (45 : Int32) from nI_le (a := v) (b := 45) (by omega) (by omega)), mX3_forget, Option.bind_some, if_neg ne10, mX0_tellSum, rd_n (by omega), wr_n (by omega)]
  rfl
theorem a_put (hS : ST W H st cA cD su) {k v : Nat} (hk : k < W * H) (hv : v ≤ 9) : mX4_put N fr st (nI W) (nI H) (nI k) (nI v) = some (if st k = -1 then .inl 3 else .inr (st k, 0, upd st k (nI v))) ∧ (st k ≠ -1 → ST W H (upd st k (nI v)) cA cD su) := by
  have g36 := dim36 hS.1
  refine ⟨?_, fun c => hS.upd c hv⟩
  rw [mX4_put, cell_c hS.1 N hk]
  dsimp only [Option.bind_some, Sum.elim_inr]
  rw [if_neg (nI_pos (by omega)), if_pos (show nI v ≤ (9 : Int32) from nI_le (a := v) (b := 9) (by omega) (by omega)), open_n (by omega)]
  by_cases c : st k = -1
  · rw [if_pos c, if_pos c]; rfl
  · rw [if_neg c, if_neg c]
    dsimp only [Option.bind_some, Sum.elim_inr]
    rw [mX1_stoneAt, rd_n (by omega), mX3_forget, mX1_lay, wr_n (by omega)]
    rfl
end AK
