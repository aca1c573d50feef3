/-! laid by wip/whole/steps.py: one turn of each mirror's loop -/
theorem s_mX4_totalOf_4 (N : Nat) (p1 : Int32) (n : Nat) (v1 : Int32) (v2 : Int32) : mX4_totalOf_4 N p1 (n + 1) v1 v2 = (if (9 : Int32) < v2 then
  some v1
  else
  ((mX4_hasNumber N p1 v2).bind fun x12 =>
  (if x12 = 0 then
  (mX4_totalOf_4 N p1 n v1 (v2 + 1))
  else
  (mX4_totalOf_4 N p1 n (v1 + v2) (v2 + 1))))) := rfl
theorem s_mX4_smallestOf_2 (N : Nat) (p1 : Int32) (n : Nat) (v1 : Int32) : mX4_smallestOf_2 N p1 (n + 1) v1 = (if (9 : Int32) < v1 then
  some (0 : Int32)
  else
  ((mX4_hasNumber N p1 v1).bind fun x10 =>
  (if x10 = 0 then
  (mX4_smallestOf_2 N p1 n (v1 + 1))
  else
  some v1))) := rfl
theorem s_mX2_addHighest_9 (N : Nat) (p1 : Int32) (p2 : Int32) (n : Nat) (v3 : Int32) (v4 : Int32) (su' : RowJ) : mX2_addHighest_9 N p1 p2 (n + 1) v3 v4 su' = (if (7 : Int32) ≤ v4 then
  some su'
  else
  ((mX2_sumsOf N su' p1 v4).bind fun x20 =>
  (if v4 = 0 then
  (mX2_addHighest_45 N p1 p2 (mX2_addHighest_9 N p1 p2 n) v3 v4 x20 (0 : Int64) su')
  else
  ((mX2_sumsOf N su' p1 (v4 - (1 : Int32))).bind fun x40 =>
  (mX2_addHighest_45 N p1 p2 (mX2_addHighest_9 N p1 p2 n) v3 v4 x20 (x40 <<< (p2.toInt64 &&& 63)) su'))))) := rfl
theorem s_mX0_look_26 (N : Nat) (st : RowI) (cA : CS) (p1 : Int32) (n : Nat) (v2 : Int32) (v3 : Int32) (jA' : JT) : mX0_look_26 N st cA p1 (n + 1) v2 v3 jA' = (if v2 ≤ v3 then
  some jA'
  else
  (if (rd st (p1 + (v3 * cA.2.2.2))) ≤ 0 then
  (mX0_look_26 N st cA p1 n v2 (v3 + 1) jA')
  else
  (mX0_look_26 N st cA p1 n v2 (v3 + 1) ((jA'.1 ||| ((1 : Int32) <<< ((rd st (p1 + (v3 * cA.2.2.2))) &&& 31))), (jA'.2.1 + (1 : Int32)), (jA'.2.2 + (rd st (p1 + (v3 * cA.2.2.2)))))))) := rfl
theorem s_mX0_clear_7 (N : Nat) (n : Nat) (v2 : Int32) (cA' : CS) : mX0_clear_7 N (n + 1) v2 cA' = (if (36 : Int32) ≤ v2 then
  some cA'
  else
  (mX0_clear_7 N n (v2 + 1) ((wr cA'.1 v2 (0 : Int32)), cA'.2.1, cA'.2.2.1, cA'.2.2.2))) := rfl
theorem s_mX0_numbersFor_90 (N : Nat) (su : RowJ) (n : Nat) (v3 : Int32) (v5 : Int32) (v6 : Int32) (v7 : Int32) (v8 : Int32) : mX0_numbersFor_90 N su (n + 1) v3 v5 v6 v7 v8 = (if (9 : Int32) < v8 then
  some v7
  else
  (if (v3 &&& ((1 : Int32) <<< (v8 &&& 31))) = 0 then
  (mX0_numbersFor_90 N su n v3 v5 v6 v7 (v8 + 1))
  else
  ((mX2_make N su (v3 &&& (((1 : Int32) <<< (v8 &&& 31)) ^^^ (-1 : Int32))) v5 (v6 - v8)).bind fun x127 =>
  (if x127 = 0 then
  (mX0_numbersFor_90 N su n v3 v5 v6 v7 (v8 + 1))
  else
  (mX0_numbersFor_90 N su n v3 v5 v6 (v7 ||| ((1 : Int32) <<< (v8 &&& 31))) (v8 + 1)))))) := rfl
theorem s_mX1_joinCells_12 (N : Nat) (st : RowI) (co : Int32) (ro : Int32) (K2 : Int32 → CS → CS → Option (CS × CS)) (n : Nat) (v1 : Int32) (v2 : Int32) (cA' : CS) (cD' : CS) : mX1_joinCells_12 N st co ro K2 (n + 1) v1 v2 cA' cD' = (if co ≤ v2 then
  (K2 (v1 + 1) cA' cD')
  else
  (if v2 = 0 then
  (mX1_joinCells_45 N st co ro K2 (mX1_joinCells_12 N st co ro K2 n) v1 v2 ((v1 * co) + v2) (-1 : Int32) ((v1 * co) + v2) cA' cD')
  else
  (mX1_joinCells_45 N st co ro K2 (mX1_joinCells_12 N st co ro K2 n) v1 v2 ((v1 * co) + v2) (((v1 * co) + v2) - (1 : Int32)) ((v1 * co) + v2) cA' cD'))) := rfl
theorem s_mX1_joinCells_2 (N : Nat) (st : RowI) (co : Int32) (ro : Int32) (n : Nat) (v1 : Int32) (cA' : CS) (cD' : CS) : mX1_joinCells_2 N st co ro (n + 1) v1 cA' cD' = (if ro ≤ v1 then
  some (cA', cD')
  else
  (mX1_joinCells_12 N st co ro (mX1_joinCells_2 N st co ro n) N v1 (0 : Int32) cA' cD')) := rfl
theorem s_mX1_clear_12 (N : Nat) (cA : CS) (cD : CS) (p1 : Int32) (n : Nat) (v3 : Int32) (st' : RowI) (co' : Int32) (ro' : Int32) : mX1_clear_12 N cA cD p1 (n + 1) v3 st' co' ro' = (if (36 : Int32) ≤ v3 then
  ((mX0_clear N cA (1 : Int32)).bind fun x38 =>
  ((mX0_clear N cD p1).bind fun x46 =>
  ((mX1_joinCells N st' co' ro' x38 x46).bind fun x50 =>
  some (st', co', ro', x50.1, x50.2))))
  else
  (mX1_clear_12 N cA cD p1 n (v3 + 1) (wr st' v3 (0 : Int32)) co' ro')) := rfl
theorem s_mX1_corridorsOf_4 (N : Nat) (co : Int32) (ro : Int32) (cA : CS) (n : Nat) (v2 : Int32) (v3 : Int32) : mX1_corridorsOf_4 N co ro cA (n + 1) v2 v3 = ((mX1_cells N co ro).bind fun x6 =>
  (if x6 ≤ v3 then
  some v2
  else
  ((mX0_beginsAt N cA v3).bind fun x14 =>
  (if x14 = 0 then
  (mX1_corridorsOf_4 N co ro cA n v2 (v3 + 1))
  else
  (mX1_corridorsOf_4 N co ro cA n (v2 + 1) (v3 + 1)))))) := rfl
theorem s_mX1_wellOf_4 (N : Nat) (st : RowI) (co : Int32) (ro : Int32) (cA : CS) (su : RowJ) (n : Nat) (v2 : Int32) (v3 : Int32) : mX1_wellOf_4 N st co ro cA su (n + 1) v2 v3 = ((mX1_cells N co ro).bind fun x6 =>
  (if x6 ≤ v3 then
  some v2
  else
  ((mX0_beginsAt N cA v3).bind fun x14 =>
  (if x14 = 0 then
  (mX1_wellOf_4 N st co ro cA su n v2 (v3 + 1))
  else
  ((mX0_isWellFrom N st cA su v3).bind fun x22 =>
  (if x22 = 0 then
  (mX1_wellOf_4 N st co ro cA su n v2 (v3 + 1))
  else
  (mX1_wellOf_4 N st co ro cA su n (v2 + 1) (v3 + 1)))))))) := rfl
theorem s_mX1_summedOf_4 (N : Nat) (co : Int32) (ro : Int32) (cA : CS) (n : Nat) (v2 : Int32) (v3 : Int32) : mX1_summedOf_4 N co ro cA (n + 1) v2 v3 = ((mX1_cells N co ro).bind fun x6 =>
  (if x6 ≤ v3 then
  some v2
  else
  ((mX0_beginsAt N cA v3).bind fun x14 =>
  (if x14 = 0 then
  (mX1_summedOf_4 N co ro cA n v2 (v3 + 1))
  else
  ((mX0_toldAt N cA v3).bind fun x22 =>
  (if x22 ≤ 0 then
  (mX1_summedOf_4 N co ro cA n v2 (v3 + 1))
  else
  (mX1_summedOf_4 N co ro cA n (v2 + 1) (v3 + 1)))))))) := rfl
theorem s_mX1_firstSingle_2 (N : Nat) (st : RowI) (co : Int32) (ro : Int32) (cA : CS) (cD : CS) (su : RowJ) (n : Nat) (v1 : Int32) : mX1_firstSingle_2 N st co ro cA cD su (n + 1) v1 = ((mX1_cells N co ro).bind fun x4 =>
  (if x4 ≤ v1 then
  some (-1 : Int32)
  else
  ((mX1_numbersFor N st cA cD su v1).bind fun x12 =>
  (if (bc x12) = (1 : Int32) then
  some v1
  else
  (mX1_firstSingle_2 N st co ro cA cD su n (v1 + 1)))))) := rfl
theorem s_mX1_tightest_7 (N : Nat) (st : RowI) (co : Int32) (ro : Int32) (cA : CS) (cD : CS) (su : RowJ) (n : Nat) (v1 : Int32) (v2 : Int32) (v3 : Int32) : mX1_tightest_7 N st co ro cA cD su (n + 1) v1 v2 v3 = ((mX1_cells N co ro).bind fun x9 =>
  (if x9 ≤ v3 then
  some v1
  else
  ((mX1_numbersFor N st cA cD su v3).bind fun x17 =>
  ((mX1_isHole N st v3).bind fun x27 =>
  (if x27 = 0 then
  (mX1_tightest_7 N st co ro cA cD su n v1 v2 (v3 + 1))
  else
  (if v2 ≤ (bc x17) then
  (mX1_tightest_7 N st co ro cA cD su n v1 v2 (v3 + 1))
  else
  (mX1_tightest_7 N st co ro cA cD su n v3 (bc x17) (v3 + 1)))))))) := rfl
theorem s_mX1_openCells_4 (N : Nat) (st : RowI) (co : Int32) (ro : Int32) (n : Nat) (v1 : Int32) (v2 : Int32) : mX1_openCells_4 N st co ro (n + 1) v1 v2 = ((mX1_cells N co ro).bind fun x6 =>
  (if x6 ≤ v2 then
  some v1
  else
  ((mX1_isPillar N st v2).bind fun x14 =>
  (if x14 = 0 then
  (mX1_openCells_4 N st co ro n (v1 + 1) (v2 + 1))
  else
  (mX1_openCells_4 N st co ro n v1 (v2 + 1)))))) := rfl
theorem s_mX1_stonesLaid_4 (N : Nat) (st : RowI) (co : Int32) (ro : Int32) (n : Nat) (v1 : Int32) (v2 : Int32) : mX1_stonesLaid_4 N st co ro (n + 1) v1 v2 = ((mX1_cells N co ro).bind fun x6 =>
  (if x6 ≤ v2 then
  some v1
  else
  (if (rd st v2) ≤ 0 then
  (mX1_stonesLaid_4 N st co ro n v1 (v2 + 1))
  else
  (mX1_stonesLaid_4 N st co ro n (v1 + 1) (v2 + 1))))) := rfl
theorem s_mX1_holesWithChoices_4 (N : Nat) (st : RowI) (co : Int32) (ro : Int32) (cA : CS) (cD : CS) (su : RowJ) (p1 : Int32) (n : Nat) (v2 : Int32) (v3 : Int32) : mX1_holesWithChoices_4 N st co ro cA cD su p1 (n + 1) v2 v3 = ((mX1_cells N co ro).bind fun x6 =>
  (if x6 ≤ v3 then
  some v2
  else
  ((mX1_isHole N st v3).bind fun x14 =>
  (if x14 = 0 then
  (mX1_holesWithChoices_4 N st co ro cA cD su p1 n v2 (v3 + 1))
  else
  ((mX1_numbersFor N st cA cD su v3).bind fun x22 =>
  (if (bc x22) = p1 then
  (mX1_holesWithChoices_4 N st co ro cA cD su p1 n (v2 + 1) (v3 + 1))
  else
  (mX1_holesWithChoices_4 N st co ro cA cD su p1 n v2 (v3 + 1)))))))) := rfl
theorem s_mX3_keepFilling_9 (N : Nat) (fo : Int32) (st : RowI) (n : Nat) (v1 : Int32) (ke' : RowI) : mX3_keepFilling_9 N fo st (n + 1) v1 ke' = (if (36 : Int32) ≤ v1 then
  some (ke', (fo + (1 : Int32)))
  else
  ((mX1_stoneAt N st v1).bind fun x25 =>
  (mX3_keepFilling_9 N fo st n (v1 + 1) (wr ke' v1 x25)))) := rfl
theorem s_mX3_collectHoles_2 (N : Nat) (st : RowI) (co : Int32) (ro : Int32) (n : Nat) (v1 : Int32) (ho' : RowI) (hc' : Int32) : mX3_collectHoles_2 N st co ro (n + 1) v1 ho' hc' = ((mX1_cells N co ro).bind fun x7 =>
  (if x7 ≤ v1 then
  some (ho', hc')
  else
  ((mX1_isHole N st v1).bind fun x18 =>
  (if x18 = 0 then
  (mX3_collectHoles_2 N st co ro n (v1 + 1) ho' hc')
  else
  (mX3_collectHoles_2 N st co ro n (v1 + 1) (wr ho' hc' v1) (hc' + (1 : Int32))))))) := rfl
theorem s_mX3_fillFrom_43 (N : Nat) (R : RowI → RowI → Int32 → Int32 → Int32 → RowI → CS → CS → RowJ → Int32 → Option (RowI × Int32 × Int32 × RowI)) (ho : RowI) (hc : Int32) (cA : CS) (cD : CS) (su : RowJ) (p2 : Int32) (n : Nat) (v3 : Int32) (v4 : Int32) (v5 : Int32) (ke' : RowI) (tr' : Int32) (fo' : Int32) (st' : RowI) : mX3_fillFrom_43 N R ho hc cA cD su p2 (n + 1) v3 v4 v5 ke' tr' fo' st' = (if (9 : Int32) < v5 then
  (mX3_fillFrom_104 N R v3 ke' tr' fo' st')
  else
  ((mX3_isOver N tr' fo').bind fun x51 =>
  (if x51 = 0 then
  ((mX3_isUnknown N (tr' + (1 : Int32))).bind fun x68 =>
  (if x68 = 0 then
  ((mX4_hasNumber N v4 v5).bind fun x78 =>
  (if x78 = 0 then
  (mX3_fillFrom_43 N R ho hc cA cD su p2 n v3 v4 (v5 + 1) ke' (tr' + (1 : Int32)) fo' st')
  else
  ((mX1_lay N st' v3 v5).bind fun x88 =>
  ((R ho ke' hc (tr' + (1 : Int32)) fo' x88 cA cD su (p2 + (1 : Int32))).bind fun x95 =>
  (mX3_fillFrom_43 N R ho hc cA cD su p2 n v3 v4 (v5 + 1) x95.1 x95.2.1 x95.2.2.1 x95.2.2.2)))))
  else
  (mX3_fillFrom_43 N R ho hc cA cD su p2 n v3 v4 (v5 + 1) ke' (tr' + (1 : Int32)) fo' st')))
  else
  (mX3_fillFrom_104 N R v3 ke' tr' fo' st')))) := rfl
theorem s_mX3_fillFrom (N : Nat) (d : Nat) (ho : RowI) (ke : RowI) (hc : Int32) (tr : Int32) (fo : Int32) (st : RowI) (cA : CS) (cD : CS) (su : RowJ) (p2 : Int32) : mX3_fillFrom N (d + 1) ho ke hc tr fo st cA cD su p2 = (if hc ≤ p2 then
  (mX3_fillFrom_14 N (mX3_fillFrom N d) ke tr fo st)
  else
  (if p2 < (36 : Int32) then
  ((mX1_numbersFor N st cA cD su (rd ho p2)).bind fun x35 =>
  (mX3_fillFrom_43 N (mX3_fillFrom N d) ho hc cA cD su p2 N (rd ho p2) x35 (1 : Int32) ke tr fo st))
  else
  (mX3_fillFrom_14 N (mX3_fillFrom N d) ke tr fo st))) := rfl
theorem s_mX4_stirCorridor_6 (N : Nat) (st : RowI) (cA : CS) (su : RowJ) (p3 : Int32) (n : Nat) (v4 : Int64) (v6 : Int32) : mX4_stirCorridor_6 N st cA su p3 (n + 1) v4 v6 = (if (6 : Int32) ≤ v6 then
  some v4
  else
  ((mX0_tell N st cA su p3 v6).bind fun x19 =>
  ((mX4_stir N v4 x19).bind fun x22 =>
  (mX4_stirCorridor_6 N st cA su p3 n x22 (v6 + 1))))) := rfl
theorem s_mX4_digest_33 (N : Nat) (ho : RowI) (ke : RowI) (hc : Int32) (tr : Int32) (fo : Int32) (fr : Int32) (st : RowI) (co : Int32) (ro : Int32) (cA : CS) (cD : CS) (su : RowJ) (n : Nat) (v1 : Int64) (v3 : Int32) : mX4_digest_33 N ho ke hc tr fo fr st co ro cA cD su (n + 1) v1 v3 = ((mX1_cells N co ro).bind fun x38 =>
  (if x38 ≤ v3 then
  ((mX3_refresh N ho ke hc tr fo fr st co ro cA cD su).bind fun x61 =>
  ((mX3_told N x61.2.2.2.1 x61.2.2.2.2.1).bind fun x69 =>
  ((mX4_stir N v1 x69).bind fun x72 =>
  ((mX3_tried N x61.2.2.2.1).bind fun x81 =>
  ((mX4_stir N x72 x81).bind fun x84 =>
  some (x84, x61.1, x61.2.1, x61.2.2.1, x61.2.2.2.1, x61.2.2.2.2.1, x61.2.2.2.2.2.1, x61.2.2.2.2.2.2))))))
  else
  ((mX4_stirCell N st cA cD su v1 v3).bind fun x47 =>
  (mX4_digest_33 N ho ke hc tr fo fr st co ro cA cD su n x47 (v3 + 1))))) := rfl
theorem s_mX4_digest_6 (N : Nat) (ho : RowI) (ke : RowI) (hc : Int32) (tr : Int32) (fo : Int32) (fr : Int32) (st : RowI) (co : Int32) (ro : Int32) (cA : CS) (cD : CS) (su : RowJ) (n : Nat) (v1 : Int64) (v3 : Int32) : mX4_digest_6 N ho ke hc tr fo fr st co ro cA cD su (n + 1) v1 v3 = (if (9 : Int32) ≤ v3 then
  (mX4_digest_33 N ho ke hc tr fo fr st co ro cA cD su N v1 (0 : Int32))
  else
  ((mX1_tally N st co ro cA cD su v3).bind fun x18 =>
  ((mX4_stir N v1 x18).bind fun x21 =>
  (mX4_digest_6 N ho ke hc tr fo fr st co ro cA cD su n x21 (v3 + 1))))) := rfl
theorem s_mX4_force_9 (N : Nat) (co : Int32) (ro : Int32) (cA : CS) (cD : CS) (su : RowJ) (n : Nat) (v1 : Int32) (fr' : Int32) (st' : RowI) : mX4_force_9 N co ro cA cD su (n + 1) v1 fr' st' = (if (36 : Int32) ≤ v1 then
  some ((36 : Int32), fr', st')
  else
  ((mX1_firstSingle N st' co ro cA cD su).bind fun x19 =>
  (if x19 = (-1 : Int32) then
  some (v1, fr', st')
  else
  ((mX1_numbersFor N st' cA cD su x19).bind fun x40 =>
  ((mX4_smallestOf N x40).bind fun x43 =>
  ((mX1_lay N st' x19 x43).bind fun x46 =>
  (mX4_force_9 N co ro cA cD su n (v1 + 1) fr' x46))))))) := rfl
theorem s_mX4_ways_10 (N : Nat) (p1 : Int32) (p2 : Int32) (n : Nat) (v3 : Int32) (v4 : Int32) : mX4_ways_10 N p1 p2 (n + 1) v3 v4 = (if (1022 : Int32) < v4 then
  some (.inr v3)
  else
  ((mX4_isPartition N v4 p1 p2).bind fun x22 =>
  (if x22 = 0 then
  (mX4_ways_10 N p1 p2 n v3 (v4 + 2))
  else
  (mX4_ways_10 N p1 p2 n (v3 + 1) (v4 + 2))))) := rfl
theorem s_mX4_forced_15 (N : Nat) (p1 : Int32) (p2 : Int32) (n : Nat) (v3 : Int32) (v4 : Int32) (v5 : Int32) : mX4_forced_15 N p1 p2 (n + 1) v3 v4 v5 = (if (1022 : Int32) < v5 then
  (if v3 = 0 then
  some (.inr (0 : Int32))
  else
  some (.inr v4))
  else
  ((mX4_isPartition N v5 p1 p2).bind fun x27 =>
  (if x27 = 0 then
  (mX4_forced_15 N p1 p2 n v3 v4 (v5 + 2))
  else
  (mX4_forced_15 N p1 p2 n (v3 + 1) (v4 &&& v5) (v5 + 2))))) := rfl
theorem s_mX1_meanOfNumbers_6 (N : Nat) (st : RowI) (co : Int32) (ro : Int32) (cA : CS) (cD : CS) (su : RowJ) (n : Nat) (v1 : Int32) (v2 : Int32) (v3 : Int32) : mX1_meanOfNumbers_6 N st co ro cA cD su (n + 1) v1 v2 v3 = ((mX1_cells N co ro).bind fun x8 =>
  (if x8 ≤ v3 then
  (if v1 = 0 then
  some FP.dconst0
  else
  some (FP.ddiv (FP.i2d v2) (FP.i2d v1)))
  else
  ((mX1_isHole N st v3).bind fun x16 =>
  (if x16 = 0 then
  (mX1_meanOfNumbers_6 N st co ro cA cD su n v1 v2 (v3 + 1))
  else
  ((mX1_numbersFor N st cA cD su v3).bind fun x28 =>
  (mX1_meanOfNumbers_6 N st co ro cA cD su n (v1 + 1) (v2 + (bc x28)) (v3 + 1))))))) := rfl
theorem s_mX2_init_30 (N : Nat) (K22 : Int32 → RowJ → Option RowJ) (n : Nat) (v1 : Int32) (v2 : Int32) (su' : RowJ) : mX2_init_30 N K22 (n + 1) v1 v2 su' = (if ((1 : Int32) <<< (v1 &&& 31)) ≤ v2 then
  (K22 (v1 + 1) su')
  else
  ((mX2_addHighest N su' v2 v1).bind fun x40 =>
  (mX2_init_30 N K22 n v1 (v2 + 2) x40))) := rfl
theorem s_mX2_init_22 (N : Nat) (n : Nat) (v1 : Int32) (su' : RowJ) : mX2_init_22 N (n + 1) v1 su' = (if (9 : Int32) < v1 then
  some su'
  else
  (mX2_init_30 N (mX2_init_22 N n) N v1 (0 : Int32) su')) := rfl
