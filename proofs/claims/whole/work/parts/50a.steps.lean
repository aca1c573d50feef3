/-! laid by wip/whole/steps.py: one turn of each mirror's loop -/
theorem s_mX4_totalOf_4 (N : Nat) (p1 : Int32) (n : Nat) (v1 : Int32) (v2 : Int32) : mX4_totalOf_4 N p1 (n + 1) v1 v2 = (if (9 : Int32) < v2 then
  some v1
  else
  ((mX4_hasNumber N p1 v2).bind fun x12 =>
  (if x12 = 0 then
  (mX4_totalOf_4 N p1 n v1 (v2 + 1))
  else
  (mX4_totalOf_4 N p1 n (v1 + v2) (v2 + 1))))) := rfl
theorem s_mX4_smallestOf_2 (N : Nat) (p1 : Int32) (n : Nat) (v1 : Int32) : mX4_smallestOf_2 N p1 (n + 1) v1 = (if (9 : Int32) < v1 then
  some (0 : Int32)
  else
  ((mX4_hasNumber N p1 v1).bind fun x10 =>
  (if x10 = 0 then
  (mX4_smallestOf_2 N p1 n (v1 + 1))
  else
  some v1))) := rfl
theorem s_mX2_addHighest_9 (N : Nat) (p1 : Int32) (p2 : Int32) (n : Nat) (v3 : Int32) (v4 : Int32) (su' : RowJ) : mX2_addHighest_9 N p1 p2 (n + 1) v3 v4 su' = (if (7 : Int32) ≤ v4 then
  some su'
  else
  ((mX2_sumsOf N su' p1 v4).bind fun x20 =>
  (if v4 = 0 then
  (mX2_addHighest_45 N p1 p2 (mX2_addHighest_9 N p1 p2 n) v3 v4 x20 (0 : Int64) su')
  else
  ((mX2_sumsOf N su' p1 (v4 - (1 : Int32))).bind fun x40 =>
  (mX2_addHighest_45 N p1 p2 (mX2_addHighest_9 N p1 p2 n) v3 v4 x20 (x40 <<< (p2.toInt64 &&& 63)) su'))))) := rfl
theorem s_mX0_look_26 (N : Nat) (st : RowI) (cA : CS) (p1 : Int32) (n : Nat) (v2 : Int32) (v3 : Int32) (jA' : JT) : mX0_look_26 N st cA p1 (n + 1) v2 v3 jA' = (if v2 ≤ v3 then
  some jA'
  else
  (if (rd st (p1 + (v3 * cA.2.2.2))) ≤ 0 then
  (mX0_look_26 N st cA p1 n v2 (v3 + 1) jA')
  else
  (mX0_look_26 N st cA p1 n v2 (v3 + 1) ((jA'.1 ||| ((1 : Int32) <<< ((rd st (p1 + (v3 * cA.2.2.2))) &&& 31))), (jA'.2.1 + (1 : Int32)), (jA'.2.2 + (rd st (p1 + (v3 * cA.2.2.2)))))))) := rfl
theorem s_mX0_clear_7 (N : Nat) (n : Nat) (v2 : Int32) (cA' : CS) : mX0_clear_7 N (n + 1) v2 cA' = (if (36 : Int32) ≤ v2 then
  some cA'
  else
  (mX0_clear_7 N n (v2 + 1) ((wr cA'.1 v2 (0 : Int32)), cA'.2.1, cA'.2.2.1, cA'.2.2.2))) := rfl
theorem s_mX0_numbersFor_90 (N : Nat) (su : RowJ) (n : Nat) (v3 : Int32) (v5 : Int32) (v6 : Int32) (v7 : Int32) (v8 : Int32) : mX0_numbersFor_90 N su (n + 1) v3 v5 v6 v7 v8 = (if (9 : Int32) < v8 then
  some v7
  else
  (if (v3 &&& ((1 : Int32) <<< (v8 &&& 31))) = 0 then
  (mX0_numbersFor_90 N su n v3 v5 v6 v7 (v8 + 1))
  else
  ((mX2_make N su (v3 &&& (((1 : Int32) <<< (v8 &&& 31)) ^^^ (-1 : Int32))) v5 (v6 - v8)).bind fun x127 =>
  (if x127 = 0 then
  (mX0_numbersFor_90 N su n v3 v5 v6 v7 (v8 + 1))
  else
  (mX0_numbersFor_90 N su n v3 v5 v6 (v7 ||| ((1 : Int32) <<< (v8 &&& 31))) (v8 + 1)))))) := rfl
theorem s_mX1_joinCells_12 (N : Nat) (st : RowI) (co : Int32) (ro : Int32) (K2 : Int32 → CS → CS → Option (CS × CS)) (n : Nat) (v1 : Int32) (v2 : Int32) (cA' : CS) (cD' : CS) : mX1_joinCells_12 N st co ro K2 (n + 1) v1 v2 cA' cD' = (if co ≤ v2 then
  (K2 (v1 + 1) cA' cD')
  else
  (if v2 = 0 then
  (mX1_joinCells_45 N st co ro K2 (mX1_joinCells_12 N st co ro K2 n) v1 v2 ((v1 * co) + v2) (-1 : Int32) ((v1 * co) + v2) cA' cD')
  else
  (mX1_joinCells_45 N st co ro K2 (mX1_joinCells_12 N st co ro K2 n) v1 v2 ((v1 * co) + v2) (((v1 * co) + v2) - (1 : Int32)) ((v1 * co) + v2) cA' cD'))) := rfl
theorem s_mX1_joinCells_2 (N : Nat) (st : RowI) (co : Int32) (ro : Int32) (n : Nat) (v1 : Int32) (cA' : CS) (cD' : CS) : mX1_joinCells_2 N st co ro (n + 1) v1 cA' cD' = (if ro ≤ v1 then
  some (cA', cD')
  else
  (mX1_joinCells_12 N st co ro (mX1_joinCells_2 N st co ro n) N v1 (0 : Int32) cA' cD')) := rfl
theorem s_mX1_clear_12 (N : Nat) (cA : CS) (cD : CS) (p1 : Int32) (n : Nat) (v3 : Int32) (st' : RowI) (co' : Int32) (ro' : Int32) : mX1_clear_12 N cA cD p1 (n + 1) v3 st' co' ro' = (if (36 : Int32) ≤ v3 then
  ((mX0_clear N cA (1 : Int32)).bind fun x38 =>
  ((mX0_clear N cD p1).bind fun x46 =>
  ((mX1_joinCells N st' co' ro' x38 x46).bind fun x50 =>
  some (st', co', ro', x50.1, x50.2))))
  else
  (mX1_clear_12 N cA cD p1 n (v3 + 1) (wr st' v3 (0 : Int32)) co' ro')) := rfl
theorem s_mX1_corridorsOf_4 (N : Nat) (co : Int32) (ro : Int32) (cA : CS) (n : Nat) (v2 : Int32) (v3 : Int32) : mX1_corridorsOf_4 N co ro cA (n + 1) v2 v3 = ((mX1_cells N co ro).bind fun x6 =>
  (if x6 ≤ v3 then
  some v2
  else
  ((mX0_beginsAt N cA v3).bind fun x14 =>
  (if x14 = 0 then
  (mX1_corridorsOf_4 N co ro cA n v2 (v3 + 1))
  else
  (mX1_corridorsOf_4 N co ro cA n (v2 + 1) (v3 + 1)))))) := rfl
theorem s_mX1_wellOf_4 (N : Nat) (st : RowI) (co : Int32) (ro : Int32) (cA : CS) (su : RowJ) (n : Nat) (v2 : Int32) (v3 : Int32) : mX1_wellOf_4 N st co ro cA su (n + 1) v2 v3 = ((mX1_cells N co ro).bind fun x6 =>
  (if x6 ≤ v3 then
  some v2
  else
  ((mX0_beginsAt N cA v3).bind fun x14 =>
  (if x14 = 0 then
  (mX1_wellOf_4 N st co ro cA su n v2 (v3 + 1))
  else
  ((mX0_isWellFrom N st cA su v3).bind fun x22 =>
  (if x22 = 0 then
  (mX1_wellOf_4 N st co ro cA su n v2 (v3 + 1))
  else
  (mX1_wellOf_4 N st co ro cA su n (v2 + 1) (v3 + 1)))))))) := rfl
theorem s_mX1_summedOf_4 (N : Nat) (co : Int32) (ro : Int32) (cA : CS) (n : Nat) (v2 : Int32) (v3 : Int32) : mX1_summedOf_4 N co ro cA (n + 1) v2 v3 = ((mX1_cells N co ro).bind fun x6 =>
  (if x6 ≤ v3 then
  some v2
  else
  ((mX0_beginsAt N cA v3).bind fun x14 =>
  (if x14 = 0 then
  (mX1_summedOf_4 N co ro cA n v2 (v3 + 1))
  else
  ((mX0_toldAt N cA v3).bind fun x22 =>
  (if x22 ≤ 0 then
  (mX1_summedOf_4 N co ro cA n v2 (v3 + 1))
  else
  (mX1_summedOf_4 N co ro cA n (v2 + 1) (v3 + 1)))))))) := rfl
theorem s_mX1_firstSingle_2 (N : Nat) (st : RowI) (co : Int32) (ro : Int32) (cA : CS) (cD : CS) (su : RowJ) (n : Nat) (v1 : Int32) : mX1_firstSingle_2 N st co ro cA cD su (n + 1) v1 = ((mX1_cells N co ro).bind fun x4 =>
  (if x4 ≤ v1 then
  some (-1 : Int32)
  else
  ((mX1_numbersFor N st cA cD su v1).bind fun x12 =>
  (if (bc x12) = (1 : Int32) then
  some v1
  else
  (mX1_firstSingle_2 N st co ro cA cD su n (v1 + 1)))))) := rfl
theorem s_mX1_tightest_7 (N : Nat) (st : RowI) (co : Int32) (ro : Int32) (cA : CS) (cD : CS) (su : RowJ) (n : Nat) (v1 : Int32) (v2 : Int32) (v3 : Int32) : mX1_tightest_7 N st co ro cA cD su (n + 1) v1 v2 v3 = ((mX1_cells N co ro).bind fun x9 =>
  (if x9 ≤ v3 then
  some v1
  else
  ((mX1_numbersFor N st cA cD su v3).bind fun x17 =>
  ((mX1_isHole N st v3).bind fun x27 =>
  (if x27 = 0 then
  (mX1_tightest_7 N st co ro cA cD su n v1 v2 (v3 + 1))
  else
  (if v2 ≤ (bc x17) then
  (mX1_tightest_7 N st co ro cA cD su n v1 v2 (v3 + 1))
  else
  (mX1_tightest_7 N st co ro cA cD su n v3 (bc x17) (v3 + 1)))))))) := rfl
theorem s_mX1_openCells_4 (N : Nat) (st : RowI) (co : Int32) (ro : Int32) (n : Nat) (v1 : Int32) (v2 : Int32) : mX1_openCells_4 N st co ro (n + 1) v1 v2 = ((mX1_cells N co ro).bind fun x6 =>
  (if x6 ≤ v2 then
  some v1
  else
  ((mX1_isPillar N st v2).bind fun x14 =>
  (if x14 = 0 then
  (mX1_openCells_4 N st co ro n (v1 + 1) (v2 + 1))
  else
  (mX1_openCells_4 N st co ro n v1 (v2 + 1)))))) := rfl
theorem s_mX1_stonesLaid_4 (N : Nat) (st : RowI) (co : Int32) (ro : Int32) (n : Nat) (v1 : Int32) (v2 : Int32) : mX1_stonesLaid_4 N st co ro (n + 1) v1 v2 = ((mX1_cells N co ro).bind fun x6 =>
  (if x6 ≤ v2 then
  some v1
  else
  (if (rd st v2) ≤ 0 then
  (mX1_stonesLaid_4 N st co ro n v1 (v2 + 1))
  else
  (mX1_stonesLaid_4 N st co ro n (v1 + 1) (v2 + 1))))) := rfl
theorem s_mX1_holesWithChoices_4 (N : Nat) (st : RowI) (co : Int32) (ro : Int32) (cA : CS) (cD : CS) (su : RowJ) (p1 : Int32) (n : Nat) (v2 : Int32) (v3 : Int32) : mX1_holesWithChoices_4 N st co ro cA cD su p1 (n + 1) v2 v3 = ((mX1_cells N co ro).bind fun x6 =>
  (if x6 ≤ v3 then
  some v2
  else
  ((mX1_isHole N st v3).bind fun x14 =>
  (if x14 = 0 then
  (mX1_holesWithChoices_4 N st co ro cA cD su p1 n v2 (v3 + 1))
  else
  ((mX1_numbersFor N st cA cD su v3).bind fun x22 =>
  (if (bc x22) = p1 then
  (mX1_holesWithChoices_4 N st co ro cA cD su p1 n (v2 + 1) (v3 + 1))
  else
  (mX1_holesWithChoices_4 N st co ro cA cD su p1 n v2 (v3 + 1)))))))) := rfl
theorem s_mX3_keepFilling_9 (N : Nat) (fo : Int32) (st : RowI) (n : Nat) (v1 : Int32) (ke' : RowI) : mX3_keepFilling_9 N fo st (n + 1) v1 ke' = (if (36 : Int32) ≤ v1 then
  some (ke', (fo + (1 : Int32)))
  else
  ((mX1_stoneAt N st v1).bind fun x25 =>
  (mX3_keepFilling_9 N fo st n (v1 + 1) (wr ke' v1 x25)))) := rfl
theorem s_mX3_collectHoles_2 (N : Nat) (st : RowI) (co : Int32) (ro : Int32) (n : Nat) (v1 : Int32) (ho' : RowI) (hc' : Int32) : mX3_collectHoles_2 N st co ro (n + 1) v1 ho' hc' = ((mX1_cells N co ro).bind fun x7 =>
  (if x7 ≤ v1 then
  some (ho', hc')
  else
  ((mX1_isHole N st v1).bind fun x18 =>
  (if x18 = 0 then
  (mX3_collectHoles_2 N st co ro n (v1 + 1) ho' hc')
  else
  (mX3_collectHoles_2 N st co ro n (v1 + 1) (wr ho' hc' v1) (hc' + (1 : Int32))))))) := rfl
theorem s_mX3_fillFrom_43 (N : Nat) (R : RowI → RowI → Int32 → Int32 → Int32 → RowI → CS → CS → RowJ → Int32 → Option (RowI × Int32 × Int32 × RowI)) (ho : RowI) (hc : Int32) (cA : CS) (cD : CS) (su : RowJ) (p2 : Int32) (n : Nat) (v3 : Int32) (v4 : Int32) (v5 : Int32) (ke' : RowI) (tr' : Int32) (fo' : Int32) (st' : RowI) : mX3_fillFrom_43 N R ho hc cA cD su p2 (n + 1) v3 v4 v5 ke' tr' fo' st' = (if (9 : Int32) < v5 then
  (mX3_fillFrom_104 N R v3 ke' tr' fo' st')
  else
  ((mX3_isOver N tr' fo').bind fun x51 =>
  (if x51 = 0 then
  ((mX3_isUnknown N (tr' + (1 : Int32))).bind fun x68 =>
  (if x68 = 0 then
  ((mX4_hasNumber N v4 v5).bind fun x78 =>
  (if x78 = 0 then
  (mX3_fillFrom_43 N R ho hc cA cD su p2 n v3 v4 (v5 + 1) ke' (tr' + (1 : Int32)) fo' st')
  else
  ((mX1_lay N st' v3 v5).bind fun x88 =>
  ((R ho ke' hc (tr' + (1 : Int32)) fo' x88 cA cD su (p2 + (1 : Int32))).bind fun x95 =>
  (mX3_fillFrom_43 N R ho hc cA cD su p2 n v3 v4 (v5 + 1) x95.1 x95.2.1 x95.2.2.1 x95.2.2.2)))))
  else
  (mX3_fillFrom_43 N R ho hc cA cD su p2 n v3 v4 (v5 + 1) ke' (tr' + (1 : Int32)) fo' st')))
  else
  (mX3_fillFrom_104 N R v3 ke' tr' fo' st')))) := rfl
theorem s_mX3_fillFrom (N : Nat) (d : Nat) (ho : RowI) (ke : RowI) (hc : Int32) (tr : Int32) (fo : Int32) (st : RowI) (cA : CS) (cD : CS) (su : RowJ) (p2 : Int32) : mX3_fillFrom N (d + 1) ho ke hc tr fo st cA cD su p2 = (if hc ≤ p2 then
  (mX3_fillFrom_14 N (mX3_fillFrom N d) ke tr fo st)
  else
  (if p2 < (36 : Int32) then
  ((mX1_numbersFor N st cA cD su (rd ho p2)).bind fun x35 =>
  (mX3_fillFrom_43 N (mX3_fillFrom N d) ho hc cA cD su p2 N (rd ho p2) x35 (1 : Int32) ke tr fo st))
  else
  (mX3_fillFrom_14 N (mX3_fillFrom N d) ke tr fo st))) := rfl
theorem s_mX4_stirCorridor_6 (N : Nat) (st : RowI) (cA : CS) (su : RowJ) (p3 : Int32) (n : Nat) (v4 : Int64) (v6 : Int32) : mX4_stirCorridor_6 N st cA su p3 (n + 1) v4 v6 = (if (6 : Int32) ≤ v6 then
  some v4
  else
  ((mX0_tell N st cA su p3 v6).bind fun x19 =>
  ((mX4_stir N v4 x19).bind fun x22 =>
  (mX4_stirCorridor_6 N st cA su p3 n x22 (v6 + 1))))) := rfl
theorem s_mX4_digest_33 (N : Nat) (ho : RowI) (ke : RowI) (hc : Int32) (tr : Int32) (fo : Int32) (fr : Int32) (st : RowI) (co : Int32) (ro : Int32) (cA : CS) (cD : CS) (su : RowJ) (n : Nat) (v1 : Int64) (v3 : Int32) : mX4_digest_33 N ho ke hc tr fo fr st co ro cA cD su (n + 1) v1 v3 = ((mX1_cells N co ro).bind fun x38 =>
  (if x38 ≤ v3 then
  ((mX3_refresh N ho ke hc tr fo fr st co ro cA cD su).bind fun x61 =>
  ((mX3_told N x61.2.2.2.1 x61.2.2.2.2.1).bind fun x69 =>
  ((mX4_stir N v1 x69).bind fun x72 =>
  ((mX3_tried N x61.2.2.2.1).bind fun x81 =>
  ((mX4_stir N x72 x81).bind fun x84 =>
  some (x84, x61.1, x61.2.1, x61.2.2.1, x61.2.2.2.1, x61.2.2.2.2.1, x61.2.2.2.2.2.1, x61.2.2.2.2.2.2))))))
  else
  ((mX4_stirCell N st cA cD su v1 v3).bind fun x47 =>
  (mX4_digest_33 N ho ke hc tr fo fr st co ro cA cD su n x47 (v3 + 1))))) := rfl
theorem s_mX4_digest_6 (N : Nat) (ho : RowI) (ke : RowI) (hc : Int32) (tr : Int32) (fo : Int32) (fr : Int32) (st : RowI) (co : Int32) (ro : Int32) (cA : CS) (cD : CS) (su : RowJ) (n : Nat) (v1 : Int64) (v3 : Int32) : mX4_digest_6 N ho ke hc tr fo fr st co ro cA cD su (n + 1) v1 v3 = (if (9 : Int32) ≤ v3 then
  (mX4_digest_33 N ho ke hc tr fo fr st co ro cA cD su N v1 (0 : Int32))
  else
  ((mX1_tally N st co ro cA cD su v3).bind fun x18 =>
  ((mX4_stir N v1 x18).bind fun x21 =>
  (mX4_digest_6 N ho ke hc tr fo fr st co ro cA cD su n x21 (v3 + 1))))) := rfl
theorem s_mX4_force_9 (N : Nat) (co : Int32) (ro : Int32) (cA : CS) (cD : CS) (su : RowJ) (n : Nat) (v1 : Int32) (fr' : Int32) (st' : RowI) : mX4_force_9 N co ro cA cD su (n + 1) v1 fr' st' = (if (36 : Int32) ≤ v1 then
  some ((36 : Int32), fr', st')
  else
  ((mX1_firstSingle N st' co ro cA cD su).bind fun x19 =>
  (if x19 = (-1 : Int32) then
  some (v1, fr', st')
  else
  ((mX1_numbersFor N st' cA cD su x19).bind fun x40 =>
  ((mX4_smallestOf N x40).bind fun x43 =>
  ((mX1_lay N st' x19 x43).bind fun x46 =>
  (mX4_force_9 N co ro cA cD su n (v1 + 1) fr' x46))))))) := rfl
theorem s_mX4_ways_10 (N : Nat) (p1 : Int32) (p2 : Int32) (n : Nat) (v3 : Int32) (v4 : Int32) : mX4_ways_10 N p1 p2 (n + 1) v3 v4 = (if (1022 : Int32) < v4 then
  some (.inr v3)
  else
  ((mX4_isPartition N v4 p1 p2).bind fun x22 =>
  (if x22 = 0 then
  (mX4_ways_10 N p1 p2 n v3 (v4 + 2))
  else
  (mX4_ways_10 N p1 p2 n (v3 + 1) (v4 + 2))))) := rfl
theorem s_mX4_forced_15 (N : Nat) (p1 : Int32) (p2 : Int32) (n : Nat) (v3 : Int32) (v4 : Int32) (v5 : Int32) : mX4_forced_15 N p1 p2 (n + 1) v3 v4 v5 = (if (1022 : Int32) < v5 then
  (if v3 = 0 then
  some (.inr (0 : Int32))
  else
  some (.inr v4))
  else
  ((mX4_isPartition N v5 p1 p2).bind fun x27 =>
  (if x27 = 0 then
  (mX4_forced_15 N p1 p2 n v3 v4 (v5 + 2))
  else
  (mX4_forced_15 N p1 p2 n (v3 + 1) (v4 &&& v5) (v5 + 2))))) := rfl
theorem s_mX5_sumOf_4 (N : Nat) (p1 : Int32) (n : Nat) (v1 : Int32) (v2 : Int32) : mX5_sumOf_4 N p1 (n + 1) v1 v2 = (if (9 : Int32) < v2 then
  some v1
  else
  (mX5_sumOf_4 N p1 n (v1 + (((p1 >>> (v2 &&& 31)) &&& (1 : Int32)) * v2)) (v2 + 1))) := rfl
theorem s_mX5_link_9 (N : Nat) (w : Int32) (h : Int32) (ms : RowI) (K2 : Int32 → RowI → Option RowI) (n : Nat) (v1 : Int32) (v2 : Int32) (mb' : RowI) : mX5_link_9 N w h ms K2 (n + 1) v1 v2 mb' = (if (w * h) ≤ v2 then
  (K2 (v1 + 1) mb')
  else
  (if v1 = (1 : Int32) then
  (mX5_link_52 N w h ms K2 (mX5_link_9 N w h ms K2 n) v1 v2 (v2 - w) mb')
  else
  (if w = 0 then none else
  (if (v2 - v2 / w * w) = 0 then
  (mX5_link_52 N w h ms K2 (mX5_link_9 N w h ms K2 n) v1 v2 (-1 : Int32) mb')
  else
  (mX5_link_52 N w h ms K2 (mX5_link_9 N w h ms K2 n) v1 v2 (v2 - (1 : Int32)) mb'))))) := rfl
theorem s_mX5_link_2 (N : Nat) (w : Int32) (h : Int32) (ms : RowI) (n : Nat) (v1 : Int32) (mb' : RowI) : mX5_link_2 N w h ms (n + 1) v1 mb' = (if (1 : Int32) < v1 then
  some mb'
  else
  (mX5_link_9 N w h ms (mX5_link_2 N w h ms n) N v1 (0 : Int32) mb')) := rfl
theorem s_mX5_isMade_17 (N : Nat) (me : RowI) (mf : RowI) (p3 : Int32) (n : Nat) (v4 : Int32) (v5 : Int32) : mX5_isMade_17 N me mf p3 (n + 1) v4 v5 = (if bad (v4 + (1 : Int32)) 461 then none else
  (if (mf (v4 + (1 : Int32)).toNatClampNeg) ≤ v5 then
  some (0 : Int32)
  else
  (if bad v5 512 then none else
  (if ((me v5.toNatClampNeg) &&& p3) = 0 then
  some (1 : Int32)
  else
  (mX5_isMade_17 N me mf p3 n v4 (v5 + 1)))))) := rfl
theorem s_mX5_isWell_16 (N : Nat) (w : Int32) (h : Int32) (ms : RowI) (mu : RowI) (me : RowI) (mf : RowI) (p2 : Int32) (n : Nat) (v3 : Int32) (v4 : Int32) (v5 : Int32) (v6 : Int32) : mX5_isWell_16 N w h ms mu me mf p2 (n + 1) v3 v4 v5 v6 = ((mX5_isOpen N ms v6).bind fun x19 =>
  (if x19 = 0 then
  (if bad (((36 : Int32) * p2) + v3) 72 then none else
  ((mX5_sumOf N v4).bind fun x107 =>
  (if bad (((36 : Int32) * p2) + v3) 72 then none else
  (if (mu (((36 : Int32) * p2) + v3).toNatClampNeg) = 0 then
  some (1 : Int32)
  else
  (if ((mu (((36 : Int32) * p2) + v3).toNatClampNeg) - x107) < 0 then
  some (0 : Int32)
  else
  ((mX5_isMade N me mf v5 ((mu (((36 : Int32) * p2) + v3).toNatClampNeg) - x107) v4).bind fun x141 =>
  (if x141 = 0 then
  some (0 : Int32)
  else
  some (1 : Int32))))))))
  else
  (if bad v6 36 then none else
  (if (ms v6.toNatClampNeg) = 0 then
  (mX5_isWell_48 N w h ms mu me mf p2 (mX5_isWell_16 N w h ms mu me mf p2 n) v3 v4 v5 v6 (0 : Int32))
  else
  (if bad v6 36 then none else
  (mX5_isWell_48 N w h ms mu me mf p2 (mX5_isWell_16 N w h ms mu me mf p2 n) v3 v4 v5 v6 ((1 : Int32) <<< ((ms v6.toNatClampNeg) &&& 31)))))))) := rfl
theorem s_mX5_canOf_15 (N : Nat) (w : Int32) (h : Int32) (mu : RowI) (mb : RowI) (me : RowI) (mf : RowI) (p1 : Int32) (n : Nat) (v2 : Int32) (v3 : Int32) (ms' : RowI) : mX5_canOf_15 N w h mu mb me mf p1 (n + 1) v2 v3 ms' = (if (9 : Int32) < v3 then
  some (v2, ms')
  else
  ((mX5_stands N w h ms' mu mb me mf p1 v3).bind fun x24 =>
  (if x24.1 = 0 then
  (mX5_canOf_15 N w h mu mb me mf p1 n v2 (v3 + 1) x24.2)
  else
  (mX5_canOf_15 N w h mu mb me mf p1 n (v2 ||| ((1 : Int32) <<< (v3 &&& 31))) (v3 + 1) x24.2)))) := rfl
theorem s_mX5_isAllWell_2 (N : Nat) (w : Int32) (h : Int32) (ms : RowI) (mu : RowI) (mb : RowI) (me : RowI) (mf : RowI) (n : Nat) (v1 : Int32) : mX5_isAllWell_2 N w h ms mu mb me mf (n + 1) v1 = (if (w * h) ≤ v1 then
  some (1 : Int32)
  else
  (if bad v1 36 then none else
  (if (ms v1.toNatClampNeg) = (-1 : Int32) then
  (mX5_isAllWell_2 N w h ms mu mb me mf n (v1 + 1))
  else
  ((mX5_isWell N w h ms mu mb me mf v1 (0 : Int32)).bind fun x28 =>
  (if x28 = 0 then
  some (0 : Int32)
  else
  ((mX5_isWell N w h ms mu mb me mf v1 (1 : Int32)).bind fun x37 =>
  (if x37 = 0 then
  some (0 : Int32)
  else
  (mX5_isAllWell_2 N w h ms mu mb me mf n (v1 + 1))))))))) := rfl
theorem s_mX5_fill_78 (N : Nat) (R : Int32 → Int32 → RowI → RowI → RowI → RowI → RowI → Int32 → Int32 → Int32 → RowI → Int32 → Option (RowI × Int32 × Int32 × Int32 × RowI)) (w : Int32) (h : Int32) (mu : RowI) (mb : RowI) (me : RowI) (mf : RowI) (n : Nat) (v2 : Int32) (v3 : Int32) (ms' : RowI) (mt' : Int32) (mv' : Int32) (ml' : Int32) (mk' : RowI) : mX5_fill_78 N R w h mu mb me mf (n + 1) v2 v3 ms' mt' mv' ml' mk' = (if (9 : Int32) < v3 then
  some (ms', mt', mv', ml', mk')
  else
  ((mX5_isOver N mv' ml').bind fun x85 =>
  (if x85 = 0 then
  (if (mt' + (1 : Int32)) ≤ (4000 : Int32) then
  (if (0 : Int32) = 0 then
  ((mX5_stands N w h ms' mu mb me mf v2 v3).bind fun x130 =>
  (if x130.1 = 0 then
  (mX5_fill_78 N R w h mu mb me mf n v2 (v3 + 1) x130.2 (mt' + (1 : Int32)) mv' (0 : Int32) mk')
  else
  (if bad v2 36 then none else
  ((R w h (upd x130.2 v2.toNatClampNeg v3) mu mb me mf (mt' + (1 : Int32)) mv' (0 : Int32) mk' (v2 + (1 : Int32))).bind fun x150 =>
  (if bad v2 36 then none else
  (mX5_fill_78 N R w h mu mb me mf n v2 (v3 + 1) (upd x150.1 v2.toNatClampNeg (0 : Int32)) x150.2.1 x150.2.2.1 x150.2.2.2.1 x150.2.2.2.2))))))
  else
  (mX5_fill_78 N R w h mu mb me mf n v2 (v3 + 1) ms' (mt' + (1 : Int32)) mv' (0 : Int32) mk'))
  else
  (if (1 : Int32) = 0 then
  ((mX5_stands N w h ms' mu mb me mf v2 v3).bind fun x130 =>
  (if x130.1 = 0 then
  (mX5_fill_78 N R w h mu mb me mf n v2 (v3 + 1) x130.2 (mt' + (1 : Int32)) mv' (1 : Int32) mk')
  else
  (if bad v2 36 then none else
  ((R w h (upd x130.2 v2.toNatClampNeg v3) mu mb me mf (mt' + (1 : Int32)) mv' (1 : Int32) mk' (v2 + (1 : Int32))).bind fun x150 =>
  (if bad v2 36 then none else
  (mX5_fill_78 N R w h mu mb me mf n v2 (v3 + 1) (upd x150.1 v2.toNatClampNeg (0 : Int32)) x150.2.1 x150.2.2.1 x150.2.2.2.1 x150.2.2.2.2))))))
  else
  (mX5_fill_78 N R w h mu mb me mf n v2 (v3 + 1) ms' (mt' + (1 : Int32)) mv' (1 : Int32) mk')))
  else
  some (ms', mt', mv', ml', mk')))) := rfl
theorem s_mX5_fill_2 (N : Nat) (R : Int32 → Int32 → RowI → RowI → RowI → RowI → RowI → Int32 → Int32 → Int32 → RowI → Int32 → Option (RowI × Int32 × Int32 × Int32 × RowI)) (w : Int32) (h : Int32) (ms : RowI) (mu : RowI) (mb : RowI) (me : RowI) (mf : RowI) (mt : Int32) (mv : Int32) (ml : Int32) (mk : RowI) (n : Nat) (v2 : Int32) : mX5_fill_2 N R w h ms mu mb me mf mt mv ml mk (n + 1) v2 = (if (w * h) ≤ v2 then
  (mX5_fill_30 N R w h ms mu mb me mf mt mv ml mk v2)
  else
  (if bad v2 36 then none else
  (if (ms v2.toNatClampNeg) = 0 then
  (mX5_fill_30 N R w h ms mu mb me mf mt mv ml mk v2)
  else
  (mX5_fill_2 N R w h ms mu mb me mf mt mv ml mk n (v2 + 1))))) := rfl
theorem s_mX5_fill (N : Nat) (d : Nat) (w : Int32) (h : Int32) (ms : RowI) (mu : RowI) (mb : RowI) (me : RowI) (mf : RowI) (mt : Int32) (mv : Int32) (ml : Int32) (mk : RowI) (p1 : Int32) : mX5_fill N (d + 1) w h ms mu mb me mf mt mv ml mk p1 = (mX5_fill_2 N (mX5_fill N d) w h ms mu mb me mf mt mv ml mk N p1) := rfl
theorem s_mX5_look_17 (N : Nat) (w : Int32) (h : Int32) (ms : RowI) (mu : RowI) (mb : RowI) (me : RowI) (mf : RowI) (n : Nat) (v1 : Int32) (mt' : Int32) (mv' : Int32) (ml' : Int32) (mk' : RowI) : mX5_look_17 N w h ms mu mb me mf (n + 1) v1 mt' mv' ml' mk' = (if (36 : Int32) ≤ v1 then
  ((mX5_isAllWell N w h ms mu mb me mf).bind fun x37 =>
  (if x37 = 0 then
  some (ms, mt', mv', ml', mk')
  else
  ((mX5_fill N 40 w h ms mu mb me mf mt' mv' ml' mk' (0 : Int32)).bind fun x45 =>
  some (x45.1, x45.2.1, x45.2.2.1, x45.2.2.2.1, x45.2.2.2.2))))
  else
  (if bad v1 36 then none else
  (mX5_look_17 N w h ms mu mb me mf n (v1 + 1) mt' mv' ml' (upd mk' v1.toNatClampNeg (0 : Int32))))) := rfl
theorem s_mX5_setFloor_64 (N : Nat) (mb : RowI) (n : Nat) (v3 : Int32) (th' : Int32) (w' : Int32) (h' : Int32) (ms' : RowI) (mu' : RowI) : mX5_setFloor_64 N mb (n + 1) v3 th' w' h' ms' mu' = (if (72 : Int32) ≤ v3 then
  ((mX5_link N w' h' ms' mb).bind fun x84 =>
  some ((w' * h'), th', w', h', ms', mu', x84))
  else
  (if bad v3 72 then none else
  (mX5_setFloor_64 N mb n (v3 + 1) th' w' h' ms' (upd mu' v3.toNatClampNeg (0 : Int32))))) := rfl
theorem s_mX5_setFloor_43 (N : Nat) (mu : RowI) (mb : RowI) (n : Nat) (v3 : Int32) (th' : Int32) (w' : Int32) (h' : Int32) (ms' : RowI) : mX5_setFloor_43 N mu mb (n + 1) v3 th' w' h' ms' = (if (36 : Int32) ≤ v3 then
  (mX5_setFloor_64 N mb N (0 : Int32) th' w' h' ms' mu)
  else
  (if bad v3 36 then none else
  (mX5_setFloor_43 N mu mb n (v3 + 1) th' w' h' (upd ms' v3.toNatClampNeg (0 : Int32))))) := rfl
theorem s_mX5_single_2 (N : Nat) (w : Int32) (h : Int32) (mu : RowI) (mb : RowI) (me : RowI) (mf : RowI) (n : Nat) (v1 : Int32) (ms' : RowI) : mX5_single_2 N w h mu mb me mf (n + 1) v1 ms' = (if (w * h) ≤ v1 then
  some ((-1 : Int32), ms')
  else
  ((mX5_canOf N w h ms' mu mb me mf v1).bind fun x17 =>
  (if (bc x17.1) = (1 : Int32) then
  some (v1, x17.2)
  else
  (mX5_single_2 N w h mu mb me mf n (v1 + 1) x17.2)))) := rfl
theorem s_mX5_force_12 (N : Nat) (w : Int32) (h : Int32) (mu : RowI) (mb : RowI) (me : RowI) (mf : RowI) (n : Nat) (v1 : Int32) (v2 : Int32) (th' : Int32) (ms' : RowI) : mX5_force_12 N w h mu mb me mf (n + 1) v1 v2 th' ms' = (if v2 = (-1 : Int32) then
  some (v1, th', ms')
  else
  ((mX5_canOf N w h ms' mu mb me mf v2).bind fun x24 =>
  ((mJ6_numberOfTrailingZeros N x24.1).bind fun x27 =>
  (if bad v2 36 then none else
  ((mX5_single N w h (upd x24.2 v2.toNatClampNeg x27) mu mb me mf).bind fun x35 =>
  (mX5_force_12 N w h mu mb me mf n (v1 + 1) x35.1 th' x35.2)))))) := rfl
theorem s_mX5_corridorTold_33 (N : Nat) (w : Int32) (h : Int32) (ms : RowI) (mu : RowI) (mb : RowI) (me : RowI) (mf : RowI) (p1 : Int32) (p2 : Int32) (p3 : Int32) (n : Nat) (v4 : Int32) (v5 : Int32) (v6 : Int32) (v7 : Int32) (v8 : Int32) : mX5_corridorTold_33 N w h ms mu mb me mf p1 p2 p3 (n + 1) v4 v5 v6 v7 v8 = ((mX5_isOpen N ms v8).bind fun x36 =>
  (if x36 = 0 then
  (if p3 = 0 then
  some v4
  else (if p3 = 1 then
  some v5
  else (if p3 = 2 then
  (if bad (((36 : Int32) * p2) + v4) 72 then none else
  some (mu (((36 : Int32) * p2) + v4).toNatClampNeg))
  else (if p3 = 3 then
  some v6
  else (if p3 = 4 then
  some v7
  else ((mX5_isWell N w h ms mu mb me mf p1 p2).bind fun x152 =>
  (if x152 = 0 then
  some (0 : Int32)
  else
  some (1 : Int32))))))))
  else
  (if bad v8 36 then none else
  (if (ms v8.toNatClampNeg) ≤ 0 then
  (mX5_corridorTold_62 N w h ms mu mb me mf p1 p2 p3 (mX5_corridorTold_33 N w h ms mu mb me mf p1 p2 p3 n) v4 (v5 + 1) v7 v8 (0 : Int32) v6)
  else
  (mX5_corridorTold_62 N w h ms mu mb me mf p1 p2 p3 (mX5_corridorTold_33 N w h ms mu mb me mf p1 p2 p3 n) v4 (v5 + 1) v7 v8 (1 : Int32) v6))))) := rfl
theorem s_mX5_corridors_4 (N : Nat) (w : Int32) (h : Int32) (ms : RowI) (mu : RowI) (mb : RowI) (me : RowI) (mf : RowI) (p1 : Int32) (n : Nat) (v2 : Int32) (v3 : Int32) : mX5_corridors_4 N w h ms mu mb me mf p1 (n + 1) v2 v3 = (if (((2 : Int32) * w) * h) ≤ v3 then
  some v2
  else
  (if (2 : Int32) = 0 then none else
  (if (2 : Int32) = 0 then none else
  (if bad (v3 / (2 : Int32)) 36 then none else
  (if (ms (v3 / (2 : Int32)).toNatClampNeg) = (-1 : Int32) then
  (mX5_corridors_4 N w h ms mu mb me mf p1 n v2 (v3 + 1))
  else
  ((mX5_beginOf N mb (v3 / (2 : Int32)) (v3 - v3 / (2 : Int32) * (2 : Int32))).bind fun x45 =>
  (if x45 = (v3 / (2 : Int32)) then
  (if p1 = (4 : Int32) then
  (mX5_corridors_4 N w h ms mu mb me mf p1 n (v2 + (1 : Int32)) (v3 + 1))
  else
  (if p1 = (5 : Int32) then
  (if bad (((36 : Int32) * (v3 - v3 / (2 : Int32) * (2 : Int32))) + (v3 / (2 : Int32))) 72 then none else
  (if 0 < (mu (((36 : Int32) * (v3 - v3 / (2 : Int32) * (2 : Int32))) + (v3 / (2 : Int32))).toNatClampNeg) then
  (mX5_corridors_4 N w h ms mu mb me mf p1 n (v2 + (1 : Int32)) (v3 + 1))
  else
  (mX5_corridors_83 N w h ms mu mb me mf p1 (mX5_corridors_4 N w h ms mu mb me mf p1 n) v3 (v3 / (2 : Int32)) (v3 - v3 / (2 : Int32) * (2 : Int32)) v2)))
  else
  (mX5_corridors_83 N w h ms mu mb me mf p1 (mX5_corridors_4 N w h ms mu mb me mf p1 n) v3 (v3 / (2 : Int32)) (v3 - v3 / (2 : Int32) * (2 : Int32)) v2)))
  else
  (mX5_corridors_4 N w h ms mu mb me mf p1 n v2 (v3 + 1))))))))) := rfl
theorem s_mX5_counted_148 (N : Nat) (w : Int32) (h : Int32) (mu : RowI) (mb : RowI) (me : RowI) (mf : RowI) (p1 : Int32) (n : Nat) (v2 : Int32) (v3 : Int32) (ms' : RowI) : mX5_counted_148 N w h mu mb me mf p1 (n + 1) v2 v3 ms' = (if (w * h) ≤ v3 then
  some (v2, ms')
  else
  (if bad v3 36 then none else
  (if (ms' v3.toNatClampNeg) = 0 then
  ((mX5_canOf N w h ms' mu mb me mf v3).bind fun x173 =>
  (if (bc x173.1) = ((8 : Int32) - p1) then
  (mX5_counted_148 N w h mu mb me mf p1 n (v2 + (1 : Int32)) (v3 + 1) x173.2)
  else
  (mX5_counted_148 N w h mu mb me mf p1 n (v2 + (0 : Int32)) (v3 + 1) x173.2)))
  else
  (mX5_counted_148 N w h mu mb me mf p1 n (v2 + (0 : Int32)) (v3 + 1) ms')))) := rfl
theorem s_mX5_counted_102 (N : Nat) (w : Int32) (h : Int32) (ms : RowI) (n : Nat) (v2 : Int32) (v3 : Int32) : mX5_counted_102 N w h ms (n + 1) v2 v3 = (if (w * h) ≤ v3 then
  some (v2, ms)
  else
  (if bad v3 36 then none else
  (if (ms v3.toNatClampNeg) ≤ 0 then
  (mX5_counted_102 N w h ms n (v2 + (0 : Int32)) (v3 + 1))
  else
  (mX5_counted_102 N w h ms n (v2 + (1 : Int32)) (v3 + 1))))) := rfl
theorem s_mX5_counted_61 (N : Nat) (w : Int32) (h : Int32) (ms : RowI) (n : Nat) (v2 : Int32) (v3 : Int32) : mX5_counted_61 N w h ms (n + 1) v2 v3 = (if (w * h) ≤ v3 then
  some (v2, ms)
  else
  (if bad v3 36 then none else
  (if (ms v3.toNatClampNeg) = (-1 : Int32) then
  (mX5_counted_61 N w h ms n (v2 + (0 : Int32)) (v3 + 1))
  else
  (mX5_counted_61 N w h ms n (v2 + (1 : Int32)) (v3 + 1))))) := rfl
theorem s_mX5_forcedOf_41 (N : Nat) (me : RowI) (mf : RowI) (n : Nat) (v3 : Int32) (v4 : Int32) (v5 : Int32) : mX5_forcedOf_41 N me mf (n + 1) v3 v4 v5 = (if bad (v3 + (1 : Int32)) 461 then none else
  (if (mf (v3 + (1 : Int32)).toNatClampNeg) ≤ v5 then
  some v4
  else
  (if bad v5 512 then none else
  (mX5_forcedOf_41 N me mf n v3 (v4 &&& (me v5.toNatClampNeg)) (v5 + 1))))) := rfl
theorem s_mX5_next_11 (N : Nat) (w : Int32) (h : Int32) (mu : RowI) (mb : RowI) (me : RowI) (mf : RowI) (n : Nat) (v1 : Int32) (v2 : Int32) (v3 : Int32) (th' : Int32) (ms' : RowI) : mX5_next_11 N w h mu mb me mf (n + 1) v1 v2 v3 th' ms' = (if (w * h) ≤ v3 then
  some (v1, th', ms')
  else
  ((mX5_canOf N w h ms' mu mb me mf v3).bind fun x26 =>
  (if bad v3 36 then none else
  (if (x26.2 v3.toNatClampNeg) = 0 then
  (if v1 = (-1 : Int32) then
  (mX5_next_11 N w h mu mb me mf n v3 (bc x26.1) (v3 + 1) th' x26.2)
  else
  (if (bc x26.1) < v2 then
  (mX5_next_11 N w h mu mb me mf n v3 (bc x26.1) (v3 + 1) th' x26.2)
  else
  (mX5_next_11 N w h mu mb me mf n v1 v2 (v3 + 1) th' x26.2)))
  else
  (mX5_next_11 N w h mu mb me mf n v1 v2 (v3 + 1) th' x26.2))))) := rfl
theorem s_mX5_digest_108 (N : Nat) (w : Int32) (h : Int32) (mu : RowI) (mb : RowI) (me : RowI) (mf : RowI) (mt : Int32) (mv : Int32) (ml : Int32) (mk : RowI) (K38 : Int64 → Int32 → Int32 → RowI → Option (Int64 × Int32 × RowI × Int32 × Int32 × Int32 × RowI)) (n : Nat) (v1 : Int64) (v3 : Int32) (v4 : Int32) (th' : Int32) (ms' : RowI) : mX5_digest_108 N w h mu mb me mf mt mv ml mk K38 (n + 1) v1 v3 v4 th' ms' = (if (12 : Int32) ≤ v4 then
  (K38 v1 (v3 + 1) th' ms')
  else
  (if (6 : Int32) = 0 then none else
  (if (6 : Int32) = 0 then none else
  ((mX5_corridorTold N w h ms' mu mb me mf v3 (v4 / (6 : Int32)) (v4 - v4 / (6 : Int32) * (6 : Int32))).bind fun x132 =>
  (mX5_digest_108 N w h mu mb me mf mt mv ml mk K38 n ((v1 * (31 : Int64)) + (x132.toInt64)) v3 (v4 + 1) th' ms'))))) := rfl
theorem s_mX5_digest_38 (N : Nat) (w : Int32) (h : Int32) (mu : RowI) (mb : RowI) (me : RowI) (mf : RowI) (mt : Int32) (mv : Int32) (ml : Int32) (mk : RowI) (n : Nat) (v1 : Int64) (v3 : Int32) (th' : Int32) (ms' : RowI) : mX5_digest_38 N w h mu mb me mf mt mv ml mk (n + 1) v1 v3 th' ms' = (if (w * h) ≤ v3 then
  ((mX5_look N w h ms' mu mb me mf mt mv ml mk).bind fun x151 =>
  ((mX5_told N x151.2.2.1 x151.2.2.2.1).bind fun x160 =>
  some (((((v1 * (31 : Int64)) + (x160.toInt64)) * (31 : Int64)) + (x151.2.1.toInt64)), th', x151.1, x151.2.1, x151.2.2.1, x151.2.2.2.1, x151.2.2.2.2)))
  else
  (if bad v3 36 then none else
  (if bad v3 72 then none else
  (if bad ((36 : Int32) + v3) 72 then none else
  ((mX5_canOf N w h ms' mu mb me mf v3).bind fun x99 =>
  (mX5_digest_108 N w h mu mb me mf mt mv ml mk (mX5_digest_38 N w h mu mb me mf mt mv ml mk n) N ((((((((v1 * (31 : Int64)) + ((ms' v3.toNatClampNeg).toInt64)) * (31 : Int64)) + ((mu v3.toNatClampNeg).toInt64)) * (31 : Int64)) + ((mu ((36 : Int32) + v3).toNatClampNeg).toInt64)) * (31 : Int64)) + (x99.1.toInt64)) v3 (0 : Int32) th' x99.2)))))) := rfl
theorem s_mX5_digest_11 (N : Nat) (w : Int32) (h : Int32) (mu : RowI) (mb : RowI) (me : RowI) (mf : RowI) (mt : Int32) (mv : Int32) (ml : Int32) (mk : RowI) (n : Nat) (v1 : Int64) (v3 : Int32) (th' : Int32) (ms' : RowI) : mX5_digest_11 N w h mu mb me mf mt mv ml mk (n + 1) v1 v3 th' ms' = (if (8 : Int32) < v3 then
  (mX5_digest_38 N w h mu mb me mf mt mv ml mk N v1 (0 : Int32) th' ms')
  else
  ((mX5_counted N w h ms' mu mb me mf v3).bind fun x24 =>
  (mX5_digest_11 N w h mu mb me mf mt mv ml mk n ((v1 * (31 : Int64)) + (x24.1.toInt64)) (v3 + 1) th' x24.2))) := rfl
theorem s_mX1_meanOfNumbers_6 (N : Nat) (st : RowI) (co : Int32) (ro : Int32) (cA : CS) (cD : CS) (su : RowJ) (n : Nat) (v1 : Int32) (v2 : Int32) (v3 : Int32) : mX1_meanOfNumbers_6 N st co ro cA cD su (n + 1) v1 v2 v3 = ((mX1_cells N co ro).bind fun x8 =>
  (if x8 ≤ v3 then
  (if v1 = 0 then
  some FP.dconst0
  else
  some (FP.ddiv (FP.i2d v2) (FP.i2d v1)))
  else
  ((mX1_isHole N st v3).bind fun x16 =>
  (if x16 = 0 then
  (mX1_meanOfNumbers_6 N st co ro cA cD su n v1 v2 (v3 + 1))
  else
  ((mX1_numbersFor N st cA cD su v3).bind fun x28 =>
  (mX1_meanOfNumbers_6 N st co ro cA cD su n (v1 + 1) (v2 + (bc x28)) (v3 + 1))))))) := rfl
theorem s_mX5_mean_11 (N : Nat) (w : Int32) (h : Int32) (mu : RowI) (mb : RowI) (me : RowI) (mf : RowI) (n : Nat) (v1 : Int32) (v2 : Int32) (v3 : Int32) (th' : Int32) (ms' : RowI) : mX5_mean_11 N w h mu mb me mf (n + 1) v1 v2 v3 th' ms' = (if (w * h) ≤ v3 then
  (if v1 = 0 then
  some (FP.dconst0, th', ms')
  else
  some ((FP.ddiv (FP.i2d v2) (FP.i2d v1)), th', ms'))
  else
  (if bad v3 36 then none else
  (if (ms' v3.toNatClampNeg) = 0 then
  (mX5_mean_39 N w h mu mb me mf (mX5_mean_11 N w h mu mb me mf n) v2 v3 (1 : Int32) v1 th' ms')
  else
  (mX5_mean_39 N w h mu mb me mf (mX5_mean_11 N w h mu mb me mf n) v2 v3 (0 : Int32) v1 th' ms')))) := rfl
theorem s_mX2_init_30 (N : Nat) (K22 : Int32 → RowJ → Option RowJ) (n : Nat) (v1 : Int32) (v2 : Int32) (su' : RowJ) : mX2_init_30 N K22 (n + 1) v1 v2 su' = (if ((1 : Int32) <<< (v1 &&& 31)) ≤ v2 then
  (K22 (v1 + 1) su')
  else
  ((mX2_addHighest N su' v2 v1).bind fun x40 =>
  (mX2_init_30 N K22 n v1 (v2 + 2) x40))) := rfl
theorem s_mX2_init_22 (N : Nat) (n : Nat) (v1 : Int32) (su' : RowJ) : mX2_init_22 N (n + 1) v1 su' = (if (9 : Int32) < v1 then
  some su'
  else
  (mX2_init_30 N (mX2_init_22 N n) N v1 (0 : Int32) su')) := rfl
theorem s_mX5_init_84 (N : Nat) (w : Int32) (h : Int32) (ms : RowI) (mb : RowI) (K68 : Int32 → Int32 → RowI → RowI → Option (RowI × RowI × RowI)) (n : Nat) (v1 : Int32) (v2 : Int32) (v3 : Int32) (me' : RowI) (mf' : RowI) : mX5_init_84 N w h ms mb K68 (n + 1) v1 v2 v3 me' mf' = (if (1024 : Int32) ≤ v3 then
  (K68 v1 (v2 + 1) me' mf')
  else
  (if (46 : Int32) = 0 then none else
  (if (bc v3) = (v2 / (46 : Int32)) then
  ((mX5_sumOf N v3).bind fun x103 =>
  (if (46 : Int32) = 0 then none else
  (if x103 = (v2 - v2 / (46 : Int32) * (46 : Int32)) then
  (if bad v1 512 then none else
  (mX5_init_84 N w h ms mb K68 n (v1 + 1) v2 (v3 + 2) (upd me' v1.toNatClampNeg v3) mf'))
  else
  (mX5_init_84 N w h ms mb K68 n v1 v2 (v3 + 2) me' mf'))))
  else
  (mX5_init_84 N w h ms mb K68 n v1 v2 (v3 + 2) me' mf')))) := rfl
theorem s_mX5_init_68 (N : Nat) (w : Int32) (h : Int32) (ms : RowI) (mb : RowI) (n : Nat) (v1 : Int32) (v2 : Int32) (me' : RowI) (mf' : RowI) : mX5_init_68 N w h ms mb (n + 1) v1 v2 me' mf' = (if (460 : Int32) ≤ v2 then
  (if bad (460 : Int32) 461 then none else
  ((mX5_link N w h ms mb).bind fun x148 =>
  some (x148, me', (upd mf' (460 : Int32).toNatClampNeg v1))))
  else
  (if bad v2 461 then none else
  (mX5_init_84 N w h ms mb (mX5_init_68 N w h ms mb n) N v1 v2 (0 : Int32) me' (upd mf' v2.toNatClampNeg v1)))) := rfl
