def mL_act_572 (N : Nat) (fr : Int32) (st : RowI) (co : Int32) (ro : Int32) (cA : CS) (cD : CS) (wI : Int32) (hI : Int32) (Wn : Nat) (Hn : Nat) (gA : RowR) (gD : RowR) (v3 : Int32) (v6 : Int32) (v7 : Int32) (gS' : RowR) : Option (Int32 × Int32 × RowI × Int32 × Int32 × CS × CS × Int32 × Int32 × Nat × Nat × RowR × RowR × RowR) :=
  ((mX4_put N fr st co ro v3 v6).bind fun x576 => Sum.elim (fun k => (if k = 3 then (if 0 ≤ v7 then
  some ((0 : Int32), fr, st, co, ro, cA, cD, wI, hI, Wn, Hn, gS', gA, gD)
  else
  some ((1 : Int32), fr, st, co, ro, cA, cD, wI, hI, Wn, Hn, gS', gA, gD)) else none)) (fun y576 =>
  (if y576.1 = v7 then
  (if v7 < 0 then
  some ((0 : Int32), y576.2.1, y576.2.2, co, ro, cA, cD, wI, hI, Wn, Hn, gS', gA, gD)
  else
  some ((1 : Int32), y576.2.1, y576.2.2, co, ro, cA, cD, wI, hI, Wn, Hn, gS', gA, gD))
  else
  some ((0 : Int32), y576.2.1, y576.2.2, co, ro, cA, cD, wI, hI, Wn, Hn, gS', gA, gD))) x576)
def mL_act_553 (N : Nat) (fr : Int32) (st : RowI) (co : Int32) (ro : Int32) (cA : CS) (cD : CS) (wI : Int32) (hI : Int32) (Wn : Nat) (Hn : Nat) (gA : RowR) (gD : RowR) (v3 : Int32) (i4 : Nat) (v5 : Int32) (v6 : Int32) (gS' : RowR) : Option (Int32 × Int32 × RowI × Int32 × Int32 × CS × CS × Int32 × Int32 × Nat × Nat × RowR × RowR × RowR) :=
  (if bad v5 Wn then none else
  (if (gS' i4 v5.toNatClampNeg) < 0 then
  (mL_act_572 N fr st co ro cA cD wI hI Wn Hn gA gD v3 v6 (gS' i4 v5.toNatClampNeg) gS')
  else
  (if bad v5 Wn then none else
  (mL_act_572 N fr st co ro cA cD wI hI Wn Hn gA gD v3 v6 (gS' i4 v5.toNatClampNeg) (updR gS' i4 (upd (gS' i4) v5.toNatClampNeg v6))))))
def mL_act_495 (N : Nat) (fr : Int32) (st : RowI) (co : Int32) (ro : Int32) (cA : CS) (cD : CS) (wI : Int32) (hI : Int32) (Wn : Nat) (Hn : Nat) (gA : RowR) (gD : RowR) (p3 : Int32) : Nat → Int32 → Nat → Int32 → Int32 → Int32 → RowR → Option (Int32 × Int32 × RowI × Int32 × Int32 × CS × CS × Int32 × Int32 × Nat × Nat × RowR × RowR × RowR)
  | 0 => fun _ _ _ _ _ _ => none
  | n + 1 => fun v3 i4 v5 v6 v7 gS' => (if (9 : Int32) ≤ v7 then
  (mL_act_553 N fr st co ro cA cD wI hI Wn Hn gA gD v3 i4 v5 v6 gS')
  else
  ((mL_below N (p3 >>> ((8 : Int32) &&& 31)) (4 : Int32)).bind fun x507 =>
  (if x507 ≤ 0 then
  (mL_act_553 N fr st co ro cA cD wI hI Wn Hn gA gD v3 i4 v5 v6 gS')
  else
  (if v6 ≤ 0 then
  (mL_act_553 N fr st co ro cA cD wI hI Wn Hn gA gD v3 i4 v5 v6 gS')
  else
  (if wI = 0 then none else
  ((mX5_can N wI hI Wn Hn gS' gA gD v5 (v3 / wI)).bind fun x527 =>
  (if ((x527.1 >>> (v6 &&& 31)) &&& (1 : Int32)) = 0 then
  (if (9 : Int32) = 0 then none else
  (mL_act_495 N fr st co ro cA cD wI hI Wn Hn gA gD p3 n v3 i4 v5 ((v6 - v6 / (9 : Int32) * (9 : Int32)) + (1 : Int32)) (v7 + 1) x527.2))
  else
  (mL_act_553 N fr st co ro cA cD wI hI Wn Hn gA gD v3 i4 v5 v6 x527.2))))))))
def mL_act_305 (N : Nat) (fr : Int32) (st : RowI) (co : Int32) (ro : Int32) (cA : CS) (cD : CS) (wI : Int32) (hI : Int32) (Wn : Nat) (Hn : Nat) (gS : RowR) (gA : RowR) (gD : RowR) (p3 : Int32) (v3 : Int32) (i4 : Nat) (v5 : Int32) (v6 : Int32) : Option (Int32 × Int32 × RowI × Int32 × Int32 × CS × CS × Int32 × Int32 × Nat × Nat × RowR × RowR × RowR) :=
  (if v6 = 0 then
  (if wI = 0 then none else
  (if bad (v3 / wI) Hn then none else
  (if wI = 0 then none else
  (if bad (v3 - v3 / wI * wI) Wn then none else
  (if bad v5 Wn then none else
  (if 0 ≤ (gS i4 v5.toNatClampNeg) then
  ((mL_below N (p3 >>> ((3 : Int32) &&& 31)) (wI * hI)).bind fun x368 =>
  (if wI = 0 then none else
  ((mX5_corridor N wI hI Wn Hn gS v5 (x368 / wI) v6).bind fun x378 =>
  (if (2 : Int32) = 0 then none else
  ((mL_below N (p3 >>> ((9 : Int32) &&& 31)) (8 : Int32)).bind fun x401 =>
  (if x401 = 0 then
  ((mL_below N (p3 >>> ((6 : Int32) &&& 31)) (46 : Int32)).bind fun x413 =>
  (if wI = 0 then none else
  (if bad (v3 / wI) Hn then none else
  (if wI = 0 then none else
  (if bad (v3 - v3 / wI * wI) Wn then none else
  ((mX4_setSum N fr co ro cA cD v3 v6 x413).bind fun x467 => Sum.elim (fun k => none) (fun y467 =>
  (if y467.1 = (gA ((v3 / wI).toNatClampNeg) (v3 - v3 / wI * wI).toNatClampNeg) then
  some ((1 : Int32), y467.2.1, st, co, ro, y467.2.2.1, y467.2.2.2, wI, hI, Wn, Hn, gS, (updR gA ((v3 / wI).toNatClampNeg) (upd (gA ((v3 / wI).toNatClampNeg)) (v3 - v3 / wI * wI).toNatClampNeg x413)), gD)
  else
  some ((0 : Int32), y467.2.1, st, co, ro, y467.2.2.1, y467.2.2.2, wI, hI, Wn, Hn, gS, (updR gA ((v3 / wI).toNatClampNeg) (upd (gA ((v3 / wI).toNatClampNeg)) (v3 - v3 / wI * wI).toNatClampNeg x413)), gD))) x467))))))
  else
  ((mL_below N (p3 >>> ((6 : Int32) &&& 31)) ((((10 : Int32) * (nI x378.1)) - ((2 : Int32) * (((nI x378.1) * ((nI x378.1) + (1 : Int32))) / (2 : Int32)))) + (1 : Int32))).bind fun x437 =>
  (if wI = 0 then none else
  (if bad (v3 / wI) Hn then none else
  (if wI = 0 then none else
  (if bad (v3 - v3 / wI * wI) Wn then none else
  ((mX4_setSum N fr co ro cA cD v3 v6 ((((nI x378.1) * ((nI x378.1) + (1 : Int32))) / (2 : Int32)) + x437)).bind fun x467 => Sum.elim (fun k => none) (fun y467 =>
  (if y467.1 = (gA ((v3 / wI).toNatClampNeg) (v3 - v3 / wI * wI).toNatClampNeg) then
  some ((1 : Int32), y467.2.1, st, co, ro, y467.2.2.1, y467.2.2.2, wI, hI, Wn, Hn, gS, (updR gA ((v3 / wI).toNatClampNeg) (upd (gA ((v3 / wI).toNatClampNeg)) (v3 - v3 / wI * wI).toNatClampNeg ((((nI x378.1) * ((nI x378.1) + (1 : Int32))) / (2 : Int32)) + x437))), gD)
  else
  some ((0 : Int32), y467.2.1, st, co, ro, y467.2.2.1, y467.2.2.2, wI, hI, Wn, Hn, gS, (updR gA ((v3 / wI).toNatClampNeg) (upd (gA ((v3 / wI).toNatClampNeg)) (v3 - v3 / wI * wI).toNatClampNeg ((((nI x378.1) * ((nI x378.1) + (1 : Int32))) / (2 : Int32)) + x437))), gD))) x467))))))))))))
  else
  (if (2 : Int32) = 0 then none else
  ((mL_below N (p3 >>> ((9 : Int32) &&& 31)) (8 : Int32)).bind fun x401 =>
  (if x401 = 0 then
  ((mL_below N (p3 >>> ((6 : Int32) &&& 31)) (46 : Int32)).bind fun x413 =>
  (if wI = 0 then none else
  (if bad (v3 / wI) Hn then none else
  (if wI = 0 then none else
  (if bad (v3 - v3 / wI * wI) Wn then none else
  ((mX4_setSum N fr co ro cA cD v3 v6 x413).bind fun x467 => Sum.elim (fun k => none) (fun y467 =>
  (if y467.1 = (gA ((v3 / wI).toNatClampNeg) (v3 - v3 / wI * wI).toNatClampNeg) then
  some ((1 : Int32), y467.2.1, st, co, ro, y467.2.2.1, y467.2.2.2, wI, hI, Wn, Hn, gS, (updR gA ((v3 / wI).toNatClampNeg) (upd (gA ((v3 / wI).toNatClampNeg)) (v3 - v3 / wI * wI).toNatClampNeg x413)), gD)
  else
  some ((0 : Int32), y467.2.1, st, co, ro, y467.2.2.1, y467.2.2.2, wI, hI, Wn, Hn, gS, (updR gA ((v3 / wI).toNatClampNeg) (upd (gA ((v3 / wI).toNatClampNeg)) (v3 - v3 / wI * wI).toNatClampNeg x413)), gD))) x467))))))
  else
  ((mL_below N (p3 >>> ((6 : Int32) &&& 31)) ((((10 : Int32) * (1 : Int32)) - ((2 : Int32) * (((1 : Int32) * ((1 : Int32) + (1 : Int32))) / (2 : Int32)))) + (1 : Int32))).bind fun x437 =>
  (if wI = 0 then none else
  (if bad (v3 / wI) Hn then none else
  (if wI = 0 then none else
  (if bad (v3 - v3 / wI * wI) Wn then none else
  ((mX4_setSum N fr co ro cA cD v3 v6 ((((1 : Int32) * ((1 : Int32) + (1 : Int32))) / (2 : Int32)) + x437)).bind fun x467 => Sum.elim (fun k => none) (fun y467 =>
  (if y467.1 = (gA ((v3 / wI).toNatClampNeg) (v3 - v3 / wI * wI).toNatClampNeg) then
  some ((1 : Int32), y467.2.1, st, co, ro, y467.2.2.1, y467.2.2.2, wI, hI, Wn, Hn, gS, (updR gA ((v3 / wI).toNatClampNeg) (upd (gA ((v3 / wI).toNatClampNeg)) (v3 - v3 / wI * wI).toNatClampNeg ((((1 : Int32) * ((1 : Int32) + (1 : Int32))) / (2 : Int32)) + x437))), gD)
  else
  some ((0 : Int32), y467.2.1, st, co, ro, y467.2.2.1, y467.2.2.2, wI, hI, Wn, Hn, gS, (updR gA ((v3 / wI).toNatClampNeg) (upd (gA ((v3 / wI).toNatClampNeg)) (v3 - v3 / wI * wI).toNatClampNeg ((((1 : Int32) * ((1 : Int32) + (1 : Int32))) / (2 : Int32)) + x437))), gD))) x467)))))))))))))))
  else
  (if wI = 0 then none else
  (if bad (v3 / wI) Hn then none else
  (if wI = 0 then none else
  (if bad (v3 - v3 / wI * wI) Wn then none else
  (if bad v5 Wn then none else
  (if 0 ≤ (gS i4 v5.toNatClampNeg) then
  ((mL_below N (p3 >>> ((3 : Int32) &&& 31)) (wI * hI)).bind fun x368 =>
  (if wI = 0 then none else
  ((mX5_corridor N wI hI Wn Hn gS v5 (x368 / wI) v6).bind fun x378 =>
  (if (2 : Int32) = 0 then none else
  ((mL_below N (p3 >>> ((9 : Int32) &&& 31)) (8 : Int32)).bind fun x401 =>
  (if x401 = 0 then
  ((mL_below N (p3 >>> ((6 : Int32) &&& 31)) (46 : Int32)).bind fun x413 =>
  (if wI = 0 then none else
  (if bad (v3 / wI) Hn then none else
  (if wI = 0 then none else
  (if bad (v3 - v3 / wI * wI) Wn then none else
  ((mX4_setSum N fr co ro cA cD v3 v6 x413).bind fun x467 => Sum.elim (fun k => none) (fun y467 =>
  (if y467.1 = (gD ((v3 / wI).toNatClampNeg) (v3 - v3 / wI * wI).toNatClampNeg) then
  some ((1 : Int32), y467.2.1, st, co, ro, y467.2.2.1, y467.2.2.2, wI, hI, Wn, Hn, gS, gA, (updR gD ((v3 / wI).toNatClampNeg) (upd (gD ((v3 / wI).toNatClampNeg)) (v3 - v3 / wI * wI).toNatClampNeg x413)))
  else
  some ((0 : Int32), y467.2.1, st, co, ro, y467.2.2.1, y467.2.2.2, wI, hI, Wn, Hn, gS, gA, (updR gD ((v3 / wI).toNatClampNeg) (upd (gD ((v3 / wI).toNatClampNeg)) (v3 - v3 / wI * wI).toNatClampNeg x413))))) x467))))))
  else
  ((mL_below N (p3 >>> ((6 : Int32) &&& 31)) ((((10 : Int32) * (nI x378.1)) - ((2 : Int32) * (((nI x378.1) * ((nI x378.1) + (1 : Int32))) / (2 : Int32)))) + (1 : Int32))).bind fun x437 =>
  (if wI = 0 then none else
  (if bad (v3 / wI) Hn then none else
  (if wI = 0 then none else
  (if bad (v3 - v3 / wI * wI) Wn then none else
  ((mX4_setSum N fr co ro cA cD v3 v6 ((((nI x378.1) * ((nI x378.1) + (1 : Int32))) / (2 : Int32)) + x437)).bind fun x467 => Sum.elim (fun k => none) (fun y467 =>
  (if y467.1 = (gD ((v3 / wI).toNatClampNeg) (v3 - v3 / wI * wI).toNatClampNeg) then
  some ((1 : Int32), y467.2.1, st, co, ro, y467.2.2.1, y467.2.2.2, wI, hI, Wn, Hn, gS, gA, (updR gD ((v3 / wI).toNatClampNeg) (upd (gD ((v3 / wI).toNatClampNeg)) (v3 - v3 / wI * wI).toNatClampNeg ((((nI x378.1) * ((nI x378.1) + (1 : Int32))) / (2 : Int32)) + x437))))
  else
  some ((0 : Int32), y467.2.1, st, co, ro, y467.2.2.1, y467.2.2.2, wI, hI, Wn, Hn, gS, gA, (updR gD ((v3 / wI).toNatClampNeg) (upd (gD ((v3 / wI).toNatClampNeg)) (v3 - v3 / wI * wI).toNatClampNeg ((((nI x378.1) * ((nI x378.1) + (1 : Int32))) / (2 : Int32)) + x437)))))) x467))))))))))))
  else
  (if (2 : Int32) = 0 then none else
  ((mL_below N (p3 >>> ((9 : Int32) &&& 31)) (8 : Int32)).bind fun x401 =>
  (if x401 = 0 then
  ((mL_below N (p3 >>> ((6 : Int32) &&& 31)) (46 : Int32)).bind fun x413 =>
  (if wI = 0 then none else
  (if bad (v3 / wI) Hn then none else
  (if wI = 0 then none else
  (if bad (v3 - v3 / wI * wI) Wn then none else
  ((mX4_setSum N fr co ro cA cD v3 v6 x413).bind fun x467 => Sum.elim (fun k => none) (fun y467 =>
  (if y467.1 = (gD ((v3 / wI).toNatClampNeg) (v3 - v3 / wI * wI).toNatClampNeg) then
  some ((1 : Int32), y467.2.1, st, co, ro, y467.2.2.1, y467.2.2.2, wI, hI, Wn, Hn, gS, gA, (updR gD ((v3 / wI).toNatClampNeg) (upd (gD ((v3 / wI).toNatClampNeg)) (v3 - v3 / wI * wI).toNatClampNeg x413)))
  else
  some ((0 : Int32), y467.2.1, st, co, ro, y467.2.2.1, y467.2.2.2, wI, hI, Wn, Hn, gS, gA, (updR gD ((v3 / wI).toNatClampNeg) (upd (gD ((v3 / wI).toNatClampNeg)) (v3 - v3 / wI * wI).toNatClampNeg x413))))) x467))))))
  else
  ((mL_below N (p3 >>> ((6 : Int32) &&& 31)) ((((10 : Int32) * (1 : Int32)) - ((2 : Int32) * (((1 : Int32) * ((1 : Int32) + (1 : Int32))) / (2 : Int32)))) + (1 : Int32))).bind fun x437 =>
  (if wI = 0 then none else
  (if bad (v3 / wI) Hn then none else
  (if wI = 0 then none else
  (if bad (v3 - v3 / wI * wI) Wn then none else
  ((mX4_setSum N fr co ro cA cD v3 v6 ((((1 : Int32) * ((1 : Int32) + (1 : Int32))) / (2 : Int32)) + x437)).bind fun x467 => Sum.elim (fun k => none) (fun y467 =>
  (if y467.1 = (gD ((v3 / wI).toNatClampNeg) (v3 - v3 / wI * wI).toNatClampNeg) then
  some ((1 : Int32), y467.2.1, st, co, ro, y467.2.2.1, y467.2.2.2, wI, hI, Wn, Hn, gS, gA, (updR gD ((v3 / wI).toNatClampNeg) (upd (gD ((v3 / wI).toNatClampNeg)) (v3 - v3 / wI * wI).toNatClampNeg ((((1 : Int32) * ((1 : Int32) + (1 : Int32))) / (2 : Int32)) + x437))))
  else
  some ((0 : Int32), y467.2.1, st, co, ro, y467.2.2.1, y467.2.2.2, wI, hI, Wn, Hn, gS, gA, (updR gD ((v3 / wI).toNatClampNeg) (upd (gD ((v3 / wI).toNatClampNeg)) (v3 - v3 / wI * wI).toNatClampNeg ((((1 : Int32) * ((1 : Int32) + (1 : Int32))) / (2 : Int32)) + x437)))))) x467))))))))))))))))
def mL_act_267 (N : Nat) (fr : Int32) (st : RowI) (co : Int32) (ro : Int32) (cA : CS) (cD : CS) (wI : Int32) (hI : Int32) (Wn : Nat) (Hn : Nat) (gS : RowR) (gA : RowR) (gD : RowR) (p3 : Int32) (v3 : Int32) (i4 : Nat) (v5 : Int32) (s0 : Int32) : Option (Int32 × Int32 × RowI × Int32 × Int32 × CS × CS × Int32 × Int32 × Nat × Nat × RowR × RowR × RowR) :=
  (if bad v5 Wn then none else
  (if (gS i4 v5.toNatClampNeg) < 0 then
  (mL_act_305 N fr st co ro cA cD wI hI Wn Hn gS gA gD p3 v3 i4 v5 s0)
  else
  ((mL_below N (p3 >>> ((5 : Int32) &&& 31)) (6 : Int32)).bind fun x282 =>
  (if x282 ≤ 0 then
  (mL_act_305 N fr st co ro cA cD wI hI Wn Hn gS gA gD p3 v3 i4 v5 s0)
  else
  (if wI = 0 then none else
  ((mX5_corridor N wI hI Wn Hn gS v5 (v3 / wI) s0).bind fun x299 =>
  (if bad (0 : Int32) x299.1 then none else
  (mL_act_305 N fr st co ro cA cD wI hI Wn Hn gS gA gD p3 (x299.2 (0 : Int32).toNatClampNeg) i4 v5 s0))))))))
def mL_act_242 (N : Nat) (co : Int32) (ro : Int32) (wI : Int32) (hI : Int32) (Wn : Nat) (Hn : Nat) (gA : RowR) (gD : RowR) (s0 : Int32) (s1 : Int32) (fr' : Int32) (st' : RowI) (cA' : CS) (cD' : CS) (gS' : RowR) : Option (Int32 × Int32 × RowI × Int32 × Int32 × CS × CS × Int32 × Int32 × Nat × Nat × RowR × RowR × RowR) :=
  (if s1 = s0 then
  some ((1 : Int32), fr', st', co, ro, cA', cD', wI, hI, Wn, Hn, gS', gA, gD)
  else
  some ((0 : Int32), fr', st', co, ro, cA', cD', wI, hI, Wn, Hn, gS', gA, gD))
def mL_act (N : Nat) (fr : Int32) (st : RowI) (co : Int32) (ro : Int32) (cA : CS) (cD : CS) (wI : Int32) (hI : Int32) (Wn : Nat) (Hn : Nat) (gS : RowR) (gA : RowR) (gD : RowR) (p3 : Int32) : Option (Int32 × Int32 × RowI × Int32 × Int32 × CS × CS × Int32 × Int32 × Nat × Nat × RowR × RowR × RowR) :=
  ((mL_below N (p3 >>> ((3 : Int32) &&& 31)) (wI * hI)).bind fun x12 =>
  (if wI = 0 then none else
  (if bad (x12 / wI) Hn then none else
  (if wI = 0 then none else
  ((mL_below N p3 (14 : Int32)).bind fun x40 =>
  (if x40 = 0 then
  ((mL_below N (p3 >>> ((4 : Int32) &&& 31)) (4 : Int32)).bind fun x92 =>
  (if x92 ≤ 0 then
  ((mL_below N (p3 >>> ((6 : Int32) &&& 31)) (5 : Int32)).bind fun x107 =>
  ((mL_below N (p3 >>> ((9 : Int32) &&& 31)) (5 : Int32)).bind fun x121 =>
  (if ¬ ((2 : Int32) + x107) < 0 ∧ ¬ ((2 : Int32) + x121) < 0 ∧ ((2 : Int32) + x107).toNatClampNeg ≤ 6 ∧ ((2 : Int32) + x121).toNatClampNeg ≤ 6 then
  ((mX4_setFloor N fr st co ro cA cD ((2 : Int32) + x107) ((2 : Int32) + x121)).bind fun x185 => Sum.elim (fun k => none) (fun y185 =>
  (if y185.1 = (((2 : Int32) + x107) * ((2 : Int32) + x121)) then
  some ((1 : Int32), y185.2.1, y185.2.2.1, y185.2.2.2.1, y185.2.2.2.2.1, y185.2.2.2.2.2.1, y185.2.2.2.2.2.2, ((2 : Int32) + x107), ((2 : Int32) + x121), ((2 : Int32) + x107).toNatClampNeg, ((2 : Int32) + x121).toNatClampNeg, (fun _ _ => 0), (fun _ _ => 0), (fun _ _ => 0))
  else
  some ((0 : Int32), y185.2.1, y185.2.2.1, y185.2.2.2.1, y185.2.2.2.2.1, y185.2.2.2.2.2.1, y185.2.2.2.2.2.2, ((2 : Int32) + x107), ((2 : Int32) + x121), ((2 : Int32) + x107).toNatClampNeg, ((2 : Int32) + x121).toNatClampNeg, (fun _ _ => 0), (fun _ _ => 0), (fun _ _ => 0)))) x185)
  else none)))
  else
  some ((1 : Int32), fr, st, co, ro, cA, cD, wI, hI, Wn, Hn, gS, gA, gD)))
  else (if x40 = 1 then
  (if bad (x12 - x12 / wI * wI) Wn then none else
  (if 0 ≤ (gS ((x12 / wI).toNatClampNeg) (x12 - x12 / wI * wI).toNatClampNeg) then
  (if bad (x12 - x12 / wI * wI) Wn then none else
  ((mX4_pillar N fr st co ro cA cD x12).bind fun x226 => Sum.elim (fun k => none) (fun y226 =>
  (if bad (x12 - x12 / wI * wI) Wn then none else
  (if 0 ≤ ((updR gS ((x12 / wI).toNatClampNeg) (upd (gS ((x12 / wI).toNatClampNeg)) (x12 - x12 / wI * wI).toNatClampNeg (-1 : Int32))) ((x12 / wI).toNatClampNeg) (x12 - x12 / wI * wI).toNatClampNeg) then
  (mL_act_242 N co ro wI hI Wn Hn gA gD (0 : Int32) y226.1 y226.2.1 y226.2.2.1 y226.2.2.2.1 y226.2.2.2.2 (updR gS ((x12 / wI).toNatClampNeg) (upd (gS ((x12 / wI).toNatClampNeg)) (x12 - x12 / wI * wI).toNatClampNeg (-1 : Int32))))
  else
  (mL_act_242 N co ro wI hI Wn Hn gA gD (1 : Int32) y226.1 y226.2.1 y226.2.2.1 y226.2.2.2.1 y226.2.2.2.2 (updR gS ((x12 / wI).toNatClampNeg) (upd (gS ((x12 / wI).toNatClampNeg)) (x12 - x12 / wI * wI).toNatClampNeg (-1 : Int32))))))) x226))
  else
  (if bad (x12 - x12 / wI * wI) Wn then none else
  ((mX4_pillar N fr st co ro cA cD x12).bind fun x226 => Sum.elim (fun k => none) (fun y226 =>
  (if bad (x12 - x12 / wI * wI) Wn then none else
  (if 0 ≤ ((updR gS ((x12 / wI).toNatClampNeg) (upd (gS ((x12 / wI).toNatClampNeg)) (x12 - x12 / wI * wI).toNatClampNeg (0 : Int32))) ((x12 / wI).toNatClampNeg) (x12 - x12 / wI * wI).toNatClampNeg) then
  (mL_act_242 N co ro wI hI Wn Hn gA gD (0 : Int32) y226.1 y226.2.1 y226.2.2.1 y226.2.2.2.1 y226.2.2.2.2 (updR gS ((x12 / wI).toNatClampNeg) (upd (gS ((x12 / wI).toNatClampNeg)) (x12 - x12 / wI * wI).toNatClampNeg (0 : Int32))))
  else
  (mL_act_242 N co ro wI hI Wn Hn gA gD (1 : Int32) y226.1 y226.2.1 y226.2.2.1 y226.2.2.2.1 y226.2.2.2.2 (updR gS ((x12 / wI).toNatClampNeg) (upd (gS ((x12 / wI).toNatClampNeg)) (x12 - x12 / wI * wI).toNatClampNeg (0 : Int32))))))) x226))))
  else (if x40 = 2 then
  (if bad (x12 - x12 / wI * wI) Wn then none else
  (if 0 ≤ (gS ((x12 / wI).toNatClampNeg) (x12 - x12 / wI * wI).toNatClampNeg) then
  (if bad (x12 - x12 / wI * wI) Wn then none else
  ((mX4_pillar N fr st co ro cA cD x12).bind fun x226 => Sum.elim (fun k => none) (fun y226 =>
  (if bad (x12 - x12 / wI * wI) Wn then none else
  (if 0 ≤ ((updR gS ((x12 / wI).toNatClampNeg) (upd (gS ((x12 / wI).toNatClampNeg)) (x12 - x12 / wI * wI).toNatClampNeg (-1 : Int32))) ((x12 / wI).toNatClampNeg) (x12 - x12 / wI * wI).toNatClampNeg) then
  (mL_act_242 N co ro wI hI Wn Hn gA gD (0 : Int32) y226.1 y226.2.1 y226.2.2.1 y226.2.2.2.1 y226.2.2.2.2 (updR gS ((x12 / wI).toNatClampNeg) (upd (gS ((x12 / wI).toNatClampNeg)) (x12 - x12 / wI * wI).toNatClampNeg (-1 : Int32))))
  else
  (mL_act_242 N co ro wI hI Wn Hn gA gD (1 : Int32) y226.1 y226.2.1 y226.2.2.1 y226.2.2.2.1 y226.2.2.2.2 (updR gS ((x12 / wI).toNatClampNeg) (upd (gS ((x12 / wI).toNatClampNeg)) (x12 - x12 / wI * wI).toNatClampNeg (-1 : Int32))))))) x226))
  else
  (if bad (x12 - x12 / wI * wI) Wn then none else
  ((mX4_pillar N fr st co ro cA cD x12).bind fun x226 => Sum.elim (fun k => none) (fun y226 =>
  (if bad (x12 - x12 / wI * wI) Wn then none else
  (if 0 ≤ ((updR gS ((x12 / wI).toNatClampNeg) (upd (gS ((x12 / wI).toNatClampNeg)) (x12 - x12 / wI * wI).toNatClampNeg (0 : Int32))) ((x12 / wI).toNatClampNeg) (x12 - x12 / wI * wI).toNatClampNeg) then
  (mL_act_242 N co ro wI hI Wn Hn gA gD (0 : Int32) y226.1 y226.2.1 y226.2.2.1 y226.2.2.2.1 y226.2.2.2.2 (updR gS ((x12 / wI).toNatClampNeg) (upd (gS ((x12 / wI).toNatClampNeg)) (x12 - x12 / wI * wI).toNatClampNeg (0 : Int32))))
  else
  (mL_act_242 N co ro wI hI Wn Hn gA gD (1 : Int32) y226.1 y226.2.1 y226.2.2.1 y226.2.2.2.1 y226.2.2.2.2 (updR gS ((x12 / wI).toNatClampNeg) (upd (gS ((x12 / wI).toNatClampNeg)) (x12 - x12 / wI * wI).toNatClampNeg (0 : Int32))))))) x226))))
  else (if x40 = 3 then
  (if bad (x12 - x12 / wI * wI) Wn then none else
  (if 0 ≤ (gS ((x12 / wI).toNatClampNeg) (x12 - x12 / wI * wI).toNatClampNeg) then
  (if bad (x12 - x12 / wI * wI) Wn then none else
  ((mX4_pillar N fr st co ro cA cD x12).bind fun x226 => Sum.elim (fun k => none) (fun y226 =>
  (if bad (x12 - x12 / wI * wI) Wn then none else
  (if 0 ≤ ((updR gS ((x12 / wI).toNatClampNeg) (upd (gS ((x12 / wI).toNatClampNeg)) (x12 - x12 / wI * wI).toNatClampNeg (-1 : Int32))) ((x12 / wI).toNatClampNeg) (x12 - x12 / wI * wI).toNatClampNeg) then
  (mL_act_242 N co ro wI hI Wn Hn gA gD (0 : Int32) y226.1 y226.2.1 y226.2.2.1 y226.2.2.2.1 y226.2.2.2.2 (updR gS ((x12 / wI).toNatClampNeg) (upd (gS ((x12 / wI).toNatClampNeg)) (x12 - x12 / wI * wI).toNatClampNeg (-1 : Int32))))
  else
  (mL_act_242 N co ro wI hI Wn Hn gA gD (1 : Int32) y226.1 y226.2.1 y226.2.2.1 y226.2.2.2.1 y226.2.2.2.2 (updR gS ((x12 / wI).toNatClampNeg) (upd (gS ((x12 / wI).toNatClampNeg)) (x12 - x12 / wI * wI).toNatClampNeg (-1 : Int32))))))) x226))
  else
  (if bad (x12 - x12 / wI * wI) Wn then none else
  ((mX4_pillar N fr st co ro cA cD x12).bind fun x226 => Sum.elim (fun k => none) (fun y226 =>
  (if bad (x12 - x12 / wI * wI) Wn then none else
  (if 0 ≤ ((updR gS ((x12 / wI).toNatClampNeg) (upd (gS ((x12 / wI).toNatClampNeg)) (x12 - x12 / wI * wI).toNatClampNeg (0 : Int32))) ((x12 / wI).toNatClampNeg) (x12 - x12 / wI * wI).toNatClampNeg) then
  (mL_act_242 N co ro wI hI Wn Hn gA gD (0 : Int32) y226.1 y226.2.1 y226.2.2.1 y226.2.2.2.1 y226.2.2.2.2 (updR gS ((x12 / wI).toNatClampNeg) (upd (gS ((x12 / wI).toNatClampNeg)) (x12 - x12 / wI * wI).toNatClampNeg (0 : Int32))))
  else
  (mL_act_242 N co ro wI hI Wn Hn gA gD (1 : Int32) y226.1 y226.2.1 y226.2.2.1 y226.2.2.2.1 y226.2.2.2.2 (updR gS ((x12 / wI).toNatClampNeg) (upd (gS ((x12 / wI).toNatClampNeg)) (x12 - x12 / wI * wI).toNatClampNeg (0 : Int32))))))) x226))))
  else (if x40 = 4 then
  ((mL_below N (p3 >>> ((7 : Int32) &&& 31)) (2 : Int32)).bind fun x256 =>
  (if x256 = 0 then
  (mL_act_267 N fr st co ro cA cD wI hI Wn Hn gS gA gD p3 x12 ((x12 / wI).toNatClampNeg) (x12 - x12 / wI * wI) (1 : Int32))
  else
  (mL_act_267 N fr st co ro cA cD wI hI Wn Hn gS gA gD p3 x12 ((x12 / wI).toNatClampNeg) (x12 - x12 / wI * wI) (0 : Int32))))
  else (if x40 = 5 then
  ((mL_below N (p3 >>> ((7 : Int32) &&& 31)) (2 : Int32)).bind fun x256 =>
  (if x256 = 0 then
  (mL_act_267 N fr st co ro cA cD wI hI Wn Hn gS gA gD p3 x12 ((x12 / wI).toNatClampNeg) (x12 - x12 / wI * wI) (1 : Int32))
  else
  (mL_act_267 N fr st co ro cA cD wI hI Wn Hn gS gA gD p3 x12 ((x12 / wI).toNatClampNeg) (x12 - x12 / wI * wI) (0 : Int32))))
  else (if x40 = 6 then
  ((mL_below N (p3 >>> ((7 : Int32) &&& 31)) (2 : Int32)).bind fun x256 =>
  (if x256 = 0 then
  (mL_act_267 N fr st co ro cA cD wI hI Wn Hn gS gA gD p3 x12 ((x12 / wI).toNatClampNeg) (x12 - x12 / wI * wI) (1 : Int32))
  else
  (mL_act_267 N fr st co ro cA cD wI hI Wn Hn gS gA gD p3 x12 ((x12 / wI).toNatClampNeg) (x12 - x12 / wI * wI) (0 : Int32))))
  else (if x40 = 7 then
  ((mL_below N (p3 >>> ((7 : Int32) &&& 31)) (2 : Int32)).bind fun x256 =>
  (if x256 = 0 then
  (mL_act_267 N fr st co ro cA cD wI hI Wn Hn gS gA gD p3 x12 ((x12 / wI).toNatClampNeg) (x12 - x12 / wI * wI) (1 : Int32))
  else
  (mL_act_267 N fr st co ro cA cD wI hI Wn Hn gS gA gD p3 x12 ((x12 / wI).toNatClampNeg) (x12 - x12 / wI * wI) (0 : Int32))))
  else ((mL_below N (p3 >>> ((6 : Int32) &&& 31)) (10 : Int32)).bind fun x487 =>
  (mL_act_495 N fr st co ro cA cD wI hI Wn Hn gA gD p3 10 x12 ((x12 / wI).toNatClampNeg) (x12 - x12 / wI * wI) x487 (0 : Int32) gS)))))))))))))))
abbrev rmL_act : Room := { frames := 16, cells := 1982, slots := 12992, locals := 381 }
set_option maxHeartbeats 4000000 in
set_option maxRecDepth 100000 in
theorem kL_act_c572 {p : Program} {l : Launch} {D : va_G} {cI cJ cB cM : ClassId} (hlt : l.stackTraces = false) (N : Nat) (a : Nat → Nat) (c : Nat → Nat) (r : Nat → Nat → Nat) {ho : RowI} {ke : RowI} {hc : Int32} {tr : Int32} {fo : Int32} {fr : Int32} {st : RowI} {co : Int32} {ro : Int32} {cA : CS} {cD : CS} {su : RowJ} {jA : JT} {jD : JT} {wI : Int32} {hI : Int32} {Wn : Nat} {Hn : Nat} {gS : RowR} {gA : RowR} {gD : RowR} {p3 : Int32} {o : (Int32 × Int32 × RowI × Int32 × Int32 × CS × CS × Int32 × Int32 × Nat × Nat × RowR × RowR × RowR)} (sz : Nat) {e : Env} {s : State} {m : MethodId} {args : Array Value} {below : List Frame} {meth : Method} {c0 : Code} {Q : State → Prop} {A : Nat → Prop} (hQ : Q = MQ below (va_Qi (fun (r0 : Int32) (u : JT × JT × (Nat → Nat) × (Nat → Nat → Nat)) => r0 = o.1 ∧ bz r0 ∧ u.2.2.1 0 = c 0) (aft D ((xw a cI cJ ho ke hc tr fo fr st co ro cA cD su jA jD ++ (z4 c cM wI hI Hn r)) ++ (zpl cI Wn Hn r gS gA gD)) sz (fun (u : JT × JT × (Nat → Nat) × (Nat → Nat → Nat)) => ((xw a cI cJ ho ke hc tr fo o.2.1 o.2.2.1 o.2.2.2.1 o.2.2.2.2.1 o.2.2.2.2.2.1 o.2.2.2.2.2.2.1 su jA jD ++ (z4 u.2.2.1 cM o.2.2.2.2.2.2.2.1 o.2.2.2.2.2.2.2.2.1 o.2.2.2.2.2.2.2.2.2.2.1 u.2.2.2)) ++ (zpl cI o.2.2.2.2.2.2.2.2.2.1 o.2.2.2.2.2.2.2.2.2.2.1 u.2.2.2 o.2.2.2.2.2.2.2.2.2.2.2.1 o.2.2.2.2.2.2.2.2.2.2.2.2.1 o.2.2.2.2.2.2.2.2.2.2.2.2.2)))) (va_A ((xw a cI cJ ho ke hc tr fo fr st co ro cA cD su jA jD ++ (z4 c cM wI hI Hn r)) ++ (zpl cI Wn Hn r gS gA gD)) sz)) args s 1982 12992 (va_A ((xw a cI cJ ho ke hc tr fo fr st co ro cA cD su jA jD ++ (z4 c cM wI hI Hn r)) ++ (zpl cI Wn Hn r gS gA gD)) sz)) (hAe : A = (va_A ((xw a cI cJ ho ke hc tr fo fr st co ro cA cD su jA jD ++ (z4 c cM wI hI Hn r)) ++ (zpl cI Wn Hn r gS gA gD)) sz)) (hx : p.tables.exec = Jvm.exec) (hb : c0.code = cL_act) (hr : meth.sig.returnType = (some .boolean)) (hml : c0.maxLocals = 12) (hown : s.vm.findClass RL = some m.cls) (hts : ∀ w ∈ wsL_act, w.before args s = true) (hlocks : meth.locks = false) (htab : c0.exceptionTable.toList = tableOf [(572, 594, 595, 58)]) (hTX : TX A s s.heap) (hN : NZ s) (hK : va_K D vwCl (tysZ cI cJ cB cM) s) (hA : ∀ q : Nat, s.heap.size ≤ q → A q) (iX5 : ∀ w ∈ wsX50, w ∈ wsL_act) (f15 : (Cond.fieldLink RL 15 "CryptSumsLaw$Sim" "h" "I").before args s = true) (f24 : (Cond.fieldLink RL 24 "CryptSumsLaw$Sim" "stones" "[[I").before args s = true) (f29 : (Cond.fieldLink RL 29 "CryptSumsLaw$Sim" "across" "[[I").before args s = true) (f32 : (Cond.fieldLink RL 32 "CryptSumsLaw$Sim" "down" "[[I").before args s = true) (f9 : (Cond.fieldLink RL 9 "CryptSumsLaw$Sim" "w" "I").before args s = true) : ∀ (v3 : Int32) (v6 : Int32) (v7 : Int32) (gS' : RowR), mL_act_572 N fr st co ro cA cD wI hI Wn Hn gA gD v3 v6 v7 gS' = some o → ∀ (kc ks : Nat), kc + (2) ≤ 1982 → ks + (12) ≤ 12992 → ∀ (Hq : Heap) (locs : List Loc) (ls : Array Slot), va_P D vwCl ((xw a cI cJ ho ke hc tr fo fr st co ro cA cD su jA jD ++ (z4 c cM wI hI Hn r)) ++ (zpl cI Wn Hn r gS' gA gD)) Hq → va_D A ((xw a cI cJ ho ke hc tr fo fr st co ro cA cD su jA jD ++ (z4 c cM wI hI Hn r)) ++ (zpl cI Wn Hn r gS' gA gD)) → va_S A s.heap Hq locs → lv_has ls 12 [(0, .ref (a 15)), (3, .int v3), (6, .int v6), (7, .int v7)] → W p l e rmL_act s m args below meth c0 Hq locs kc ks Q (F0 m 572 ls []) := by
  intro v3 v6 v7 gS' hM kc ks hkc hks Hq locs ls hP hD hS hl
  rw [mL_act_572] at hM
  refine lv_aload_n hx hb dL_act_572 rfl (lv_at hl 0 rfl) ?_
  refine lv_iload_n hx hb dL_act_573 rfl (lv_at hl 1 rfl) ?_
  refine lv_iload hx hb dL_act_574 (lv_at hl 2 rfl) ?_
  obtain ⟨x576, hC, hM⟩ := bd_s hM
  refine cTQ_i [0, 1, 2, 3, 4, 5, 6, 7, 8, 9, 10, 11, 12, 13, 14, 15] [16, 17, 18, 19] (vx_runV (As := [.int v3, .int v6]) (rest := []) ⟨hx, hb, hml, hown, hts⟩ (kX4_put (l := l) (D := D) (cI := cI) (cJ := cJ) hlt N a (ho := ho) (ke := ke) (hc := hc) (tr := tr) (fo := fo) (fr := fr) (st := st) (co := co) (ro := ro) (cA := cA) (cD := cD) (su := su) (jA := jA) (jD := jD) (p1 := v3) (p2 := v6) hC Hq.size) (cwV 2 hts gL_act_X4_put rfl rfl rfl (by decide +kernel) ⟨Nat.le_of_ble_eq_true rfl, Nat.le_of_ble_eq_true rfl⟩) (preVT [.int v3, .int v6] hTX hS (freeQ (cx := (xw a cI cJ ho ke hc tr fo fr st co ro cA cD su jA jD)) hD hS hA [0, 1, 2, 3, 4, 5, 6, 7, 8, 9, 10, 11, 12, 13, 14, 15] rfl) hN.1 (KX hK) (subQ (cx := (xw a cI cJ ho ke hc tr fo fr st co ro cA cD su jA jD)) hP [0, 1, 2, 3, 4, 5, 6, 7, 8, 9, 10, 11, 12, 13, 14, 15] rfl) (subQD (cx := (xw a cI cJ ho ke hc tr fo fr st co ro cA cD su jA jD)) hD [0, 1, 2, 3, 4, 5, 6, 7, 8, 9, 10, 11, 12, 13, 14, 15] (by decide) rfl) (ci := 4) (q0 := 3) rfl rfl) rfl rfl hl.1 rfl (lv_room (Nat.le_of_ble_eq_true rfl)) dL_act_576 ⟨by show _ + 2 ≤ 1982; omega, by show _ + 12 ≤ 12992; omega⟩) hP hD hS hA rfl (wr := (z4 c cM wI hI Hn r)) rfl (by decide) (by decide) (fun E ce q9 Hq locs hE hP hD hS h1 h2 h3 => ?_) (fun r0 u576 Hq locs hw hP hD hS => ?_)
  · obtain ⟨k, hk, hE⟩ := hE
    subst hk
    dsimp only [Sum.elim] at hM
    by_cases hk3 : k = 3
    · replace hM := it_p hk3 hM
      subst hk3
      replace hE : E = xIS := hE
      subst hE
      replace hP : va_P D vwCl ((xw a cI cJ ho ke hc tr fo fr st co ro cA cD su jA jD ++ (z4 c cM wI hI Hn r)) ++ (zpl cI Wn Hn r gS' gA gD)) Hq := va_P.part (cx := (xw a cI cJ ho ke hc tr fo fr st co ro cA cD su jA jD ++ (z4 c cM wI hI Hn r))) (pl := (zpl cI Wn Hn r gS' gA gD)) hP [4, 5, 6, 7, 8, 9, 10, 11, 12, 13, 14, 15, 16, 17, 18, 19, 0, 1, 2, 3] rfl
      replace hD : va_D A ((xw a cI cJ ho ke hc tr fo fr st co ro cA cD su jA jD ++ (z4 c cM wI hI Hn r)) ++ (zpl cI Wn Hn r gS' gA gD)) := va_D.part (cx := (xw a cI cJ ho ke hc tr fo fr st co ro cA cD su jA jD ++ (z4 c cM wI hI Hn r))) (pl := (zpl cI Wn Hn r gS' gA gD)) hD [4, 5, 6, 7, 8, 9, 10, 11, 12, 13, 14, 15, 16, 17, 18, 19, 0, 1, 2, 3] (by decide) rfl
      refine catch1 (cls := xIS) (Ts := wsL_act) [] (572, 594, 595, 58) [] hown htab hts hTX (fun z hz => absurd hz List.not_mem_nil) (by decide) (by decide) (by decide +kernel) (by decide +kernel) h1 h2 h3 ?_
      refine W.eq (g2 := F0 m 595 ls [.ref q9]) rfl ?_
      refine W.widen (k := kc + 2) (n := ks + 12) (by omega) (by omega) ?_
      refine lv_astore (lv' := [(8, .ref q9), (0, .ref (a 15)), (3, .int v3), (6, .int v6), (7, .int v7)]) hx hb dL_act_595 hl (by decide) rfl (fun ls hl => ?_)
      refine lv_iload hx hb dL_act_597 (lv_at hl 4 rfl) ?_
      refine lv_if_ge (tgt := 606) hx hb dL_act_599 (by decide) (fun hcc => ?_) (fun hcc => ?_)
      · replace hM := it_p hcc hM
        refine lv_iconst (v := 0) hx hb dL_act_606 (by decide) ?_
        obtain rfl := Option.some.inj hM
        refine W.widen (k := 1982) (n := 12992) (by omega) (by omega) ?_
        subst hQ hAe
        exact W.zret (ty := .boolean) (v := (0 : Int32)) hx hb hr (nb_z (Or.inl rfl)) (fun t ht hW => ⟨⟨(0 : Int32), (jA, jD, c, r), rfl, ⟨rfl, Or.inl rfl, rfl⟩, ⟨by rw [ht]; exact hP, hD⟩⟩, hS.F ht⟩) hS.2.2 dL_act_607
      · replace hM := it_n hcc hM
        refine lv_iconst (v := 1) hx hb dL_act_602 (by decide) ?_
        refine lv_goto (tgt := 607) hx hb dL_act_603 (by decide) ?_
        obtain rfl := Option.some.inj hM
        refine W.widen (k := 1982) (n := 12992) (by omega) (by omega) ?_
        subst hQ hAe
        exact W.zret (ty := .boolean) (v := (1 : Int32)) hx hb hr (nb_z (Or.inr rfl)) (fun t ht hW => ⟨⟨(1 : Int32), (jA, jD, c, r), rfl, ⟨rfl, Or.inr rfl, rfl⟩, ⟨by rw [ht]; exact hP, hD⟩⟩, hS.F ht⟩) hS.2.2 dL_act_607
    · replace hM := it_n hk3 hM
      cases hM
  obtain ⟨hxx, hw⟩ := hw
  subst hxx
  dsimp only [Sum.elim] at hM
  replace hP : va_P D vwCl ((xw a cI cJ ho ke hc tr fo u576.1.2.1 u576.1.2.2 co ro cA cD su jA jD ++ (z4 c cM wI hI Hn r)) ++ (zpl cI Wn Hn r gS' gA gD)) Hq := va_P.part (cx := (xw a cI cJ ho ke hc tr fo u576.1.2.1 u576.1.2.2 co ro cA cD su jA jD ++ (z4 c cM wI hI Hn r))) (pl := (zpl cI Wn Hn r gS' gA gD)) hP [4, 5, 6, 7, 8, 9, 10, 11, 12, 13, 14, 15, 16, 17, 18, 19, 0, 1, 2, 3] rfl
  replace hD : va_D A ((xw a cI cJ ho ke hc tr fo u576.1.2.1 u576.1.2.2 co ro cA cD su jA jD ++ (z4 c cM wI hI Hn r)) ++ (zpl cI Wn Hn r gS' gA gD)) := va_D.part (cx := (xw a cI cJ ho ke hc tr fo u576.1.2.1 u576.1.2.2 co ro cA cD su jA jD ++ (z4 c cM wI hI Hn r))) (pl := (zpl cI Wn Hn r gS' gA gD)) hD [4, 5, 6, 7, 8, 9, 10, 11, 12, 13, 14, 15, 16, 17, 18, 19, 0, 1, 2, 3] (by decide) rfl
  rw [hw]
  refine W.widen (k := kc + 2) (n := ks + 12) (by omega) (by omega) ?_
  refine lv_iload hx hb dL_act_579 (lv_at hl 3 rfl) ?_
  refine lv_icmp_ne (tgt := 593) hx hb dL_act_581 (by decide) (fun hcc => ?_) (fun hcc => ?_)
  · replace hM := it_n hcc hM
    refine lv_iconst (v := 0) hx hb dL_act_593 (by decide) ?_
    obtain rfl := Option.some.inj hM
    refine W.widen (k := 1982) (n := 12992) (by omega) (by omega) ?_
    subst hQ hAe
    exact W.zret (ty := .boolean) (v := (0 : Int32)) hx hb hr (nb_z (Or.inl rfl)) (fun t ht hW => ⟨⟨(0 : Int32), (jA, jD, c, r), rfl, ⟨rfl, Or.inl rfl, rfl⟩, ⟨by rw [ht]; exact hP, hD⟩⟩, hS.F ht⟩) hS.2.2 dL_act_594
  · replace hM := it_p hcc hM
    refine lv_iload hx hb dL_act_584 (lv_at hl 3 rfl) ?_
    refine lv_if_lt (tgt := 593) hx hb dL_act_586 (by decide) (fun hcc => ?_) (fun hcc => ?_)
    · replace hM := it_p hcc hM
      refine lv_iconst (v := 0) hx hb dL_act_593 (by decide) ?_
      obtain rfl := Option.some.inj hM
      refine W.widen (k := 1982) (n := 12992) (by omega) (by omega) ?_
      subst hQ hAe
      exact W.zret (ty := .boolean) (v := (0 : Int32)) hx hb hr (nb_z (Or.inl rfl)) (fun t ht hW => ⟨⟨(0 : Int32), (jA, jD, c, r), rfl, ⟨rfl, Or.inl rfl, rfl⟩, ⟨by rw [ht]; exact hP, hD⟩⟩, hS.F ht⟩) hS.2.2 dL_act_594
    · replace hM := it_n hcc hM
      refine lv_iconst (v := 1) hx hb dL_act_589 (by decide) ?_
      refine lv_goto (tgt := 594) hx hb dL_act_590 (by decide) ?_
      obtain rfl := Option.some.inj hM
      refine W.widen (k := 1982) (n := 12992) (by omega) (by omega) ?_
      subst hQ hAe
      exact W.zret (ty := .boolean) (v := (1 : Int32)) hx hb hr (nb_z (Or.inr rfl)) (fun t ht hW => ⟨⟨(1 : Int32), (jA, jD, c, r), rfl, ⟨rfl, Or.inr rfl, rfl⟩, ⟨by rw [ht]; exact hP, hD⟩⟩, hS.F ht⟩) hS.2.2 dL_act_594
set_option maxHeartbeats 4000000 in
set_option maxRecDepth 100000 in
theorem kL_act_c553 {p : Program} {l : Launch} {D : va_G} {cI cJ cB cM : ClassId} (hlt : l.stackTraces = false) (N : Nat) (a : Nat → Nat) (c : Nat → Nat) (r : Nat → Nat → Nat) {ho : RowI} {ke : RowI} {hc : Int32} {tr : Int32} {fo : Int32} {fr : Int32} {st : RowI} {co : Int32} {ro : Int32} {cA : CS} {cD : CS} {su : RowJ} {jA : JT} {jD : JT} {wI : Int32} {hI : Int32} {Wn : Nat} {Hn : Nat} {gS : RowR} {gA : RowR} {gD : RowR} {p3 : Int32} {o : (Int32 × Int32 × RowI × Int32 × Int32 × CS × CS × Int32 × Int32 × Nat × Nat × RowR × RowR × RowR)} (sz : Nat) {e : Env} {s : State} {m : MethodId} {args : Array Value} {below : List Frame} {meth : Method} {c0 : Code} {Q : State → Prop} {A : Nat → Prop} (hQ : Q = MQ below (va_Qi (fun (r0 : Int32) (u : JT × JT × (Nat → Nat) × (Nat → Nat → Nat)) => r0 = o.1 ∧ bz r0 ∧ u.2.2.1 0 = c 0) (aft D ((xw a cI cJ ho ke hc tr fo fr st co ro cA cD su jA jD ++ (z4 c cM wI hI Hn r)) ++ (zpl cI Wn Hn r gS gA gD)) sz (fun (u : JT × JT × (Nat → Nat) × (Nat → Nat → Nat)) => ((xw a cI cJ ho ke hc tr fo o.2.1 o.2.2.1 o.2.2.2.1 o.2.2.2.2.1 o.2.2.2.2.2.1 o.2.2.2.2.2.2.1 su jA jD ++ (z4 u.2.2.1 cM o.2.2.2.2.2.2.2.1 o.2.2.2.2.2.2.2.2.1 o.2.2.2.2.2.2.2.2.2.2.1 u.2.2.2)) ++ (zpl cI o.2.2.2.2.2.2.2.2.2.1 o.2.2.2.2.2.2.2.2.2.2.1 u.2.2.2 o.2.2.2.2.2.2.2.2.2.2.2.1 o.2.2.2.2.2.2.2.2.2.2.2.2.1 o.2.2.2.2.2.2.2.2.2.2.2.2.2)))) (va_A ((xw a cI cJ ho ke hc tr fo fr st co ro cA cD su jA jD ++ (z4 c cM wI hI Hn r)) ++ (zpl cI Wn Hn r gS gA gD)) sz)) args s 1982 12992 (va_A ((xw a cI cJ ho ke hc tr fo fr st co ro cA cD su jA jD ++ (z4 c cM wI hI Hn r)) ++ (zpl cI Wn Hn r gS gA gD)) sz)) (hAe : A = (va_A ((xw a cI cJ ho ke hc tr fo fr st co ro cA cD su jA jD ++ (z4 c cM wI hI Hn r)) ++ (zpl cI Wn Hn r gS gA gD)) sz)) (hx : p.tables.exec = Jvm.exec) (hb : c0.code = cL_act) (hr : meth.sig.returnType = (some .boolean)) (hml : c0.maxLocals = 12) (hown : s.vm.findClass RL = some m.cls) (hts : ∀ w ∈ wsL_act, w.before args s = true) (hlocks : meth.locks = false) (htab : c0.exceptionTable.toList = tableOf [(572, 594, 595, 58)]) (hTX : TX A s s.heap) (hN : NZ s) (hK : va_K D vwCl (tysZ cI cJ cB cM) s) (hA : ∀ q : Nat, s.heap.size ≤ q → A q) (iX5 : ∀ w ∈ wsX50, w ∈ wsL_act) (f15 : (Cond.fieldLink RL 15 "CryptSumsLaw$Sim" "h" "I").before args s = true) (f24 : (Cond.fieldLink RL 24 "CryptSumsLaw$Sim" "stones" "[[I").before args s = true) (f29 : (Cond.fieldLink RL 29 "CryptSumsLaw$Sim" "across" "[[I").before args s = true) (f32 : (Cond.fieldLink RL 32 "CryptSumsLaw$Sim" "down" "[[I").before args s = true) (f9 : (Cond.fieldLink RL 9 "CryptSumsLaw$Sim" "w" "I").before args s = true) : ∀ (v3 : Int32) (i4 : Nat) (v5 : Int32) (v6 : Int32) (gS' : RowR), mL_act_553 N fr st co ro cA cD wI hI Wn Hn gA gD v3 i4 v5 v6 gS' = some o → i4 < Hn → ∀ (kc ks : Nat), kc + (2) ≤ 1982 → ks + (12) ≤ 12992 → ∀ (Hq : Heap) (locs : List Loc) (ls : Array Slot), va_P D vwCl ((xw a cI cJ ho ke hc tr fo fr st co ro cA cD su jA jD ++ (z4 c cM wI hI Hn r)) ++ (zpl cI Wn Hn r gS' gA gD)) Hq → va_D A ((xw a cI cJ ho ke hc tr fo fr st co ro cA cD su jA jD ++ (z4 c cM wI hI Hn r)) ++ (zpl cI Wn Hn r gS' gA gD)) → va_S A s.heap Hq locs → lv_has ls 12 [(0, .ref (a 15)), (3, .int v3), (4, .ref (r 0 i4)), (5, .int v5), (6, .int v6)] → W p l e rmL_act s m args below meth c0 Hq locs kc ks Q (F0 m 553 ls []) := by
  have c572 := kL_act_c572 (p := p) (l := l) (D := D) (cI := cI) (cJ := cJ) (cB := cB) (cM := cM) (hlt := hlt) (N := N) (a := a) (c := c) (r := r) (ho := ho) (ke := ke) (hc := hc) (tr := tr) (fo := fo) (fr := fr) (st := st) (co := co) (ro := ro) (cA := cA) (cD := cD) (su := su) (jA := jA) (jD := jD) (wI := wI) (hI := hI) (Wn := Wn) (Hn := Hn) (gS := gS) (gA := gA) (gD := gD) (p3 := p3) (o := o) (sz := sz) (e := e) (s := s) (m := m) (args := args) (below := below) (meth := meth) (c0 := c0) (Q := Q) (A := A) (hQ := hQ) (hAe := hAe) (hx := hx) (hb := hb) (hr := hr) (hml := hml) (hown := hown) (hts := hts) (hlocks := hlocks) (htab := htab) (hTX := hTX) (hN := hN) (hK := hK) (hA := hA) (iX5 := iX5) (f15 := f15) (f24 := f24) (f29 := f29) (f32 := f32) (f9 := f9)
  intro v3 i4 v5 v6 gS' hM hr4 kc ks hkc hks Hq locs ls hP hD hS hl
  rw [mL_act_553] at hM
  refine lv_aload hx hb dL_act_553 (lv_at hl 2 rfl) ?_
  refine lv_iload hx hb dL_act_555 (lv_at hl 3 rfl) ?_
  obtain ⟨hb557, hM⟩ := it_x hM
  refine va_iald (D := D) hx hb hK hP _ 0 (row0 (xw a cI cJ ho ke hc tr fo fr st co ro cA cD su jA jD ++ (z4 c cM wI hI Hn r)) hr4) rfl hb557 dL_act_557 ?_
  refine lv_istore (lv' := [(7, .int (gS' i4 v5.toNatClampNeg)), (0, .ref (a 15)), (3, .int v3), (4, .ref (r 0 i4)), (5, .int v5), (6, .int v6)]) hx hb dL_act_558 hl (by decide) rfl (fun ls hl => ?_)
  refine lv_iload hx hb dL_act_560 (lv_at hl 0 rfl) ?_
  refine lv_if_lt (tgt := 572) hx hb dL_act_562 (by decide) (fun hcc => ?_) (fun hcc => ?_)
  · replace hM := it_p hcc hM
    exact c572 v3 v6 (gS' i4 v5.toNatClampNeg) gS' hM kc ks (by omega) (by omega) Hq locs ls hP hD hS (lv_sub hl [1, 2, 5, 0] rfl)
  · replace hM := it_n hcc hM
    refine lv_aload hx hb dL_act_565 (lv_at hl 3 rfl) ?_
    refine lv_iload hx hb dL_act_567 (lv_at hl 4 rfl) ?_
    refine lv_iload hx hb dL_act_569 (lv_at hl 5 rfl) ?_
    obtain ⟨hb571, hM⟩ := it_x hM
    refine va_iast (D := D) hx hb hK hP hD hS _ 0 (row0 (xw a cI cJ ho ke hc tr fo fr st co ro cA cD su jA jD ++ (z4 c cM wI hI Hn r)) hr4) rfl hb571 dL_act_571 (fun Hq locs hP hD hS => ?_)
    rw [set0 _ hr4] at hP hD
    exact c572 v3 v6 (gS' i4 v5.toNatClampNeg) (updR gS' i4 (upd (gS' i4) v5.toNatClampNeg v6)) hM kc ks (by omega) (by omega) Hq locs ls hP hD hS (lv_sub hl [1, 2, 5, 0] rfl)
set_option maxHeartbeats 4000000 in
set_option maxRecDepth 100000 in
theorem kL_act_c495 {p : Program} {l : Launch} {D : va_G} {cI cJ cB cM : ClassId} (hlt : l.stackTraces = false) (N : Nat) (a : Nat → Nat) (c : Nat → Nat) (r : Nat → Nat → Nat) {ho : RowI} {ke : RowI} {hc : Int32} {tr : Int32} {fo : Int32} {fr : Int32} {st : RowI} {co : Int32} {ro : Int32} {cA : CS} {cD : CS} {su : RowJ} {jA : JT} {jD : JT} {wI : Int32} {hI : Int32} {Wn : Nat} {Hn : Nat} {gS : RowR} {gA : RowR} {gD : RowR} {p3 : Int32} {o : (Int32 × Int32 × RowI × Int32 × Int32 × CS × CS × Int32 × Int32 × Nat × Nat × RowR × RowR × RowR)} (sz : Nat) {e : Env} {s : State} {m : MethodId} {args : Array Value} {below : List Frame} {meth : Method} {c0 : Code} {Q : State → Prop} {A : Nat → Prop} (hQ : Q = MQ below (va_Qi (fun (r0 : Int32) (u : JT × JT × (Nat → Nat) × (Nat → Nat → Nat)) => r0 = o.1 ∧ bz r0 ∧ u.2.2.1 0 = c 0) (aft D ((xw a cI cJ ho ke hc tr fo fr st co ro cA cD su jA jD ++ (z4 c cM wI hI Hn r)) ++ (zpl cI Wn Hn r gS gA gD)) sz (fun (u : JT × JT × (Nat → Nat) × (Nat → Nat → Nat)) => ((xw a cI cJ ho ke hc tr fo o.2.1 o.2.2.1 o.2.2.2.1 o.2.2.2.2.1 o.2.2.2.2.2.1 o.2.2.2.2.2.2.1 su jA jD ++ (z4 u.2.2.1 cM o.2.2.2.2.2.2.2.1 o.2.2.2.2.2.2.2.2.1 o.2.2.2.2.2.2.2.2.2.2.1 u.2.2.2)) ++ (zpl cI o.2.2.2.2.2.2.2.2.2.1 o.2.2.2.2.2.2.2.2.2.2.1 u.2.2.2 o.2.2.2.2.2.2.2.2.2.2.2.1 o.2.2.2.2.2.2.2.2.2.2.2.2.1 o.2.2.2.2.2.2.2.2.2.2.2.2.2)))) (va_A ((xw a cI cJ ho ke hc tr fo fr st co ro cA cD su jA jD ++ (z4 c cM wI hI Hn r)) ++ (zpl cI Wn Hn r gS gA gD)) sz)) args s 1982 12992 (va_A ((xw a cI cJ ho ke hc tr fo fr st co ro cA cD su jA jD ++ (z4 c cM wI hI Hn r)) ++ (zpl cI Wn Hn r gS gA gD)) sz)) (hAe : A = (va_A ((xw a cI cJ ho ke hc tr fo fr st co ro cA cD su jA jD ++ (z4 c cM wI hI Hn r)) ++ (zpl cI Wn Hn r gS gA gD)) sz)) (hx : p.tables.exec = Jvm.exec) (hb : c0.code = cL_act) (hr : meth.sig.returnType = (some .boolean)) (hml : c0.maxLocals = 12) (hown : s.vm.findClass RL = some m.cls) (hts : ∀ w ∈ wsL_act, w.before args s = true) (hlocks : meth.locks = false) (htab : c0.exceptionTable.toList = tableOf [(572, 594, 595, 58)]) (hTX : TX A s s.heap) (hN : NZ s) (hK : va_K D vwCl (tysZ cI cJ cB cM) s) (hA : ∀ q : Nat, s.heap.size ≤ q → A q) (iX5 : ∀ w ∈ wsX50, w ∈ wsL_act) (f15 : (Cond.fieldLink RL 15 "CryptSumsLaw$Sim" "h" "I").before args s = true) (f24 : (Cond.fieldLink RL 24 "CryptSumsLaw$Sim" "stones" "[[I").before args s = true) (f29 : (Cond.fieldLink RL 29 "CryptSumsLaw$Sim" "across" "[[I").before args s = true) (f32 : (Cond.fieldLink RL 32 "CryptSumsLaw$Sim" "down" "[[I").before args s = true) (f9 : (Cond.fieldLink RL 9 "CryptSumsLaw$Sim" "w" "I").before args s = true) : ∀ (n : Nat), ∀ (v3 : Int32) (i4 : Nat) (v5 : Int32) (v6 : Int32) (v7 : Int32) (gS' : RowR), mL_act_495 N fr st co ro cA cD wI hI Wn Hn gA gD p3 n v3 i4 v5 v6 v7 gS' = some o → i4 < Hn → ∀ (kc ks : Nat), kc + (n * 180 + 182) ≤ 1982 → ks + (n * 1180 + 1192) ≤ 12992 → ∀ (Hq : Heap) (locs : List Loc) (ls : Array Slot), va_P D vwCl ((xw a cI cJ ho ke hc tr fo fr st co ro cA cD su jA jD ++ (z4 c cM wI hI Hn r)) ++ (zpl cI Wn Hn r gS' gA gD)) Hq → va_D A ((xw a cI cJ ho ke hc tr fo fr st co ro cA cD su jA jD ++ (z4 c cM wI hI Hn r)) ++ (zpl cI Wn Hn r gS' gA gD)) → va_S A s.heap Hq locs → lv_has ls 12 [(0, .ref (a 15)), (1, .ref (c 0)), (2, .int p3), (3, .int v3), (4, .ref (r 0 i4)), (5, .int v5), (6, .int v6), (7, .int v7)] → W p l e rmL_act s m args below meth c0 Hq locs kc ks Q (F0 m 495 ls []) := by
  have c553 := kL_act_c553 (p := p) (l := l) (D := D) (cI := cI) (cJ := cJ) (cB := cB) (cM := cM) (hlt := hlt) (N := N) (a := a) (c := c) (r := r) (ho := ho) (ke := ke) (hc := hc) (tr := tr) (fo := fo) (fr := fr) (st := st) (co := co) (ro := ro) (cA := cA) (cD := cD) (su := su) (jA := jA) (jD := jD) (wI := wI) (hI := hI) (Wn := Wn) (Hn := Hn) (gS := gS) (gA := gA) (gD := gD) (p3 := p3) (o := o) (sz := sz) (e := e) (s := s) (m := m) (args := args) (below := below) (meth := meth) (c0 := c0) (Q := Q) (A := A) (hQ := hQ) (hAe := hAe) (hx := hx) (hb := hb) (hr := hr) (hml := hml) (hown := hown) (hts := hts) (hlocks := hlocks) (htab := htab) (hTX := hTX) (hN := hN) (hK := hK) (hA := hA) (iX5 := iX5) (f15 := f15) (f24 := f24) (f29 := f29) (f32 := f32) (f9 := f9)
  intro n
  induction n with
  | zero =>
    intro v3 i4 v5 v6 v7 gS' hM
    rw [mL_act_495] at hM
    cases hM
  | succ n ih =>
    intro v3 i4 v5 v6 v7 gS' hM hr4 kc ks hkc hks Hq locs ls hP hD hS hl
    rw [mL_act_495] at hM
    refine lv_iload hx hb dL_act_495 (lv_at hl 7 rfl) ?_
    refine lv_bipush (v := 9) hx hb dL_act_497 (by decide) ?_
    refine lv_icmp_ge (tgt := 553) hx hb dL_act_499 (by decide) (fun hcc => ?_) (fun hcc => ?_)
    · replace hM := it_p hcc hM
      exact c553 v3 i4 v5 v6 gS' hM hr4 kc ks (by omega) (by omega) Hq locs ls hP hD hS (lv_sub hl [0, 3, 4, 5, 6] rfl)
    · replace hM := it_n hcc hM
      refine lv_iload_n hx hb dL_act_502 rfl (lv_at hl 2 rfl) ?_
      refine lv_bipush (v := 8) hx hb dL_act_503 (by decide) ?_
      refine lv_ishr hx hb dL_act_505 ?_
      refine lv_iconst (v := 4) hx hb dL_act_506 (by decide) ?_
      obtain ⟨x507, hC, hM⟩ := bd_s hM
      refine cR_i (va_runS (As := [.int (p3 >>> ((8 : Int32) &&& 31)), .int (4 : Int32)]) (rest := []) ⟨hx, hb, hml, hown, hts⟩ (kL_below (l := l) (D := D) (cI := cI) (cJ := cJ) N (p1 := (p3 >>> ((8 : Int32) &&& 31))) (p2 := (4 : Int32)) hC Hq.size) (va_cwS 2 hts gL_act_L_below rfl rfl rfl (by decide +kernel) ⟨Nat.le_of_ble_eq_true rfl, Nat.le_of_ble_eq_true rfl⟩) (preS [.int (p3 >>> ((8 : Int32) &&& 31)), .int (4 : Int32)] hN.1 (KX hK) (hP.sub (ws' := zw) [] rfl) (hD.sub (ws' := zw) [] (by decide) rfl)) rfl rfl hl.1 rfl (lv_room (Nat.le_of_ble_eq_true rfl)) dL_act_507 ⟨by show _ + 0 ≤ 1982; omega, by show _ + 0 ≤ 12992; omega⟩) hP hS (fun r0 u Hq locs hw hP hS => ?_)
      rw [hw]
      refine lv_if_le (tgt := 553) hx hb dL_act_510 (by decide) (fun hcc => ?_) (fun hcc => ?_)
      · replace hM := it_p hcc hM
        exact c553 v3 i4 v5 v6 gS' hM hr4 kc ks (by omega) (by omega) Hq locs ls hP hD hS (lv_sub hl [0, 3, 4, 5, 6] rfl)
      · replace hM := it_n hcc hM
        refine lv_iload hx hb dL_act_513 (lv_at hl 6 rfl) ?_
        refine lv_if_le (tgt := 553) hx hb dL_act_515 (by decide) (fun hcc => ?_) (fun hcc => ?_)
        · replace hM := it_p hcc hM
          exact c553 v3 i4 v5 v6 gS' hM hr4 kc ks (by omega) (by omega) Hq locs ls hP hD hS (lv_sub hl [0, 3, 4, 5, 6] rfl)
        · replace hM := it_n hcc hM
          refine lv_aload_n hx hb dL_act_518 rfl (lv_at hl 1 rfl) ?_
          refine lv_iload hx hb dL_act_519 (lv_at hl 5 rfl) ?_
          refine lv_iload_n hx hb dL_act_521 rfl (lv_at hl 3 rfl) ?_
          refine lv_aload_n hx hb dL_act_522 rfl (lv_at hl 1 rfl) ?_
          refine va_get (D := D) (ci := 5) (v := .int wI) (C := RX5) (T := TX5) (N := 8) hx hb hts iX5 hown hK hP 16 rfl rfl 0 (by decide) f9 (fun _ h9 => h9) rfl dL_act_523 ?_
          obtain ⟨hz526, hM⟩ := it_x hM
          refine lv_idiv hx hb dL_act_526 hz526 ?_
          obtain ⟨x527, hC, hM⟩ := bd_s hM
          refine cP_i (rx := fun (u : Unit) => (z4 c cM wI hI Hn r)) (pl1 := fun (u : Unit) => (zpl cI Wn Hn r x527.2 gA gD)) [16, 17, 18, 19] [0, 1, 2, 3, 4, 5, 6, 7, 8, 9, 10, 11, 12, 13, 14, 15] (va_runV (As := [.int v5, .int (v3 / wI)]) (rest := []) ⟨hx, hb, hml, hown, hts⟩ (kX5_can (l := l) (D := D) (cI := cI) (cJ := cJ) (cB := cB) (cM := cM) N c r (wI := wI) (hI := hI) (Wn := Wn) (Hn := Hn) (gS := gS') (gA := gA) (gD := gD) (p1 := v5) (p2 := (v3 / wI)) hC Hq.size) (cwV 2 hts gL_act_X5_can rfl rfl rfl (by decide +kernel) ⟨Nat.le_of_ble_eq_true rfl, Nat.le_of_ble_eq_true rfl⟩) (preVZ [.int v5, .int (v3 / wI)] hN hK (va_P.part (cx := (z4 c cM wI hI Hn r)) hP [16, 17, 18, 19] rfl) (va_D.part (cx := (z4 c cM wI hI Hn r)) hD [16, 17, 18, 19] (by decide) rfl) (ci := 5) (q0 := 0) rfl rfl) rfl rfl hl.1 rfl (lv_room (Nat.le_of_ble_eq_true rfl)) dL_act_527 ⟨by show _ + 180 ≤ 1982; omega, by show _ + 1180 ≤ 12992; omega⟩) hP hD hS hA rfl (wr := (xw a cI cJ ho ke hc tr fo fr st co ro cA cD su jA jD)) rfl (by decide) (by decide) (fun r0 u527 Hq locs hw hP hD hS => ?_)
          replace hP : va_P D vwCl ((xw a cI cJ ho ke hc tr fo fr st co ro cA cD su jA jD ++ (z4 c cM wI hI Hn r)) ++ (zpl cI Wn Hn r x527.2 gA gD)) Hq := va_P.part (cx := (xw a cI cJ ho ke hc tr fo fr st co ro cA cD su jA jD ++ (z4 c cM wI hI Hn r))) (pl := (zpl cI Wn Hn r x527.2 gA gD)) hP [0, 1, 2, 3, 4, 5, 6, 7, 8, 9, 10, 11, 12, 13, 14, 15, 16, 17, 18, 19] rfl
          replace hD : va_D A ((xw a cI cJ ho ke hc tr fo fr st co ro cA cD su jA jD ++ (z4 c cM wI hI Hn r)) ++ (zpl cI Wn Hn r x527.2 gA gD)) := va_D.part (cx := (xw a cI cJ ho ke hc tr fo fr st co ro cA cD su jA jD ++ (z4 c cM wI hI Hn r))) (pl := (zpl cI Wn Hn r x527.2 gA gD)) hD [0, 1, 2, 3, 4, 5, 6, 7, 8, 9, 10, 11, 12, 13, 14, 15, 16, 17, 18, 19] (by decide) rfl
          rw [hw]
          refine W.widen (k := kc + 180) (n := ks + 1180) (by show _ + 180 ≤ _; omega) (by show _ + 1180 ≤ _; omega) ?_
          refine lv_iload hx hb dL_act_530 (lv_at hl 6 rfl) ?_
          refine lv_ishr hx hb dL_act_532 ?_
          refine lv_iconst (v := 1) hx hb dL_act_533 (by decide) ?_
          refine lv_iand hx hb dL_act_534 ?_
          refine lv_if_ne (tgt := 553) hx hb dL_act_535 (by decide) (fun hcc => ?_) (fun hcc => ?_)
          · replace hM := it_n hcc hM
            exact c553 v3 i4 v5 v6 x527.2 hM hr4 (kc + 180) (ks + 1180) (by omega) (by omega) Hq locs ls hP hD hS (lv_sub hl [0, 3, 4, 5, 6] rfl)
          · replace hM := it_p hcc hM
            refine lv_iload hx hb dL_act_538 (lv_at hl 6 rfl) ?_
            refine lv_bipush (v := 9) hx hb dL_act_540 (by decide) ?_
            obtain ⟨hz542, hM⟩ := it_x hM
            refine lv_irem hx hb dL_act_542 hz542 ?_
            refine lv_iconst (v := 1) hx hb dL_act_543 (by decide) ?_
            refine lv_iadd hx hb dL_act_544 ?_
            refine lv_istore (lv' := [(6, .int ((v6 - v6 / (9 : Int32) * (9 : Int32)) + (1 : Int32))), (0, .ref (a 15)), (1, .ref (c 0)), (2, .int p3), (3, .int v3), (4, .ref (r 0 i4)), (5, .int v5), (7, .int v7)]) hx hb dL_act_545 hl (by decide) rfl (fun ls hl => ?_)
            refine lv_iinc (v := (v7 + 1)) (lv' := [(7, .int (v7 + 1)), (6, .int ((v6 - v6 / (9 : Int32) * (9 : Int32)) + (1 : Int32))), (0, .ref (a 15)), (1, .ref (c 0)), (2, .int p3), (3, .int v3), (4, .ref (r 0 i4)), (5, .int v5)]) hx hb dL_act_547 hl (k := 7) rfl (by rfl) (by decide) rfl (fun ls hl => ?_)
            refine lv_goto (tgt := 495) hx hb dL_act_550 (by decide) ?_
            exact ih v3 i4 v5 ((v6 - v6 / (9 : Int32) * (9 : Int32)) + (1 : Int32)) (v7 + 1) x527.2 hM hr4 (kc + 180) (ks + 1180) (by omega) (by omega) Hq locs ls hP hD hS (lv_sub hl [2, 3, 4, 5, 6, 7, 1, 0] rfl)
set_option maxHeartbeats 4000000 in
set_option maxRecDepth 100000 in
theorem kL_act_c305 {p : Program} {l : Launch} {D : va_G} {cI cJ cB cM : ClassId} (hlt : l.stackTraces = false) (N : Nat) (a : Nat → Nat) (c : Nat → Nat) (r : Nat → Nat → Nat) {ho : RowI} {ke : RowI} {hc : Int32} {tr : Int32} {fo : Int32} {fr : Int32} {st : RowI} {co : Int32} {ro : Int32} {cA : CS} {cD : CS} {su : RowJ} {jA : JT} {jD : JT} {wI : Int32} {hI : Int32} {Wn : Nat} {Hn : Nat} {gS : RowR} {gA : RowR} {gD : RowR} {p3 : Int32} {o : (Int32 × Int32 × RowI × Int32 × Int32 × CS × CS × Int32 × Int32 × Nat × Nat × RowR × RowR × RowR)} (sz : Nat) {e : Env} {s : State} {m : MethodId} {args : Array Value} {below : List Frame} {meth : Method} {c0 : Code} {Q : State → Prop} {A : Nat → Prop} (hQ : Q = MQ below (va_Qi (fun (r0 : Int32) (u : JT × JT × (Nat → Nat) × (Nat → Nat → Nat)) => r0 = o.1 ∧ bz r0 ∧ u.2.2.1 0 = c 0) (aft D ((xw a cI cJ ho ke hc tr fo fr st co ro cA cD su jA jD ++ (z4 c cM wI hI Hn r)) ++ (zpl cI Wn Hn r gS gA gD)) sz (fun (u : JT × JT × (Nat → Nat) × (Nat → Nat → Nat)) => ((xw a cI cJ ho ke hc tr fo o.2.1 o.2.2.1 o.2.2.2.1 o.2.2.2.2.1 o.2.2.2.2.2.1 o.2.2.2.2.2.2.1 su jA jD ++ (z4 u.2.2.1 cM o.2.2.2.2.2.2.2.1 o.2.2.2.2.2.2.2.2.1 o.2.2.2.2.2.2.2.2.2.2.1 u.2.2.2)) ++ (zpl cI o.2.2.2.2.2.2.2.2.2.1 o.2.2.2.2.2.2.2.2.2.2.1 u.2.2.2 o.2.2.2.2.2.2.2.2.2.2.2.1 o.2.2.2.2.2.2.2.2.2.2.2.2.1 o.2.2.2.2.2.2.2.2.2.2.2.2.2)))) (va_A ((xw a cI cJ ho ke hc tr fo fr st co ro cA cD su jA jD ++ (z4 c cM wI hI Hn r)) ++ (zpl cI Wn Hn r gS gA gD)) sz)) args s 1982 12992 (va_A ((xw a cI cJ ho ke hc tr fo fr st co ro cA cD su jA jD ++ (z4 c cM wI hI Hn r)) ++ (zpl cI Wn Hn r gS gA gD)) sz)) (hAe : A = (va_A ((xw a cI cJ ho ke hc tr fo fr st co ro cA cD su jA jD ++ (z4 c cM wI hI Hn r)) ++ (zpl cI Wn Hn r gS gA gD)) sz)) (hx : p.tables.exec = Jvm.exec) (hb : c0.code = cL_act) (hr : meth.sig.returnType = (some .boolean)) (hml : c0.maxLocals = 12) (hown : s.vm.findClass RL = some m.cls) (hts : ∀ w ∈ wsL_act, w.before args s = true) (hlocks : meth.locks = false) (htab : c0.exceptionTable.toList = tableOf [(572, 594, 595, 58)]) (hTX : TX A s s.heap) (hN : NZ s) (hK : va_K D vwCl (tysZ cI cJ cB cM) s) (hA : ∀ q : Nat, s.heap.size ≤ q → A q) (iX5 : ∀ w ∈ wsX50, w ∈ wsL_act) (f15 : (Cond.fieldLink RL 15 "CryptSumsLaw$Sim" "h" "I").before args s = true) (f24 : (Cond.fieldLink RL 24 "CryptSumsLaw$Sim" "stones" "[[I").before args s = true) (f29 : (Cond.fieldLink RL 29 "CryptSumsLaw$Sim" "across" "[[I").before args s = true) (f32 : (Cond.fieldLink RL 32 "CryptSumsLaw$Sim" "down" "[[I").before args s = true) (f9 : (Cond.fieldLink RL 9 "CryptSumsLaw$Sim" "w" "I").before args s = true) : ∀ (v3 : Int32) (i4 : Nat) (v5 : Int32) (v6 : Int32), mL_act_305 N fr st co ro cA cD wI hI Wn Hn gS gA gD p3 v3 i4 v5 v6 = some o → i4 < Hn → ∀ (kc ks : Nat), kc + (10) ≤ 1982 → ks + (61) ≤ 12992 → ∀ (Hq : Heap) (locs : List Loc) (ls : Array Slot), va_P D vwCl ((xw a cI cJ ho ke hc tr fo fr st co ro cA cD su jA jD ++ (z4 c cM wI hI Hn r)) ++ (zpl cI Wn Hn r gS gA gD)) Hq → va_D A ((xw a cI cJ ho ke hc tr fo fr st co ro cA cD su jA jD ++ (z4 c cM wI hI Hn r)) ++ (zpl cI Wn Hn r gS gA gD)) → va_S A s.heap Hq locs → lv_has ls 12 [(0, .ref (a 15)), (1, .ref (c 0)), (2, .int p3), (3, .int v3), (4, .ref (r 0 i4)), (5, .int v5), (6, .int v6)] → W p l e rmL_act s m args below meth c0 Hq locs kc ks Q (F0 m 305 ls []) := by
  intro v3 i4 v5 v6 hM hr4 kc ks hkc hks Hq locs ls hP hD hS hl
  rw [mL_act_305] at hM
  refine lv_iload hx hb dL_act_305 (lv_at hl 6 rfl) ?_
  refine lv_if_eq (tgt := 317) hx hb dL_act_307 (by decide) (fun hcc => ?_) (fun hcc => ?_)
  · replace hM := it_p hcc hM
    refine lv_aload_n hx hb dL_act_317 rfl (lv_at hl 1 rfl) ?_
    refine va_get (D := D) (ci := 5) (v := .ref (c 2)) (C := RX5) (T := TX5) (N := 8) hx hb hts iX5 hown hK hP 16 rfl rfl 3 (by decide) f29 (fun _ h9 => h9) rfl dL_act_318 ?_
    refine lv_astore (lv' := [(7, .ref (c 2)), (0, .ref (a 15)), (1, .ref (c 0)), (2, .int p3), (3, .int v3), (4, .ref (r 0 i4)), (5, .int v5), (6, .int v6)]) hx hb dL_act_321 hl (by decide) rfl (fun ls hl => ?_)
    refine lv_aload hx hb dL_act_323 (lv_at hl 0 rfl) ?_
    refine lv_iload_n hx hb dL_act_325 rfl (lv_at hl 4 rfl) ?_
    refine lv_aload_n hx hb dL_act_326 rfl (lv_at hl 2 rfl) ?_
    refine va_get (D := D) (ci := 5) (v := .int wI) (C := RX5) (T := TX5) (N := 8) hx hb hts iX5 hown hK hP 16 rfl rfl 0 (by decide) f9 (fun _ h9 => h9) rfl dL_act_327 ?_
    obtain ⟨hz330, hM⟩ := it_x hM
    refine lv_idiv hx hb dL_act_330 hz330 ?_
    obtain ⟨hb331, hM⟩ := it_x hM
    refine z_aald (D := D) hx hb hK hP 18 rfl hb331 dL_act_331 ?_
    refine lv_iload_n hx hb dL_act_332 rfl (lv_at hl 4 rfl) ?_
    refine lv_aload_n hx hb dL_act_333 rfl (lv_at hl 2 rfl) ?_
    refine va_get (D := D) (ci := 5) (v := .int wI) (C := RX5) (T := TX5) (N := 8) hx hb hts iX5 hown hK hP 16 rfl rfl 0 (by decide) f9 (fun _ h9 => h9) rfl dL_act_334 ?_
    obtain ⟨hz337, hM⟩ := it_x hM
    refine lv_irem hx hb dL_act_337 hz337 ?_
    obtain ⟨hb338, hM⟩ := it_x hM
    refine va_iald (D := D) hx hb hK hP _ 0 (row1 (xw a cI cJ ho ke hc tr fo fr st co ro cA cD su jA jD ++ (z4 c cM wI hI Hn r)) (lt_in hb331)) rfl hb338 dL_act_338 ?_
    refine lv_istore (lv' := [(8, .int (gA ((v3 / wI).toNatClampNeg) (v3 - v3 / wI * wI).toNatClampNeg)), (7, .ref (c 2)), (0, .ref (a 15)), (1, .ref (c 0)), (2, .int p3), (3, .int v3), (4, .ref (r 0 i4)), (5, .int v5), (6, .int v6)]) hx hb dL_act_339 hl (by decide) rfl (fun ls hl => ?_)
    refine lv_aload hx hb dL_act_341 (lv_at hl 6 rfl) ?_
    refine lv_iload hx hb dL_act_343 (lv_at hl 7 rfl) ?_
    obtain ⟨hb345, hM⟩ := it_x hM
    refine va_iald (D := D) hx hb hK hP _ 0 (row0 (xw a cI cJ ho ke hc tr fo fr st co ro cA cD su jA jD ++ (z4 c cM wI hI Hn r)) hr4) rfl hb345 dL_act_345 ?_
    refine lv_if_ge (tgt := 353) hx hb dL_act_346 (by decide) (fun hcc => ?_) (fun hcc => ?_)
    · replace hM := it_p hcc hM
      refine lv_aload_n hx hb dL_act_353 rfl (lv_at hl 3 rfl) ?_
      refine lv_iload hx hb dL_act_354 (lv_at hl 7 rfl) ?_
      refine lv_iload_n hx hb dL_act_356 rfl (lv_at hl 4 rfl) ?_
      refine lv_iconst (v := 3) hx hb dL_act_357 (by decide) ?_
      refine lv_ishr hx hb dL_act_358 ?_
      refine lv_aload_n hx hb dL_act_359 rfl (lv_at hl 3 rfl) ?_
      refine va_get (D := D) (ci := 5) (v := .int wI) (C := RX5) (T := TX5) (N := 8) hx hb hts iX5 hown hK hP 16 rfl rfl 0 (by decide) f9 (fun _ h9 => h9) rfl dL_act_360 ?_
      refine lv_aload_n hx hb dL_act_363 rfl (lv_at hl 3 rfl) ?_
      refine va_get (D := D) (ci := 5) (v := .int hI) (C := RX5) (T := TX5) (N := 8) hx hb hts iX5 hown hK hP 16 rfl rfl 1 (by decide) f15 (fun _ h9 => h9) rfl dL_act_364 ?_
      refine lv_imul hx hb dL_act_367 ?_
      obtain ⟨x368, hC, hM⟩ := bd_s hM
      refine cR_i (va_runS (As := [.int (p3 >>> ((3 : Int32) &&& 31)), .int (wI * hI)]) (rest := [.int v5, .ref (c 0)]) ⟨hx, hb, hml, hown, hts⟩ (kL_below (l := l) (D := D) (cI := cI) (cJ := cJ) N (p1 := (p3 >>> ((3 : Int32) &&& 31))) (p2 := (wI * hI)) hC Hq.size) (va_cwS 2 hts gL_act_L_below rfl rfl rfl (by decide +kernel) ⟨Nat.le_of_ble_eq_true rfl, Nat.le_of_ble_eq_true rfl⟩) (preS [.int (p3 >>> ((3 : Int32) &&& 31)), .int (wI * hI)] hN.1 (KX hK) (hP.sub (ws' := zw) [] rfl) (hD.sub (ws' := zw) [] (by decide) rfl)) rfl rfl hl.1 rfl (lv_room (Nat.le_of_ble_eq_true rfl)) dL_act_368 ⟨by show _ + 0 ≤ 1982; omega, by show _ + 0 ≤ 12992; omega⟩) hP hS (fun r0 u Hq locs hw hP hS => ?_)
      rw [hw]
      refine lv_aload_n hx hb dL_act_371 rfl (lv_at hl 3 rfl) ?_
      refine va_get (D := D) (ci := 5) (v := .int wI) (C := RX5) (T := TX5) (N := 8) hx hb hts iX5 hown hK hP 16 rfl rfl 0 (by decide) f9 (fun _ h9 => h9) rfl dL_act_372 ?_
      obtain ⟨hz375, hM⟩ := it_x hM
      refine lv_idiv hx hb dL_act_375 hz375 ?_
      refine lv_iload hx hb dL_act_376 (lv_at hl 8 rfl) ?_
      obtain ⟨x378, hC, hM⟩ := bd_s hM
      refine cP_r (rx := fun (u : Unit) b => (z4 c cM wI hI Hn r ++ [(b, .inl (cI, x378.1, .inl x378.2))])) (pl1 := fun (u : Unit) b => (zpl cI Wn Hn r gS gA gD)) [16, 17, 18, 19] [0, 1, 2, 3, 4, 5, 6, 7, 8, 9, 10, 11, 12, 13, 14, 15] (va_runV (As := [.int v5, .int (x368 / wI), .int v6]) (rest := []) ⟨hx, hb, hml, hown, hts⟩ (kX5_corridor (l := l) (D := D) (cI := cI) (cJ := cJ) (cB := cB) (cM := cM) N c r (wI := wI) (hI := hI) (Wn := Wn) (Hn := Hn) (gS := gS) (gA := gA) (gD := gD) (p1 := v5) (p2 := (x368 / wI)) (p3 := v6) hC Hq.size) (cwV 3 hts gL_act_X5_corridor rfl rfl rfl (by decide +kernel) ⟨Nat.le_of_ble_eq_true rfl, Nat.le_of_ble_eq_true rfl⟩) (preVZ [.int v5, .int (x368 / wI), .int v6] hN hK (va_P.part (cx := (z4 c cM wI hI Hn r)) hP [16, 17, 18, 19] rfl) (va_D.part (cx := (z4 c cM wI hI Hn r)) hD [16, 17, 18, 19] (by decide) rfl) (ci := 5) (q0 := 0) rfl rfl) rfl rfl hl.1 rfl (lv_room (Nat.le_of_ble_eq_true rfl)) dL_act_378 ⟨by show _ + 8 ≤ 1982; omega, by show _ + 49 ≤ 12992; omega⟩) hP hD hS hA rfl (wr := (xw a cI cJ ho ke hc tr fo fr st co ro cA cD su jA jD)) rfl (by decide) (by decide) (fun u378 q378 Hq locs hw hP hD hS => ?_)
      replace hP : va_P D vwCl ((xw a cI cJ ho ke hc tr fo fr st co ro cA cD su jA jD ++ (z4 c cM wI hI Hn r ++ [(q378, .inl (cI, x378.1, .inl x378.2))])) ++ (zpl cI Wn Hn r gS gA gD)) Hq := va_P.part (cx := (xw a cI cJ ho ke hc tr fo fr st co ro cA cD su jA jD ++ (z4 c cM wI hI Hn r ++ [(q378, .inl (cI, x378.1, .inl x378.2))]))) (pl := (zpl cI Wn Hn r gS gA gD)) hP [0, 1, 2, 3, 4, 5, 6, 7, 8, 9, 10, 11, 12, 13, 14, 15, 16, 17, 18, 19, 20] rfl
      replace hD : va_D A ((xw a cI cJ ho ke hc tr fo fr st co ro cA cD su jA jD ++ (z4 c cM wI hI Hn r ++ [(q378, .inl (cI, x378.1, .inl x378.2))])) ++ (zpl cI Wn Hn r gS gA gD)) := va_D.part (cx := (xw a cI cJ ho ke hc tr fo fr st co ro cA cD su jA jD ++ (z4 c cM wI hI Hn r ++ [(q378, .inl (cI, x378.1, .inl x378.2))]))) (pl := (zpl cI Wn Hn r gS gA gD)) hD [0, 1, 2, 3, 4, 5, 6, 7, 8, 9, 10, 11, 12, 13, 14, 15, 16, 17, 18, 19, 20] (by decide) rfl
      refine W.widen (k := kc + 8) (n := ks + 49) (by show _ + 8 ≤ _; omega) (by show _ + 49 ≤ _; omega) ?_
      refine va_alen (D := D) (v := (nI x378.1)) hx hb hK hP 20 0 rfl rfl rfl dL_act_381 ?_
      refine lv_istore (lv' := [(9, .int (nI x378.1)), (8, .int (gA ((v3 / wI).toNatClampNeg) (v3 - v3 / wI * wI).toNatClampNeg)), (7, .ref (c 2)), (0, .ref (a 15)), (1, .ref (c 0)), (2, .int p3), (3, .int v3), (4, .ref (r 0 i4)), (5, .int v5), (6, .int v6)]) hx hb dL_act_382 hl (by decide) rfl (fun ls hl => ?_)
      refine lv_iload hx hb dL_act_384 (lv_at hl 0 rfl) ?_
      refine lv_iload hx hb dL_act_386 (lv_at hl 0 rfl) ?_
      refine lv_iconst (v := 1) hx hb dL_act_388 (by decide) ?_
      refine lv_iadd hx hb dL_act_389 ?_
      refine lv_imul hx hb dL_act_390 ?_
      refine lv_iconst (v := 2) hx hb dL_act_391 (by decide) ?_
      obtain ⟨hz392, hM⟩ := it_x hM
      refine lv_idiv hx hb dL_act_392 hz392 ?_
      refine lv_istore (lv' := [(10, .int (((nI x378.1) * ((nI x378.1) + (1 : Int32))) / (2 : Int32))), (9, .int (nI x378.1)), (8, .int (gA ((v3 / wI).toNatClampNeg) (v3 - v3 / wI * wI).toNatClampNeg)), (7, .ref (c 2)), (0, .ref (a 15)), (1, .ref (c 0)), (2, .int p3), (3, .int v3), (4, .ref (r 0 i4)), (5, .int v5), (6, .int v6)]) hx hb dL_act_393 hl (by decide) rfl (fun ls hl => ?_)
      refine lv_iload_n hx hb dL_act_395 rfl (lv_at hl 6 rfl) ?_
      refine lv_bipush (v := 9) hx hb dL_act_396 (by decide) ?_
      refine lv_ishr hx hb dL_act_398 ?_
      refine lv_bipush (v := 8) hx hb dL_act_399 (by decide) ?_
      obtain ⟨x401, hC, hM⟩ := bd_s hM
      refine cR_i (va_runS (As := [.int (p3 >>> ((9 : Int32) &&& 31)), .int (8 : Int32)]) (rest := []) ⟨hx, hb, hml, hown, hts⟩ (kL_below (l := l) (D := D) (cI := cI) (cJ := cJ) N (p1 := (p3 >>> ((9 : Int32) &&& 31))) (p2 := (8 : Int32)) hC Hq.size) (va_cwS 2 hts gL_act_L_below rfl rfl rfl (by decide +kernel) ⟨Nat.le_of_ble_eq_true rfl, Nat.le_of_ble_eq_true rfl⟩) (preS [.int (p3 >>> ((9 : Int32) &&& 31)), .int (8 : Int32)] hN.1 (KX hK) (hP.sub (ws' := zw) [] rfl) (hD.sub (ws' := zw) [] (by decide) rfl)) rfl rfl hl.1 rfl (lv_room (Nat.le_of_ble_eq_true rfl)) dL_act_401 ⟨by show _ + 0 ≤ 1982; omega, by show _ + 0 ≤ 12992; omega⟩) hP hS (fun r0 u Hq locs hw hP hS => ?_)
      rw [hw]
      refine lv_if_ne (tgt := 419) hx hb dL_act_404 (by decide) (fun hcc => ?_) (fun hcc => ?_)
      · replace hM := it_n hcc hM
        refine lv_iload hx hb dL_act_419 (lv_at hl 0 rfl) ?_
        refine lv_iload_n hx hb dL_act_421 rfl (lv_at hl 6 rfl) ?_
        refine lv_bipush (v := 6) hx hb dL_act_422 (by decide) ?_
        refine lv_ishr hx hb dL_act_424 ?_
        refine lv_bipush (v := 10) hx hb dL_act_425 (by decide) ?_
        refine lv_iload hx hb dL_act_427 (lv_at hl 1 rfl) ?_
        refine lv_imul hx hb dL_act_429 ?_
        refine lv_iconst (v := 2) hx hb dL_act_430 (by decide) ?_
        refine lv_iload hx hb dL_act_431 (lv_at hl 0 rfl) ?_
        refine lv_imul hx hb dL_act_433 ?_
        refine lv_isub hx hb dL_act_434 ?_
        refine lv_iconst (v := 1) hx hb dL_act_435 (by decide) ?_
        refine lv_iadd hx hb dL_act_436 ?_
        obtain ⟨x437, hC, hM⟩ := bd_s hM
        refine cR_i (va_runS (As := [.int (p3 >>> ((6 : Int32) &&& 31)), .int ((((10 : Int32) * (nI x378.1)) - ((2 : Int32) * (((nI x378.1) * ((nI x378.1) + (1 : Int32))) / (2 : Int32)))) + (1 : Int32))]) (rest := [.int (((nI x378.1) * ((nI x378.1) + (1 : Int32))) / (2 : Int32))]) ⟨hx, hb, hml, hown, hts⟩ (kL_below (l := l) (D := D) (cI := cI) (cJ := cJ) N (p1 := (p3 >>> ((6 : Int32) &&& 31))) (p2 := ((((10 : Int32) * (nI x378.1)) - ((2 : Int32) * (((nI x378.1) * ((nI x378.1) + (1 : Int32))) / (2 : Int32)))) + (1 : Int32))) hC Hq.size) (va_cwS 2 hts gL_act_L_below rfl rfl rfl (by decide +kernel) ⟨Nat.le_of_ble_eq_true rfl, Nat.le_of_ble_eq_true rfl⟩) (preS [.int (p3 >>> ((6 : Int32) &&& 31)), .int ((((10 : Int32) * (nI x378.1)) - ((2 : Int32) * (((nI x378.1) * ((nI x378.1) + (1 : Int32))) / (2 : Int32)))) + (1 : Int32))] hN.1 (KX hK) (hP.sub (ws' := zw) [] rfl) (hD.sub (ws' := zw) [] (by decide) rfl)) rfl rfl hl.1 rfl (lv_room (Nat.le_of_ble_eq_true rfl)) dL_act_437 ⟨by show _ + 0 ≤ 1982; omega, by show _ + 0 ≤ 12992; omega⟩) hP hS (fun r0 u Hq locs hw hP hS => ?_)
        rw [hw]
        refine lv_iadd hx hb dL_act_440 ?_
        refine lv_istore (lv' := [(11, .int ((((nI x378.1) * ((nI x378.1) + (1 : Int32))) / (2 : Int32)) + x437)), (10, .int (((nI x378.1) * ((nI x378.1) + (1 : Int32))) / (2 : Int32))), (9, .int (nI x378.1)), (8, .int (gA ((v3 / wI).toNatClampNeg) (v3 - v3 / wI * wI).toNatClampNeg)), (7, .ref (c 2)), (0, .ref (a 15)), (1, .ref (c 0)), (2, .int p3), (3, .int v3), (4, .ref (r 0 i4)), (5, .int v5), (6, .int v6)]) hx hb dL_act_441 hl (by decide) rfl (fun ls hl => ?_)
        refine lv_aload hx hb dL_act_443 (lv_at hl 4 rfl) ?_
        refine lv_iload_n hx hb dL_act_445 rfl (lv_at hl 8 rfl) ?_
        refine lv_aload_n hx hb dL_act_446 rfl (lv_at hl 6 rfl) ?_
        refine va_get (D := D) (ci := 5) (v := .int wI) (C := RX5) (T := TX5) (N := 8) hx hb hts iX5 hown hK hP 16 rfl rfl 0 (by decide) f9 (fun _ h9 => h9) rfl dL_act_447 ?_
        obtain ⟨hz450, hM⟩ := it_x hM
        refine lv_idiv hx hb dL_act_450 hz450 ?_
        obtain ⟨hb451, hM⟩ := it_x hM
        refine z_aald (D := D) hx hb hK hP 18 rfl hb451 dL_act_451 ?_
        refine lv_iload_n hx hb dL_act_452 rfl (lv_at hl 8 rfl) ?_
        refine lv_aload_n hx hb dL_act_453 rfl (lv_at hl 6 rfl) ?_
        refine va_get (D := D) (ci := 5) (v := .int wI) (C := RX5) (T := TX5) (N := 8) hx hb hts iX5 hown hK hP 16 rfl rfl 0 (by decide) f9 (fun _ h9 => h9) rfl dL_act_454 ?_
        obtain ⟨hz457, hM⟩ := it_x hM
        refine lv_irem hx hb dL_act_457 hz457 ?_
        refine lv_iload hx hb dL_act_458 (lv_at hl 0 rfl) ?_
        obtain ⟨hb460, hM⟩ := it_x hM
        refine va_iast (D := D) hx hb hK hP hD hS _ 0 (row1 (xw a cI cJ ho ke hc tr fo fr st co ro cA cD su jA jD ++ (z4 c cM wI hI Hn r ++ [(q378, .inl (cI, x378.1, .inl x378.2))])) (lt_in hb451)) rfl hb460 dL_act_460 (fun Hq locs hP hD hS => ?_)
        rw [set1 _ (lt_in hb451)] at hP hD
        refine lv_aload_n hx hb dL_act_461 rfl (lv_at hl 5 rfl) ?_
        refine lv_iload_n hx hb dL_act_462 rfl (lv_at hl 8 rfl) ?_
        refine lv_iload hx hb dL_act_463 (lv_at hl 11 rfl) ?_
        refine lv_iload hx hb dL_act_465 (lv_at hl 0 rfl) ?_
        obtain ⟨x467, hC, hM⟩ := bd_s hM
        refine cTQ_i [0, 1, 2, 3, 4, 5, 6, 7, 8, 9, 10, 11, 12, 13, 14, 15] [16, 17, 18, 19, 20] (vx_runV (As := [.int v3, .int v6, .int ((((nI x378.1) * ((nI x378.1) + (1 : Int32))) / (2 : Int32)) + x437)]) (rest := []) ⟨hx, hb, hml, hown, hts⟩ (kX4_setSum (l := l) (D := D) (cI := cI) (cJ := cJ) hlt N a (ho := ho) (ke := ke) (hc := hc) (tr := tr) (fo := fo) (fr := fr) (st := st) (co := co) (ro := ro) (cA := cA) (cD := cD) (su := su) (jA := jA) (jD := jD) (p1 := v3) (p2 := v6) (p3 := ((((nI x378.1) * ((nI x378.1) + (1 : Int32))) / (2 : Int32)) + x437)) hC Hq.size) (cwV 3 hts gL_act_X4_setSum rfl rfl rfl (by decide +kernel) ⟨Nat.le_of_ble_eq_true rfl, Nat.le_of_ble_eq_true rfl⟩) (preVT [.int v3, .int v6, .int ((((nI x378.1) * ((nI x378.1) + (1 : Int32))) / (2 : Int32)) + x437)] hTX hS (freeQ (cx := (xw a cI cJ ho ke hc tr fo fr st co ro cA cD su jA jD)) hD hS hA [0, 1, 2, 3, 4, 5, 6, 7, 8, 9, 10, 11, 12, 13, 14, 15] rfl) hN.1 (KX hK) (subQ (cx := (xw a cI cJ ho ke hc tr fo fr st co ro cA cD su jA jD)) hP [0, 1, 2, 3, 4, 5, 6, 7, 8, 9, 10, 11, 12, 13, 14, 15] rfl) (subQD (cx := (xw a cI cJ ho ke hc tr fo fr st co ro cA cD su jA jD)) hD [0, 1, 2, 3, 4, 5, 6, 7, 8, 9, 10, 11, 12, 13, 14, 15] (by decide) rfl) (ci := 4) (q0 := 3) rfl rfl) rfl rfl hl.1 rfl (lv_room (Nat.le_of_ble_eq_true rfl)) dL_act_467 ⟨by show _ + 2 ≤ 1982; omega, by show _ + 12 ≤ 12992; omega⟩) hP hD hS hA rfl (wr := (z4 c cM wI hI Hn r ++ [(q378, .inl (cI, x378.1, .inl x378.2))])) rfl (by decide) (by decide) (fun E ce q9 Hq locs hE hP hD hS h1 h2 h3 => ?_) (fun r0 u467 Hq locs hw hP hD hS => ?_)
        · obtain ⟨k, hk, hE⟩ := hE
          subst hk
          cases hM
        obtain ⟨hxx, hw⟩ := hw
        subst hxx
        dsimp only [Sum.elim] at hM
        replace hP : va_P D vwCl ((xw a cI cJ ho ke hc tr fo u467.1.2.1 st co ro u467.1.2.2.1 u467.1.2.2.2 su jA jD ++ (z4 c cM wI hI Hn r ++ [(q378, .inl (cI, x378.1, .inl x378.2))])) ++ (zpl cI Wn Hn r gS (updR gA ((v3 / wI).toNatClampNeg) (upd (gA ((v3 / wI).toNatClampNeg)) (v3 - v3 / wI * wI).toNatClampNeg ((((nI x378.1) * ((nI x378.1) + (1 : Int32))) / (2 : Int32)) + x437))) gD)) Hq := va_P.part (cx := (xw a cI cJ ho ke hc tr fo u467.1.2.1 st co ro u467.1.2.2.1 u467.1.2.2.2 su jA jD ++ (z4 c cM wI hI Hn r ++ [(q378, .inl (cI, x378.1, .inl x378.2))]))) (pl := (zpl cI Wn Hn r gS (updR gA ((v3 / wI).toNatClampNeg) (upd (gA ((v3 / wI).toNatClampNeg)) (v3 - v3 / wI * wI).toNatClampNeg ((((nI x378.1) * ((nI x378.1) + (1 : Int32))) / (2 : Int32)) + x437))) gD)) hP [5, 6, 7, 8, 9, 10, 11, 12, 13, 14, 15, 16, 17, 18, 19, 20, 0, 1, 2, 3, 4] rfl
        replace hD : va_D A ((xw a cI cJ ho ke hc tr fo u467.1.2.1 st co ro u467.1.2.2.1 u467.1.2.2.2 su jA jD ++ (z4 c cM wI hI Hn r ++ [(q378, .inl (cI, x378.1, .inl x378.2))])) ++ (zpl cI Wn Hn r gS (updR gA ((v3 / wI).toNatClampNeg) (upd (gA ((v3 / wI).toNatClampNeg)) (v3 - v3 / wI * wI).toNatClampNeg ((((nI x378.1) * ((nI x378.1) + (1 : Int32))) / (2 : Int32)) + x437))) gD)) := va_D.part (cx := (xw a cI cJ ho ke hc tr fo u467.1.2.1 st co ro u467.1.2.2.1 u467.1.2.2.2 su jA jD ++ (z4 c cM wI hI Hn r ++ [(q378, .inl (cI, x378.1, .inl x378.2))]))) (pl := (zpl cI Wn Hn r gS (updR gA ((v3 / wI).toNatClampNeg) (upd (gA ((v3 / wI).toNatClampNeg)) (v3 - v3 / wI * wI).toNatClampNeg ((((nI x378.1) * ((nI x378.1) + (1 : Int32))) / (2 : Int32)) + x437))) gD)) hD [5, 6, 7, 8, 9, 10, 11, 12, 13, 14, 15, 16, 17, 18, 19, 20, 0, 1, 2, 3, 4] (by decide) rfl
        rw [hw]
        refine W.widen (k := kc + 10) (n := ks + 61) (by omega) (by omega) ?_
        refine lv_iload hx hb dL_act_470 (lv_at hl 3 rfl) ?_
        refine lv_icmp_ne (tgt := 479) hx hb dL_act_472 (by decide) (fun hcc => ?_) (fun hcc => ?_)
        · replace hM := it_n hcc hM
          refine lv_iconst (v := 0) hx hb dL_act_479 (by decide) ?_
          obtain rfl := Option.some.inj hM
          replace hP := va_P.part (cx := (xw a cI cJ ho ke hc tr fo u467.1.2.1 st co ro u467.1.2.2.1 u467.1.2.2.2 su jA jD ++ (z4 c cM wI hI Hn r))) hP [0, 1, 2, 3, 4, 5, 6, 7, 8, 9, 10, 11, 12, 13, 14, 15, 16, 17, 18, 19] rfl
          replace hD := va_D.part (cx := (xw a cI cJ ho ke hc tr fo u467.1.2.1 st co ro u467.1.2.2.1 u467.1.2.2.2 su jA jD ++ (z4 c cM wI hI Hn r))) hD [0, 1, 2, 3, 4, 5, 6, 7, 8, 9, 10, 11, 12, 13, 14, 15, 16, 17, 18, 19] (by decide) rfl
          refine W.widen (k := 1982) (n := 12992) (by omega) (by omega) ?_
          subst hQ hAe
          exact W.zret (ty := .boolean) (v := (0 : Int32)) hx hb hr (nb_z (Or.inl rfl)) (fun t ht hW => ⟨⟨(0 : Int32), (jA, jD, c, r), rfl, ⟨rfl, Or.inl rfl, rfl⟩, ⟨by rw [ht]; exact hP, hD⟩⟩, hS.F ht⟩) hS.2.2 dL_act_480
        · replace hM := it_p hcc hM
          refine lv_iconst (v := 1) hx hb dL_act_475 (by decide) ?_
          refine lv_goto (tgt := 480) hx hb dL_act_476 (by decide) ?_
          obtain rfl := Option.some.inj hM
          replace hP := va_P.part (cx := (xw a cI cJ ho ke hc tr fo u467.1.2.1 st co ro u467.1.2.2.1 u467.1.2.2.2 su jA jD ++ (z4 c cM wI hI Hn r))) hP [0, 1, 2, 3, 4, 5, 6, 7, 8, 9, 10, 11, 12, 13, 14, 15, 16, 17, 18, 19] rfl
          replace hD := va_D.part (cx := (xw a cI cJ ho ke hc tr fo u467.1.2.1 st co ro u467.1.2.2.1 u467.1.2.2.2 su jA jD ++ (z4 c cM wI hI Hn r))) hD [0, 1, 2, 3, 4, 5, 6, 7, 8, 9, 10, 11, 12, 13, 14, 15, 16, 17, 18, 19] (by decide) rfl
          refine W.widen (k := 1982) (n := 12992) (by omega) (by omega) ?_
          subst hQ hAe
          exact W.zret (ty := .boolean) (v := (1 : Int32)) hx hb hr (nb_z (Or.inr rfl)) (fun t ht hW => ⟨⟨(1 : Int32), (jA, jD, c, r), rfl, ⟨rfl, Or.inr rfl, rfl⟩, ⟨by rw [ht]; exact hP, hD⟩⟩, hS.F ht⟩) hS.2.2 dL_act_480
      · replace hM := it_p hcc hM
        refine lv_iload_n hx hb dL_act_407 rfl (lv_at hl 6 rfl) ?_
        refine lv_bipush (v := 6) hx hb dL_act_408 (by decide) ?_
        refine lv_ishr hx hb dL_act_410 ?_
        refine lv_bipush (v := 46) hx hb dL_act_411 (by decide) ?_
        obtain ⟨x413, hC, hM⟩ := bd_s hM
        refine cR_i (va_runS (As := [.int (p3 >>> ((6 : Int32) &&& 31)), .int (46 : Int32)]) (rest := []) ⟨hx, hb, hml, hown, hts⟩ (kL_below (l := l) (D := D) (cI := cI) (cJ := cJ) N (p1 := (p3 >>> ((6 : Int32) &&& 31))) (p2 := (46 : Int32)) hC Hq.size) (va_cwS 2 hts gL_act_L_below rfl rfl rfl (by decide +kernel) ⟨Nat.le_of_ble_eq_true rfl, Nat.le_of_ble_eq_true rfl⟩) (preS [.int (p3 >>> ((6 : Int32) &&& 31)), .int (46 : Int32)] hN.1 (KX hK) (hP.sub (ws' := zw) [] rfl) (hD.sub (ws' := zw) [] (by decide) rfl)) rfl rfl hl.1 rfl (lv_room (Nat.le_of_ble_eq_true rfl)) dL_act_413 ⟨by show _ + 0 ≤ 1982; omega, by show _ + 0 ≤ 12992; omega⟩) hP hS (fun r0 u Hq locs hw hP hS => ?_)
        rw [hw]
        refine lv_goto (tgt := 441) hx hb dL_act_416 (by decide) ?_
        refine lv_istore (lv' := [(11, .int x413), (10, .int (((nI x378.1) * ((nI x378.1) + (1 : Int32))) / (2 : Int32))), (9, .int (nI x378.1)), (8, .int (gA ((v3 / wI).toNatClampNeg) (v3 - v3 / wI * wI).toNatClampNeg)), (7, .ref (c 2)), (0, .ref (a 15)), (1, .ref (c 0)), (2, .int p3), (3, .int v3), (4, .ref (r 0 i4)), (5, .int v5), (6, .int v6)]) hx hb dL_act_441 hl (by decide) rfl (fun ls hl => ?_)
        refine lv_aload hx hb dL_act_443 (lv_at hl 4 rfl) ?_
        refine lv_iload_n hx hb dL_act_445 rfl (lv_at hl 8 rfl) ?_
        refine lv_aload_n hx hb dL_act_446 rfl (lv_at hl 6 rfl) ?_
        refine va_get (D := D) (ci := 5) (v := .int wI) (C := RX5) (T := TX5) (N := 8) hx hb hts iX5 hown hK hP 16 rfl rfl 0 (by decide) f9 (fun _ h9 => h9) rfl dL_act_447 ?_
        obtain ⟨hz450, hM⟩ := it_x hM
        refine lv_idiv hx hb dL_act_450 hz450 ?_
        obtain ⟨hb451, hM⟩ := it_x hM
        refine z_aald (D := D) hx hb hK hP 18 rfl hb451 dL_act_451 ?_
        refine lv_iload_n hx hb dL_act_452 rfl (lv_at hl 8 rfl) ?_
        refine lv_aload_n hx hb dL_act_453 rfl (lv_at hl 6 rfl) ?_
        refine va_get (D := D) (ci := 5) (v := .int wI) (C := RX5) (T := TX5) (N := 8) hx hb hts iX5 hown hK hP 16 rfl rfl 0 (by decide) f9 (fun _ h9 => h9) rfl dL_act_454 ?_
        obtain ⟨hz457, hM⟩ := it_x hM
        refine lv_irem hx hb dL_act_457 hz457 ?_
        refine lv_iload hx hb dL_act_458 (lv_at hl 0 rfl) ?_
        obtain ⟨hb460, hM⟩ := it_x hM
        refine va_iast (D := D) hx hb hK hP hD hS _ 0 (row1 (xw a cI cJ ho ke hc tr fo fr st co ro cA cD su jA jD ++ (z4 c cM wI hI Hn r ++ [(q378, .inl (cI, x378.1, .inl x378.2))])) (lt_in hb451)) rfl hb460 dL_act_460 (fun Hq locs hP hD hS => ?_)
        rw [set1 _ (lt_in hb451)] at hP hD
        refine lv_aload_n hx hb dL_act_461 rfl (lv_at hl 5 rfl) ?_
        refine lv_iload_n hx hb dL_act_462 rfl (lv_at hl 8 rfl) ?_
        refine lv_iload hx hb dL_act_463 (lv_at hl 11 rfl) ?_
        refine lv_iload hx hb dL_act_465 (lv_at hl 0 rfl) ?_
        obtain ⟨x467, hC, hM⟩ := bd_s hM
        refine cTQ_i [0, 1, 2, 3, 4, 5, 6, 7, 8, 9, 10, 11, 12, 13, 14, 15] [16, 17, 18, 19, 20] (vx_runV (As := [.int v3, .int v6, .int x413]) (rest := []) ⟨hx, hb, hml, hown, hts⟩ (kX4_setSum (l := l) (D := D) (cI := cI) (cJ := cJ) hlt N a (ho := ho) (ke := ke) (hc := hc) (tr := tr) (fo := fo) (fr := fr) (st := st) (co := co) (ro := ro) (cA := cA) (cD := cD) (su := su) (jA := jA) (jD := jD) (p1 := v3) (p2 := v6) (p3 := x413) hC Hq.size) (cwV 3 hts gL_act_X4_setSum rfl rfl rfl (by decide +kernel) ⟨Nat.le_of_ble_eq_true rfl, Nat.le_of_ble_eq_true rfl⟩) (preVT [.int v3, .int v6, .int x413] hTX hS (freeQ (cx := (xw a cI cJ ho ke hc tr fo fr st co ro cA cD su jA jD)) hD hS hA [0, 1, 2, 3, 4, 5, 6, 7, 8, 9, 10, 11, 12, 13, 14, 15] rfl) hN.1 (KX hK) (subQ (cx := (xw a cI cJ ho ke hc tr fo fr st co ro cA cD su jA jD)) hP [0, 1, 2, 3, 4, 5, 6, 7, 8, 9, 10, 11, 12, 13, 14, 15] rfl) (subQD (cx := (xw a cI cJ ho ke hc tr fo fr st co ro cA cD su jA jD)) hD [0, 1, 2, 3, 4, 5, 6, 7, 8, 9, 10, 11, 12, 13, 14, 15] (by decide) rfl) (ci := 4) (q0 := 3) rfl rfl) rfl rfl hl.1 rfl (lv_room (Nat.le_of_ble_eq_true rfl)) dL_act_467 ⟨by show _ + 2 ≤ 1982; omega, by show _ + 12 ≤ 12992; omega⟩) hP hD hS hA rfl (wr := (z4 c cM wI hI Hn r ++ [(q378, .inl (cI, x378.1, .inl x378.2))])) rfl (by decide) (by decide) (fun E ce q9 Hq locs hE hP hD hS h1 h2 h3 => ?_) (fun r0 u467 Hq locs hw hP hD hS => ?_)
        · obtain ⟨k, hk, hE⟩ := hE
          subst hk
          cases hM
        obtain ⟨hxx, hw⟩ := hw
        subst hxx
        dsimp only [Sum.elim] at hM
        replace hP : va_P D vwCl ((xw a cI cJ ho ke hc tr fo u467.1.2.1 st co ro u467.1.2.2.1 u467.1.2.2.2 su jA jD ++ (z4 c cM wI hI Hn r ++ [(q378, .inl (cI, x378.1, .inl x378.2))])) ++ (zpl cI Wn Hn r gS (updR gA ((v3 / wI).toNatClampNeg) (upd (gA ((v3 / wI).toNatClampNeg)) (v3 - v3 / wI * wI).toNatClampNeg x413)) gD)) Hq := va_P.part (cx := (xw a cI cJ ho ke hc tr fo u467.1.2.1 st co ro u467.1.2.2.1 u467.1.2.2.2 su jA jD ++ (z4 c cM wI hI Hn r ++ [(q378, .inl (cI, x378.1, .inl x378.2))]))) (pl := (zpl cI Wn Hn r gS (updR gA ((v3 / wI).toNatClampNeg) (upd (gA ((v3 / wI).toNatClampNeg)) (v3 - v3 / wI * wI).toNatClampNeg x413)) gD)) hP [5, 6, 7, 8, 9, 10, 11, 12, 13, 14, 15, 16, 17, 18, 19, 20, 0, 1, 2, 3, 4] rfl
        replace hD : va_D A ((xw a cI cJ ho ke hc tr fo u467.1.2.1 st co ro u467.1.2.2.1 u467.1.2.2.2 su jA jD ++ (z4 c cM wI hI Hn r ++ [(q378, .inl (cI, x378.1, .inl x378.2))])) ++ (zpl cI Wn Hn r gS (updR gA ((v3 / wI).toNatClampNeg) (upd (gA ((v3 / wI).toNatClampNeg)) (v3 - v3 / wI * wI).toNatClampNeg x413)) gD)) := va_D.part (cx := (xw a cI cJ ho ke hc tr fo u467.1.2.1 st co ro u467.1.2.2.1 u467.1.2.2.2 su jA jD ++ (z4 c cM wI hI Hn r ++ [(q378, .inl (cI, x378.1, .inl x378.2))]))) (pl := (zpl cI Wn Hn r gS (updR gA ((v3 / wI).toNatClampNeg) (upd (gA ((v3 / wI).toNatClampNeg)) (v3 - v3 / wI * wI).toNatClampNeg x413)) gD)) hD [5, 6, 7, 8, 9, 10, 11, 12, 13, 14, 15, 16, 17, 18, 19, 20, 0, 1, 2, 3, 4] (by decide) rfl
        rw [hw]
        refine W.widen (k := kc + 10) (n := ks + 61) (by omega) (by omega) ?_
        refine lv_iload hx hb dL_act_470 (lv_at hl 3 rfl) ?_
        refine lv_icmp_ne (tgt := 479) hx hb dL_act_472 (by decide) (fun hcc => ?_) (fun hcc => ?_)
        · replace hM := it_n hcc hM
          refine lv_iconst (v := 0) hx hb dL_act_479 (by decide) ?_
          obtain rfl := Option.some.inj hM
          replace hP := va_P.part (cx := (xw a cI cJ ho ke hc tr fo u467.1.2.1 st co ro u467.1.2.2.1 u467.1.2.2.2 su jA jD ++ (z4 c cM wI hI Hn r))) hP [0, 1, 2, 3, 4, 5, 6, 7, 8, 9, 10, 11, 12, 13, 14, 15, 16, 17, 18, 19] rfl
          replace hD := va_D.part (cx := (xw a cI cJ ho ke hc tr fo u467.1.2.1 st co ro u467.1.2.2.1 u467.1.2.2.2 su jA jD ++ (z4 c cM wI hI Hn r))) hD [0, 1, 2, 3, 4, 5, 6, 7, 8, 9, 10, 11, 12, 13, 14, 15, 16, 17, 18, 19] (by decide) rfl
          refine W.widen (k := 1982) (n := 12992) (by omega) (by omega) ?_
          subst hQ hAe
          exact W.zret (ty := .boolean) (v := (0 : Int32)) hx hb hr (nb_z (Or.inl rfl)) (fun t ht hW => ⟨⟨(0 : Int32), (jA, jD, c, r), rfl, ⟨rfl, Or.inl rfl, rfl⟩, ⟨by rw [ht]; exact hP, hD⟩⟩, hS.F ht⟩) hS.2.2 dL_act_480
        · replace hM := it_p hcc hM
          refine lv_iconst (v := 1) hx hb dL_act_475 (by decide) ?_
          refine lv_goto (tgt := 480) hx hb dL_act_476 (by decide) ?_
          obtain rfl := Option.some.inj hM
          replace hP := va_P.part (cx := (xw a cI cJ ho ke hc tr fo u467.1.2.1 st co ro u467.1.2.2.1 u467.1.2.2.2 su jA jD ++ (z4 c cM wI hI Hn r))) hP [0, 1, 2, 3, 4, 5, 6, 7, 8, 9, 10, 11, 12, 13, 14, 15, 16, 17, 18, 19] rfl
          replace hD := va_D.part (cx := (xw a cI cJ ho ke hc tr fo u467.1.2.1 st co ro u467.1.2.2.1 u467.1.2.2.2 su jA jD ++ (z4 c cM wI hI Hn r))) hD [0, 1, 2, 3, 4, 5, 6, 7, 8, 9, 10, 11, 12, 13, 14, 15, 16, 17, 18, 19] (by decide) rfl
          refine W.widen (k := 1982) (n := 12992) (by omega) (by omega) ?_
          subst hQ hAe
          exact W.zret (ty := .boolean) (v := (1 : Int32)) hx hb hr (nb_z (Or.inr rfl)) (fun t ht hW => ⟨⟨(1 : Int32), (jA, jD, c, r), rfl, ⟨rfl, Or.inr rfl, rfl⟩, ⟨by rw [ht]; exact hP, hD⟩⟩, hS.F ht⟩) hS.2.2 dL_act_480
    · replace hM := it_n hcc hM
      refine lv_iconst (v := 1) hx hb dL_act_349 (by decide) ?_
      refine lv_goto (tgt := 382) hx hb dL_act_350 (by decide) ?_
      refine lv_istore (lv' := [(9, .int (1 : Int32)), (8, .int (gA ((v3 / wI).toNatClampNeg) (v3 - v3 / wI * wI).toNatClampNeg)), (7, .ref (c 2)), (0, .ref (a 15)), (1, .ref (c 0)), (2, .int p3), (3, .int v3), (4, .ref (r 0 i4)), (5, .int v5), (6, .int v6)]) hx hb dL_act_382 hl (by decide) rfl (fun ls hl => ?_)
      refine lv_iload hx hb dL_act_384 (lv_at hl 0 rfl) ?_
      refine lv_iload hx hb dL_act_386 (lv_at hl 0 rfl) ?_
      refine lv_iconst (v := 1) hx hb dL_act_388 (by decide) ?_
      refine lv_iadd hx hb dL_act_389 ?_
      refine lv_imul hx hb dL_act_390 ?_
      refine lv_iconst (v := 2) hx hb dL_act_391 (by decide) ?_
      obtain ⟨hz392, hM⟩ := it_x hM
      refine lv_idiv hx hb dL_act_392 hz392 ?_
      refine lv_istore (lv' := [(10, .int (((1 : Int32) * ((1 : Int32) + (1 : Int32))) / (2 : Int32))), (9, .int (1 : Int32)), (8, .int (gA ((v3 / wI).toNatClampNeg) (v3 - v3 / wI * wI).toNatClampNeg)), (7, .ref (c 2)), (0, .ref (a 15)), (1, .ref (c 0)), (2, .int p3), (3, .int v3), (4, .ref (r 0 i4)), (5, .int v5), (6, .int v6)]) hx hb dL_act_393 hl (by decide) rfl (fun ls hl => ?_)
      refine lv_iload_n hx hb dL_act_395 rfl (lv_at hl 6 rfl) ?_
      refine lv_bipush (v := 9) hx hb dL_act_396 (by decide) ?_
      refine lv_ishr hx hb dL_act_398 ?_
      refine lv_bipush (v := 8) hx hb dL_act_399 (by decide) ?_
      obtain ⟨x401, hC, hM⟩ := bd_s hM
      refine cR_i (va_runS (As := [.int (p3 >>> ((9 : Int32) &&& 31)), .int (8 : Int32)]) (rest := []) ⟨hx, hb, hml, hown, hts⟩ (kL_below (l := l) (D := D) (cI := cI) (cJ := cJ) N (p1 := (p3 >>> ((9 : Int32) &&& 31))) (p2 := (8 : Int32)) hC Hq.size) (va_cwS 2 hts gL_act_L_below rfl rfl rfl (by decide +kernel) ⟨Nat.le_of_ble_eq_true rfl, Nat.le_of_ble_eq_true rfl⟩) (preS [.int (p3 >>> ((9 : Int32) &&& 31)), .int (8 : Int32)] hN.1 (KX hK) (hP.sub (ws' := zw) [] rfl) (hD.sub (ws' := zw) [] (by decide) rfl)) rfl rfl hl.1 rfl (lv_room (Nat.le_of_ble_eq_true rfl)) dL_act_401 ⟨by show _ + 0 ≤ 1982; omega, by show _ + 0 ≤ 12992; omega⟩) hP hS (fun r0 u Hq locs hw hP hS => ?_)
      rw [hw]
      refine lv_if_ne (tgt := 419) hx hb dL_act_404 (by decide) (fun hcc => ?_) (fun hcc => ?_)
      · replace hM := it_n hcc hM
        refine lv_iload hx hb dL_act_419 (lv_at hl 0 rfl) ?_
        refine lv_iload_n hx hb dL_act_421 rfl (lv_at hl 6 rfl) ?_
        refine lv_bipush (v := 6) hx hb dL_act_422 (by decide) ?_
        refine lv_ishr hx hb dL_act_424 ?_
        refine lv_bipush (v := 10) hx hb dL_act_425 (by decide) ?_
        refine lv_iload hx hb dL_act_427 (lv_at hl 1 rfl) ?_
        refine lv_imul hx hb dL_act_429 ?_
        refine lv_iconst (v := 2) hx hb dL_act_430 (by decide) ?_
        refine lv_iload hx hb dL_act_431 (lv_at hl 0 rfl) ?_
        refine lv_imul hx hb dL_act_433 ?_
        refine lv_isub hx hb dL_act_434 ?_
        refine lv_iconst (v := 1) hx hb dL_act_435 (by decide) ?_
        refine lv_iadd hx hb dL_act_436 ?_
        obtain ⟨x437, hC, hM⟩ := bd_s hM
        refine cR_i (va_runS (As := [.int (p3 >>> ((6 : Int32) &&& 31)), .int ((((10 : Int32) * (1 : Int32)) - ((2 : Int32) * (((1 : Int32) * ((1 : Int32) + (1 : Int32))) / (2 : Int32)))) + (1 : Int32))]) (rest := [.int (((1 : Int32) * ((1 : Int32) + (1 : Int32))) / (2 : Int32))]) ⟨hx, hb, hml, hown, hts⟩ (kL_below (l := l) (D := D) (cI := cI) (cJ := cJ) N (p1 := (p3 >>> ((6 : Int32) &&& 31))) (p2 := ((((10 : Int32) * (1 : Int32)) - ((2 : Int32) * (((1 : Int32) * ((1 : Int32) + (1 : Int32))) / (2 : Int32)))) + (1 : Int32))) hC Hq.size) (va_cwS 2 hts gL_act_L_below rfl rfl rfl (by decide +kernel) ⟨Nat.le_of_ble_eq_true rfl, Nat.le_of_ble_eq_true rfl⟩) (preS [.int (p3 >>> ((6 : Int32) &&& 31)), .int ((((10 : Int32) * (1 : Int32)) - ((2 : Int32) * (((1 : Int32) * ((1 : Int32) + (1 : Int32))) / (2 : Int32)))) + (1 : Int32))] hN.1 (KX hK) (hP.sub (ws' := zw) [] rfl) (hD.sub (ws' := zw) [] (by decide) rfl)) rfl rfl hl.1 rfl (lv_room (Nat.le_of_ble_eq_true rfl)) dL_act_437 ⟨by show _ + 0 ≤ 1982; omega, by show _ + 0 ≤ 12992; omega⟩) hP hS (fun r0 u Hq locs hw hP hS => ?_)
        rw [hw]
        refine lv_iadd hx hb dL_act_440 ?_
        refine lv_istore (lv' := [(11, .int ((((1 : Int32) * ((1 : Int32) + (1 : Int32))) / (2 : Int32)) + x437)), (10, .int (((1 : Int32) * ((1 : Int32) + (1 : Int32))) / (2 : Int32))), (9, .int (1 : Int32)), (8, .int (gA ((v3 / wI).toNatClampNeg) (v3 - v3 / wI * wI).toNatClampNeg)), (7, .ref (c 2)), (0, .ref (a 15)), (1, .ref (c 0)), (2, .int p3), (3, .int v3), (4, .ref (r 0 i4)), (5, .int v5), (6, .int v6)]) hx hb dL_act_441 hl (by decide) rfl (fun ls hl => ?_)
        refine lv_aload hx hb dL_act_443 (lv_at hl 4 rfl) ?_
        refine lv_iload_n hx hb dL_act_445 rfl (lv_at hl 8 rfl) ?_
        refine lv_aload_n hx hb dL_act_446 rfl (lv_at hl 6 rfl) ?_
        refine va_get (D := D) (ci := 5) (v := .int wI) (C := RX5) (T := TX5) (N := 8) hx hb hts iX5 hown hK hP 16 rfl rfl 0 (by decide) f9 (fun _ h9 => h9) rfl dL_act_447 ?_
        obtain ⟨hz450, hM⟩ := it_x hM
        refine lv_idiv hx hb dL_act_450 hz450 ?_
        obtain ⟨hb451, hM⟩ := it_x hM
        refine z_aald (D := D) hx hb hK hP 18 rfl hb451 dL_act_451 ?_
        refine lv_iload_n hx hb dL_act_452 rfl (lv_at hl 8 rfl) ?_
        refine lv_aload_n hx hb dL_act_453 rfl (lv_at hl 6 rfl) ?_
        refine va_get (D := D) (ci := 5) (v := .int wI) (C := RX5) (T := TX5) (N := 8) hx hb hts iX5 hown hK hP 16 rfl rfl 0 (by decide) f9 (fun _ h9 => h9) rfl dL_act_454 ?_
        obtain ⟨hz457, hM⟩ := it_x hM
        refine lv_irem hx hb dL_act_457 hz457 ?_
        refine lv_iload hx hb dL_act_458 (lv_at hl 0 rfl) ?_
        obtain ⟨hb460, hM⟩ := it_x hM
        refine va_iast (D := D) hx hb hK hP hD hS _ 0 (row1 (xw a cI cJ ho ke hc tr fo fr st co ro cA cD su jA jD ++ (z4 c cM wI hI Hn r)) (lt_in hb451)) rfl hb460 dL_act_460 (fun Hq locs hP hD hS => ?_)
        rw [set1 _ (lt_in hb451)] at hP hD
        refine lv_aload_n hx hb dL_act_461 rfl (lv_at hl 5 rfl) ?_
        refine lv_iload_n hx hb dL_act_462 rfl (lv_at hl 8 rfl) ?_
        refine lv_iload hx hb dL_act_463 (lv_at hl 11 rfl) ?_
        refine lv_iload hx hb dL_act_465 (lv_at hl 0 rfl) ?_
        obtain ⟨x467, hC, hM⟩ := bd_s hM
        refine cTQ_i [0, 1, 2, 3, 4, 5, 6, 7, 8, 9, 10, 11, 12, 13, 14, 15] [16, 17, 18, 19] (vx_runV (As := [.int v3, .int v6, .int ((((1 : Int32) * ((1 : Int32) + (1 : Int32))) / (2 : Int32)) + x437)]) (rest := []) ⟨hx, hb, hml, hown, hts⟩ (kX4_setSum (l := l) (D := D) (cI := cI) (cJ := cJ) hlt N a (ho := ho) (ke := ke) (hc := hc) (tr := tr) (fo := fo) (fr := fr) (st := st) (co := co) (ro := ro) (cA := cA) (cD := cD) (su := su) (jA := jA) (jD := jD) (p1 := v3) (p2 := v6) (p3 := ((((1 : Int32) * ((1 : Int32) + (1 : Int32))) / (2 : Int32)) + x437)) hC Hq.size) (cwV 3 hts gL_act_X4_setSum rfl rfl rfl (by decide +kernel) ⟨Nat.le_of_ble_eq_true rfl, Nat.le_of_ble_eq_true rfl⟩) (preVT [.int v3, .int v6, .int ((((1 : Int32) * ((1 : Int32) + (1 : Int32))) / (2 : Int32)) + x437)] hTX hS (freeQ (cx := (xw a cI cJ ho ke hc tr fo fr st co ro cA cD su jA jD)) hD hS hA [0, 1, 2, 3, 4, 5, 6, 7, 8, 9, 10, 11, 12, 13, 14, 15] rfl) hN.1 (KX hK) (subQ (cx := (xw a cI cJ ho ke hc tr fo fr st co ro cA cD su jA jD)) hP [0, 1, 2, 3, 4, 5, 6, 7, 8, 9, 10, 11, 12, 13, 14, 15] rfl) (subQD (cx := (xw a cI cJ ho ke hc tr fo fr st co ro cA cD su jA jD)) hD [0, 1, 2, 3, 4, 5, 6, 7, 8, 9, 10, 11, 12, 13, 14, 15] (by decide) rfl) (ci := 4) (q0 := 3) rfl rfl) rfl rfl hl.1 rfl (lv_room (Nat.le_of_ble_eq_true rfl)) dL_act_467 ⟨by show _ + 2 ≤ 1982; omega, by show _ + 12 ≤ 12992; omega⟩) hP hD hS hA rfl (wr := (z4 c cM wI hI Hn r)) rfl (by decide) (by decide) (fun E ce q9 Hq locs hE hP hD hS h1 h2 h3 => ?_) (fun r0 u467 Hq locs hw hP hD hS => ?_)
        · obtain ⟨k, hk, hE⟩ := hE
          subst hk
          cases hM
        obtain ⟨hxx, hw⟩ := hw
        subst hxx
        dsimp only [Sum.elim] at hM
        replace hP : va_P D vwCl ((xw a cI cJ ho ke hc tr fo u467.1.2.1 st co ro u467.1.2.2.1 u467.1.2.2.2 su jA jD ++ (z4 c cM wI hI Hn r)) ++ (zpl cI Wn Hn r gS (updR gA ((v3 / wI).toNatClampNeg) (upd (gA ((v3 / wI).toNatClampNeg)) (v3 - v3 / wI * wI).toNatClampNeg ((((1 : Int32) * ((1 : Int32) + (1 : Int32))) / (2 : Int32)) + x437))) gD)) Hq := va_P.part (cx := (xw a cI cJ ho ke hc tr fo u467.1.2.1 st co ro u467.1.2.2.1 u467.1.2.2.2 su jA jD ++ (z4 c cM wI hI Hn r))) (pl := (zpl cI Wn Hn r gS (updR gA ((v3 / wI).toNatClampNeg) (upd (gA ((v3 / wI).toNatClampNeg)) (v3 - v3 / wI * wI).toNatClampNeg ((((1 : Int32) * ((1 : Int32) + (1 : Int32))) / (2 : Int32)) + x437))) gD)) hP [4, 5, 6, 7, 8, 9, 10, 11, 12, 13, 14, 15, 16, 17, 18, 19, 0, 1, 2, 3] rfl
        replace hD : va_D A ((xw a cI cJ ho ke hc tr fo u467.1.2.1 st co ro u467.1.2.2.1 u467.1.2.2.2 su jA jD ++ (z4 c cM wI hI Hn r)) ++ (zpl cI Wn Hn r gS (updR gA ((v3 / wI).toNatClampNeg) (upd (gA ((v3 / wI).toNatClampNeg)) (v3 - v3 / wI * wI).toNatClampNeg ((((1 : Int32) * ((1 : Int32) + (1 : Int32))) / (2 : Int32)) + x437))) gD)) := va_D.part (cx := (xw a cI cJ ho ke hc tr fo u467.1.2.1 st co ro u467.1.2.2.1 u467.1.2.2.2 su jA jD ++ (z4 c cM wI hI Hn r))) (pl := (zpl cI Wn Hn r gS (updR gA ((v3 / wI).toNatClampNeg) (upd (gA ((v3 / wI).toNatClampNeg)) (v3 - v3 / wI * wI).toNatClampNeg ((((1 : Int32) * ((1 : Int32) + (1 : Int32))) / (2 : Int32)) + x437))) gD)) hD [4, 5, 6, 7, 8, 9, 10, 11, 12, 13, 14, 15, 16, 17, 18, 19, 0, 1, 2, 3] (by decide) rfl
        rw [hw]
        refine W.widen (k := kc + 2) (n := ks + 12) (by omega) (by omega) ?_
        refine lv_iload hx hb dL_act_470 (lv_at hl 3 rfl) ?_
        refine lv_icmp_ne (tgt := 479) hx hb dL_act_472 (by decide) (fun hcc => ?_) (fun hcc => ?_)
        · replace hM := it_n hcc hM
          refine lv_iconst (v := 0) hx hb dL_act_479 (by decide) ?_
          obtain rfl := Option.some.inj hM
          refine W.widen (k := 1982) (n := 12992) (by omega) (by omega) ?_
          subst hQ hAe
          exact W.zret (ty := .boolean) (v := (0 : Int32)) hx hb hr (nb_z (Or.inl rfl)) (fun t ht hW => ⟨⟨(0 : Int32), (jA, jD, c, r), rfl, ⟨rfl, Or.inl rfl, rfl⟩, ⟨by rw [ht]; exact hP, hD⟩⟩, hS.F ht⟩) hS.2.2 dL_act_480
        · replace hM := it_p hcc hM
          refine lv_iconst (v := 1) hx hb dL_act_475 (by decide) ?_
          refine lv_goto (tgt := 480) hx hb dL_act_476 (by decide) ?_
          obtain rfl := Option.some.inj hM
          refine W.widen (k := 1982) (n := 12992) (by omega) (by omega) ?_
          subst hQ hAe
          exact W.zret (ty := .boolean) (v := (1 : Int32)) hx hb hr (nb_z (Or.inr rfl)) (fun t ht hW => ⟨⟨(1 : Int32), (jA, jD, c, r), rfl, ⟨rfl, Or.inr rfl, rfl⟩, ⟨by rw [ht]; exact hP, hD⟩⟩, hS.F ht⟩) hS.2.2 dL_act_480
      · replace hM := it_p hcc hM
        refine lv_iload_n hx hb dL_act_407 rfl (lv_at hl 6 rfl) ?_
        refine lv_bipush (v := 6) hx hb dL_act_408 (by decide) ?_
        refine lv_ishr hx hb dL_act_410 ?_
        refine lv_bipush (v := 46) hx hb dL_act_411 (by decide) ?_
        obtain ⟨x413, hC, hM⟩ := bd_s hM
        refine cR_i (va_runS (As := [.int (p3 >>> ((6 : Int32) &&& 31)), .int (46 : Int32)]) (rest := []) ⟨hx, hb, hml, hown, hts⟩ (kL_below (l := l) (D := D) (cI := cI) (cJ := cJ) N (p1 := (p3 >>> ((6 : Int32) &&& 31))) (p2 := (46 : Int32)) hC Hq.size) (va_cwS 2 hts gL_act_L_below rfl rfl rfl (by decide +kernel) ⟨Nat.le_of_ble_eq_true rfl, Nat.le_of_ble_eq_true rfl⟩) (preS [.int (p3 >>> ((6 : Int32) &&& 31)), .int (46 : Int32)] hN.1 (KX hK) (hP.sub (ws' := zw) [] rfl) (hD.sub (ws' := zw) [] (by decide) rfl)) rfl rfl hl.1 rfl (lv_room (Nat.le_of_ble_eq_true rfl)) dL_act_413 ⟨by show _ + 0 ≤ 1982; omega, by show _ + 0 ≤ 12992; omega⟩) hP hS (fun r0 u Hq locs hw hP hS => ?_)
        rw [hw]
        refine lv_goto (tgt := 441) hx hb dL_act_416 (by decide) ?_
        refine lv_istore (lv' := [(11, .int x413), (10, .int (((1 : Int32) * ((1 : Int32) + (1 : Int32))) / (2 : Int32))), (9, .int (1 : Int32)), (8, .int (gA ((v3 / wI).toNatClampNeg) (v3 - v3 / wI * wI).toNatClampNeg)), (7, .ref (c 2)), (0, .ref (a 15)), (1, .ref (c 0)), (2, .int p3), (3, .int v3), (4, .ref (r 0 i4)), (5, .int v5), (6, .int v6)]) hx hb dL_act_441 hl (by decide) rfl (fun ls hl => ?_)
        refine lv_aload hx hb dL_act_443 (lv_at hl 4 rfl) ?_
        refine lv_iload_n hx hb dL_act_445 rfl (lv_at hl 8 rfl) ?_
        refine lv_aload_n hx hb dL_act_446 rfl (lv_at hl 6 rfl) ?_
        refine va_get (D := D) (ci := 5) (v := .int wI) (C := RX5) (T := TX5) (N := 8) hx hb hts iX5 hown hK hP 16 rfl rfl 0 (by decide) f9 (fun _ h9 => h9) rfl dL_act_447 ?_
        obtain ⟨hz450, hM⟩ := it_x hM
        refine lv_idiv hx hb dL_act_450 hz450 ?_
        obtain ⟨hb451, hM⟩ := it_x hM
        refine z_aald (D := D) hx hb hK hP 18 rfl hb451 dL_act_451 ?_
        refine lv_iload_n hx hb dL_act_452 rfl (lv_at hl 8 rfl) ?_
        refine lv_aload_n hx hb dL_act_453 rfl (lv_at hl 6 rfl) ?_
        refine va_get (D := D) (ci := 5) (v := .int wI) (C := RX5) (T := TX5) (N := 8) hx hb hts iX5 hown hK hP 16 rfl rfl 0 (by decide) f9 (fun _ h9 => h9) rfl dL_act_454 ?_
        obtain ⟨hz457, hM⟩ := it_x hM
        refine lv_irem hx hb dL_act_457 hz457 ?_
        refine lv_iload hx hb dL_act_458 (lv_at hl 0 rfl) ?_
        obtain ⟨hb460, hM⟩ := it_x hM
        refine va_iast (D := D) hx hb hK hP hD hS _ 0 (row1 (xw a cI cJ ho ke hc tr fo fr st co ro cA cD su jA jD ++ (z4 c cM wI hI Hn r)) (lt_in hb451)) rfl hb460 dL_act_460 (fun Hq locs hP hD hS => ?_)
        rw [set1 _ (lt_in hb451)] at hP hD
        refine lv_aload_n hx hb dL_act_461 rfl (lv_at hl 5 rfl) ?_
        refine lv_iload_n hx hb dL_act_462 rfl (lv_at hl 8 rfl) ?_
        refine lv_iload hx hb dL_act_463 (lv_at hl 11 rfl) ?_
        refine lv_iload hx hb dL_act_465 (lv_at hl 0 rfl) ?_
        obtain ⟨x467, hC, hM⟩ := bd_s hM
        refine cTQ_i [0, 1, 2, 3, 4, 5, 6, 7, 8, 9, 10, 11, 12, 13, 14, 15] [16, 17, 18, 19] (vx_runV (As := [.int v3, .int v6, .int x413]) (rest := []) ⟨hx, hb, hml, hown, hts⟩ (kX4_setSum (l := l) (D := D) (cI := cI) (cJ := cJ) hlt N a (ho := ho) (ke := ke) (hc := hc) (tr := tr) (fo := fo) (fr := fr) (st := st) (co := co) (ro := ro) (cA := cA) (cD := cD) (su := su) (jA := jA) (jD := jD) (p1 := v3) (p2 := v6) (p3 := x413) hC Hq.size) (cwV 3 hts gL_act_X4_setSum rfl rfl rfl (by decide +kernel) ⟨Nat.le_of_ble_eq_true rfl, Nat.le_of_ble_eq_true rfl⟩) (preVT [.int v3, .int v6, .int x413] hTX hS (freeQ (cx := (xw a cI cJ ho ke hc tr fo fr st co ro cA cD su jA jD)) hD hS hA [0, 1, 2, 3, 4, 5, 6, 7, 8, 9, 10, 11, 12, 13, 14, 15] rfl) hN.1 (KX hK) (subQ (cx := (xw a cI cJ ho ke hc tr fo fr st co ro cA cD su jA jD)) hP [0, 1, 2, 3, 4, 5, 6, 7, 8, 9, 10, 11, 12, 13, 14, 15] rfl) (subQD (cx := (xw a cI cJ ho ke hc tr fo fr st co ro cA cD su jA jD)) hD [0, 1, 2, 3, 4, 5, 6, 7, 8, 9, 10, 11, 12, 13, 14, 15] (by decide) rfl) (ci := 4) (q0 := 3) rfl rfl) rfl rfl hl.1 rfl (lv_room (Nat.le_of_ble_eq_true rfl)) dL_act_467 ⟨by show _ + 2 ≤ 1982; omega, by show _ + 12 ≤ 12992; omega⟩) hP hD hS hA rfl (wr := (z4 c cM wI hI Hn r)) rfl (by decide) (by decide) (fun E ce q9 Hq locs hE hP hD hS h1 h2 h3 => ?_) (fun r0 u467 Hq locs hw hP hD hS => ?_)
        · obtain ⟨k, hk, hE⟩ := hE
          subst hk
          cases hM
        obtain ⟨hxx, hw⟩ := hw
        subst hxx
        dsimp only [Sum.elim] at hM
        replace hP : va_P D vwCl ((xw a cI cJ ho ke hc tr fo u467.1.2.1 st co ro u467.1.2.2.1 u467.1.2.2.2 su jA jD ++ (z4 c cM wI hI Hn r)) ++ (zpl cI Wn Hn r gS (updR gA ((v3 / wI).toNatClampNeg) (upd (gA ((v3 / wI).toNatClampNeg)) (v3 - v3 / wI * wI).toNatClampNeg x413)) gD)) Hq := va_P.part (cx := (xw a cI cJ ho ke hc tr fo u467.1.2.1 st co ro u467.1.2.2.1 u467.1.2.2.2 su jA jD ++ (z4 c cM wI hI Hn r))) (pl := (zpl cI Wn Hn r gS (updR gA ((v3 / wI).toNatClampNeg) (upd (gA ((v3 / wI).toNatClampNeg)) (v3 - v3 / wI * wI).toNatClampNeg x413)) gD)) hP [4, 5, 6, 7, 8, 9, 10, 11, 12, 13, 14, 15, 16, 17, 18, 19, 0, 1, 2, 3] rfl
        replace hD : va_D A ((xw a cI cJ ho ke hc tr fo u467.1.2.1 st co ro u467.1.2.2.1 u467.1.2.2.2 su jA jD ++ (z4 c cM wI hI Hn r)) ++ (zpl cI Wn Hn r gS (updR gA ((v3 / wI).toNatClampNeg) (upd (gA ((v3 / wI).toNatClampNeg)) (v3 - v3 / wI * wI).toNatClampNeg x413)) gD)) := va_D.part (cx := (xw a cI cJ ho ke hc tr fo u467.1.2.1 st co ro u467.1.2.2.1 u467.1.2.2.2 su jA jD ++ (z4 c cM wI hI Hn r))) (pl := (zpl cI Wn Hn r gS (updR gA ((v3 / wI).toNatClampNeg) (upd (gA ((v3 / wI).toNatClampNeg)) (v3 - v3 / wI * wI).toNatClampNeg x413)) gD)) hD [4, 5, 6, 7, 8, 9, 10, 11, 12, 13, 14, 15, 16, 17, 18, 19, 0, 1, 2, 3] (by decide) rfl
        rw [hw]
        refine W.widen (k := kc + 2) (n := ks + 12) (by omega) (by omega) ?_
        refine lv_iload hx hb dL_act_470 (lv_at hl 3 rfl) ?_
        refine lv_icmp_ne (tgt := 479) hx hb dL_act_472 (by decide) (fun hcc => ?_) (fun hcc => ?_)
        · replace hM := it_n hcc hM
          refine lv_iconst (v := 0) hx hb dL_act_479 (by decide) ?_
          obtain rfl := Option.some.inj hM
          refine W.widen (k := 1982) (n := 12992) (by omega) (by omega) ?_
          subst hQ hAe
          exact W.zret (ty := .boolean) (v := (0 : Int32)) hx hb hr (nb_z (Or.inl rfl)) (fun t ht hW => ⟨⟨(0 : Int32), (jA, jD, c, r), rfl, ⟨rfl, Or.inl rfl, rfl⟩, ⟨by rw [ht]; exact hP, hD⟩⟩, hS.F ht⟩) hS.2.2 dL_act_480
        · replace hM := it_p hcc hM
          refine lv_iconst (v := 1) hx hb dL_act_475 (by decide) ?_
          refine lv_goto (tgt := 480) hx hb dL_act_476 (by decide) ?_
          obtain rfl := Option.some.inj hM
          refine W.widen (k := 1982) (n := 12992) (by omega) (by omega) ?_
          subst hQ hAe
          exact W.zret (ty := .boolean) (v := (1 : Int32)) hx hb hr (nb_z (Or.inr rfl)) (fun t ht hW => ⟨⟨(1 : Int32), (jA, jD, c, r), rfl, ⟨rfl, Or.inr rfl, rfl⟩, ⟨by rw [ht]; exact hP, hD⟩⟩, hS.F ht⟩) hS.2.2 dL_act_480
  · replace hM := it_n hcc hM
    refine lv_aload_n hx hb dL_act_310 rfl (lv_at hl 1 rfl) ?_
    refine va_get (D := D) (ci := 5) (v := .ref (c 3)) (C := RX5) (T := TX5) (N := 8) hx hb hts iX5 hown hK hP 16 rfl rfl 4 (by decide) f32 (fun _ h9 => h9) rfl dL_act_311 ?_
    refine lv_goto (tgt := 321) hx hb dL_act_314 (by decide) ?_
    refine lv_astore (lv' := [(7, .ref (c 3)), (0, .ref (a 15)), (1, .ref (c 0)), (2, .int p3), (3, .int v3), (4, .ref (r 0 i4)), (5, .int v5), (6, .int v6)]) hx hb dL_act_321 hl (by decide) rfl (fun ls hl => ?_)
    refine lv_aload hx hb dL_act_323 (lv_at hl 0 rfl) ?_
    refine lv_iload_n hx hb dL_act_325 rfl (lv_at hl 4 rfl) ?_
    refine lv_aload_n hx hb dL_act_326 rfl (lv_at hl 2 rfl) ?_
    refine va_get (D := D) (ci := 5) (v := .int wI) (C := RX5) (T := TX5) (N := 8) hx hb hts iX5 hown hK hP 16 rfl rfl 0 (by decide) f9 (fun _ h9 => h9) rfl dL_act_327 ?_
    obtain ⟨hz330, hM⟩ := it_x hM
    refine lv_idiv hx hb dL_act_330 hz330 ?_
    obtain ⟨hb331, hM⟩ := it_x hM
    refine z_aald (D := D) hx hb hK hP 19 rfl hb331 dL_act_331 ?_
    refine lv_iload_n hx hb dL_act_332 rfl (lv_at hl 4 rfl) ?_
    refine lv_aload_n hx hb dL_act_333 rfl (lv_at hl 2 rfl) ?_
    refine va_get (D := D) (ci := 5) (v := .int wI) (C := RX5) (T := TX5) (N := 8) hx hb hts iX5 hown hK hP 16 rfl rfl 0 (by decide) f9 (fun _ h9 => h9) rfl dL_act_334 ?_
    obtain ⟨hz337, hM⟩ := it_x hM
    refine lv_irem hx hb dL_act_337 hz337 ?_
    obtain ⟨hb338, hM⟩ := it_x hM
    refine va_iald (D := D) hx hb hK hP _ 0 (row2 (xw a cI cJ ho ke hc tr fo fr st co ro cA cD su jA jD ++ (z4 c cM wI hI Hn r)) (lt_in hb331)) rfl hb338 dL_act_338 ?_
    refine lv_istore (lv' := [(8, .int (gD ((v3 / wI).toNatClampNeg) (v3 - v3 / wI * wI).toNatClampNeg)), (7, .ref (c 3)), (0, .ref (a 15)), (1, .ref (c 0)), (2, .int p3), (3, .int v3), (4, .ref (r 0 i4)), (5, .int v5), (6, .int v6)]) hx hb dL_act_339 hl (by decide) rfl (fun ls hl => ?_)
    refine lv_aload hx hb dL_act_341 (lv_at hl 6 rfl) ?_
    refine lv_iload hx hb dL_act_343 (lv_at hl 7 rfl) ?_
    obtain ⟨hb345, hM⟩ := it_x hM
    refine va_iald (D := D) hx hb hK hP _ 0 (row0 (xw a cI cJ ho ke hc tr fo fr st co ro cA cD su jA jD ++ (z4 c cM wI hI Hn r)) hr4) rfl hb345 dL_act_345 ?_
    refine lv_if_ge (tgt := 353) hx hb dL_act_346 (by decide) (fun hcc => ?_) (fun hcc => ?_)
    · replace hM := it_p hcc hM
      refine lv_aload_n hx hb dL_act_353 rfl (lv_at hl 3 rfl) ?_
      refine lv_iload hx hb dL_act_354 (lv_at hl 7 rfl) ?_
      refine lv_iload_n hx hb dL_act_356 rfl (lv_at hl 4 rfl) ?_
      refine lv_iconst (v := 3) hx hb dL_act_357 (by decide) ?_
      refine lv_ishr hx hb dL_act_358 ?_
      refine lv_aload_n hx hb dL_act_359 rfl (lv_at hl 3 rfl) ?_
      refine va_get (D := D) (ci := 5) (v := .int wI) (C := RX5) (T := TX5) (N := 8) hx hb hts iX5 hown hK hP 16 rfl rfl 0 (by decide) f9 (fun _ h9 => h9) rfl dL_act_360 ?_
      refine lv_aload_n hx hb dL_act_363 rfl (lv_at hl 3 rfl) ?_
      refine va_get (D := D) (ci := 5) (v := .int hI) (C := RX5) (T := TX5) (N := 8) hx hb hts iX5 hown hK hP 16 rfl rfl 1 (by decide) f15 (fun _ h9 => h9) rfl dL_act_364 ?_
      refine lv_imul hx hb dL_act_367 ?_
      obtain ⟨x368, hC, hM⟩ := bd_s hM
      refine cR_i (va_runS (As := [.int (p3 >>> ((3 : Int32) &&& 31)), .int (wI * hI)]) (rest := [.int v5, .ref (c 0)]) ⟨hx, hb, hml, hown, hts⟩ (kL_below (l := l) (D := D) (cI := cI) (cJ := cJ) N (p1 := (p3 >>> ((3 : Int32) &&& 31))) (p2 := (wI * hI)) hC Hq.size) (va_cwS 2 hts gL_act_L_below rfl rfl rfl (by decide +kernel) ⟨Nat.le_of_ble_eq_true rfl, Nat.le_of_ble_eq_true rfl⟩) (preS [.int (p3 >>> ((3 : Int32) &&& 31)), .int (wI * hI)] hN.1 (KX hK) (hP.sub (ws' := zw) [] rfl) (hD.sub (ws' := zw) [] (by decide) rfl)) rfl rfl hl.1 rfl (lv_room (Nat.le_of_ble_eq_true rfl)) dL_act_368 ⟨by show _ + 0 ≤ 1982; omega, by show _ + 0 ≤ 12992; omega⟩) hP hS (fun r0 u Hq locs hw hP hS => ?_)
      rw [hw]
      refine lv_aload_n hx hb dL_act_371 rfl (lv_at hl 3 rfl) ?_
      refine va_get (D := D) (ci := 5) (v := .int wI) (C := RX5) (T := TX5) (N := 8) hx hb hts iX5 hown hK hP 16 rfl rfl 0 (by decide) f9 (fun _ h9 => h9) rfl dL_act_372 ?_
      obtain ⟨hz375, hM⟩ := it_x hM
      refine lv_idiv hx hb dL_act_375 hz375 ?_
      refine lv_iload hx hb dL_act_376 (lv_at hl 8 rfl) ?_
      obtain ⟨x378, hC, hM⟩ := bd_s hM
      refine cP_r (rx := fun (u : Unit) b => (z4 c cM wI hI Hn r ++ [(b, .inl (cI, x378.1, .inl x378.2))])) (pl1 := fun (u : Unit) b => (zpl cI Wn Hn r gS gA gD)) [16, 17, 18, 19] [0, 1, 2, 3, 4, 5, 6, 7, 8, 9, 10, 11, 12, 13, 14, 15] (va_runV (As := [.int v5, .int (x368 / wI), .int v6]) (rest := []) ⟨hx, hb, hml, hown, hts⟩ (kX5_corridor (l := l) (D := D) (cI := cI) (cJ := cJ) (cB := cB) (cM := cM) N c r (wI := wI) (hI := hI) (Wn := Wn) (Hn := Hn) (gS := gS) (gA := gA) (gD := gD) (p1 := v5) (p2 := (x368 / wI)) (p3 := v6) hC Hq.size) (cwV 3 hts gL_act_X5_corridor rfl rfl rfl (by decide +kernel) ⟨Nat.le_of_ble_eq_true rfl, Nat.le_of_ble_eq_true rfl⟩) (preVZ [.int v5, .int (x368 / wI), .int v6] hN hK (va_P.part (cx := (z4 c cM wI hI Hn r)) hP [16, 17, 18, 19] rfl) (va_D.part (cx := (z4 c cM wI hI Hn r)) hD [16, 17, 18, 19] (by decide) rfl) (ci := 5) (q0 := 0) rfl rfl) rfl rfl hl.1 rfl (lv_room (Nat.le_of_ble_eq_true rfl)) dL_act_378 ⟨by show _ + 8 ≤ 1982; omega, by show _ + 49 ≤ 12992; omega⟩) hP hD hS hA rfl (wr := (xw a cI cJ ho ke hc tr fo fr st co ro cA cD su jA jD)) rfl (by decide) (by decide) (fun u378 q378 Hq locs hw hP hD hS => ?_)
      replace hP : va_P D vwCl ((xw a cI cJ ho ke hc tr fo fr st co ro cA cD su jA jD ++ (z4 c cM wI hI Hn r ++ [(q378, .inl (cI, x378.1, .inl x378.2))])) ++ (zpl cI Wn Hn r gS gA gD)) Hq := va_P.part (cx := (xw a cI cJ ho ke hc tr fo fr st co ro cA cD su jA jD ++ (z4 c cM wI hI Hn r ++ [(q378, .inl (cI, x378.1, .inl x378.2))]))) (pl := (zpl cI Wn Hn r gS gA gD)) hP [0, 1, 2, 3, 4, 5, 6, 7, 8, 9, 10, 11, 12, 13, 14, 15, 16, 17, 18, 19, 20] rfl
      replace hD : va_D A ((xw a cI cJ ho ke hc tr fo fr st co ro cA cD su jA jD ++ (z4 c cM wI hI Hn r ++ [(q378, .inl (cI, x378.1, .inl x378.2))])) ++ (zpl cI Wn Hn r gS gA gD)) := va_D.part (cx := (xw a cI cJ ho ke hc tr fo fr st co ro cA cD su jA jD ++ (z4 c cM wI hI Hn r ++ [(q378, .inl (cI, x378.1, .inl x378.2))]))) (pl := (zpl cI Wn Hn r gS gA gD)) hD [0, 1, 2, 3, 4, 5, 6, 7, 8, 9, 10, 11, 12, 13, 14, 15, 16, 17, 18, 19, 20] (by decide) rfl
      refine W.widen (k := kc + 8) (n := ks + 49) (by show _ + 8 ≤ _; omega) (by show _ + 49 ≤ _; omega) ?_
      refine va_alen (D := D) (v := (nI x378.1)) hx hb hK hP 20 0 rfl rfl rfl dL_act_381 ?_
      refine lv_istore (lv' := [(9, .int (nI x378.1)), (8, .int (gD ((v3 / wI).toNatClampNeg) (v3 - v3 / wI * wI).toNatClampNeg)), (7, .ref (c 3)), (0, .ref (a 15)), (1, .ref (c 0)), (2, .int p3), (3, .int v3), (4, .ref (r 0 i4)), (5, .int v5), (6, .int v6)]) hx hb dL_act_382 hl (by decide) rfl (fun ls hl => ?_)
      refine lv_iload hx hb dL_act_384 (lv_at hl 0 rfl) ?_
      refine lv_iload hx hb dL_act_386 (lv_at hl 0 rfl) ?_
      refine lv_iconst (v := 1) hx hb dL_act_388 (by decide) ?_
      refine lv_iadd hx hb dL_act_389 ?_
      refine lv_imul hx hb dL_act_390 ?_
      refine lv_iconst (v := 2) hx hb dL_act_391 (by decide) ?_
      obtain ⟨hz392, hM⟩ := it_x hM
      refine lv_idiv hx hb dL_act_392 hz392 ?_
      refine lv_istore (lv' := [(10, .int (((nI x378.1) * ((nI x378.1) + (1 : Int32))) / (2 : Int32))), (9, .int (nI x378.1)), (8, .int (gD ((v3 / wI).toNatClampNeg) (v3 - v3 / wI * wI).toNatClampNeg)), (7, .ref (c 3)), (0, .ref (a 15)), (1, .ref (c 0)), (2, .int p3), (3, .int v3), (4, .ref (r 0 i4)), (5, .int v5), (6, .int v6)]) hx hb dL_act_393 hl (by decide) rfl (fun ls hl => ?_)
      refine lv_iload_n hx hb dL_act_395 rfl (lv_at hl 6 rfl) ?_
      refine lv_bipush (v := 9) hx hb dL_act_396 (by decide) ?_
      refine lv_ishr hx hb dL_act_398 ?_
      refine lv_bipush (v := 8) hx hb dL_act_399 (by decide) ?_
      obtain ⟨x401, hC, hM⟩ := bd_s hM
      refine cR_i (va_runS (As := [.int (p3 >>> ((9 : Int32) &&& 31)), .int (8 : Int32)]) (rest := []) ⟨hx, hb, hml, hown, hts⟩ (kL_below (l := l) (D := D) (cI := cI) (cJ := cJ) N (p1 := (p3 >>> ((9 : Int32) &&& 31))) (p2 := (8 : Int32)) hC Hq.size) (va_cwS 2 hts gL_act_L_below rfl rfl rfl (by decide +kernel) ⟨Nat.le_of_ble_eq_true rfl, Nat.le_of_ble_eq_true rfl⟩) (preS [.int (p3 >>> ((9 : Int32) &&& 31)), .int (8 : Int32)] hN.1 (KX hK) (hP.sub (ws' := zw) [] rfl) (hD.sub (ws' := zw) [] (by decide) rfl)) rfl rfl hl.1 rfl (lv_room (Nat.le_of_ble_eq_true rfl)) dL_act_401 ⟨by show _ + 0 ≤ 1982; omega, by show _ + 0 ≤ 12992; omega⟩) hP hS (fun r0 u Hq locs hw hP hS => ?_)
      rw [hw]
      refine lv_if_ne (tgt := 419) hx hb dL_act_404 (by decide) (fun hcc => ?_) (fun hcc => ?_)
      · replace hM := it_n hcc hM
        refine lv_iload hx hb dL_act_419 (lv_at hl 0 rfl) ?_
        refine lv_iload_n hx hb dL_act_421 rfl (lv_at hl 6 rfl) ?_
        refine lv_bipush (v := 6) hx hb dL_act_422 (by decide) ?_
        refine lv_ishr hx hb dL_act_424 ?_
        refine lv_bipush (v := 10) hx hb dL_act_425 (by decide) ?_
        refine lv_iload hx hb dL_act_427 (lv_at hl 1 rfl) ?_
        refine lv_imul hx hb dL_act_429 ?_
        refine lv_iconst (v := 2) hx hb dL_act_430 (by decide) ?_
        refine lv_iload hx hb dL_act_431 (lv_at hl 0 rfl) ?_
        refine lv_imul hx hb dL_act_433 ?_
        refine lv_isub hx hb dL_act_434 ?_
        refine lv_iconst (v := 1) hx hb dL_act_435 (by decide) ?_
        refine lv_iadd hx hb dL_act_436 ?_
        obtain ⟨x437, hC, hM⟩ := bd_s hM
        refine cR_i (va_runS (As := [.int (p3 >>> ((6 : Int32) &&& 31)), .int ((((10 : Int32) * (nI x378.1)) - ((2 : Int32) * (((nI x378.1) * ((nI x378.1) + (1 : Int32))) / (2 : Int32)))) + (1 : Int32))]) (rest := [.int (((nI x378.1) * ((nI x378.1) + (1 : Int32))) / (2 : Int32))]) ⟨hx, hb, hml, hown, hts⟩ (kL_below (l := l) (D := D) (cI := cI) (cJ := cJ) N (p1 := (p3 >>> ((6 : Int32) &&& 31))) (p2 := ((((10 : Int32) * (nI x378.1)) - ((2 : Int32) * (((nI x378.1) * ((nI x378.1) + (1 : Int32))) / (2 : Int32)))) + (1 : Int32))) hC Hq.size) (va_cwS 2 hts gL_act_L_below rfl rfl rfl (by decide +kernel) ⟨Nat.le_of_ble_eq_true rfl, Nat.le_of_ble_eq_true rfl⟩) (preS [.int (p3 >>> ((6 : Int32) &&& 31)), .int ((((10 : Int32) * (nI x378.1)) - ((2 : Int32) * (((nI x378.1) * ((nI x378.1) + (1 : Int32))) / (2 : Int32)))) + (1 : Int32))] hN.1 (KX hK) (hP.sub (ws' := zw) [] rfl) (hD.sub (ws' := zw) [] (by decide) rfl)) rfl rfl hl.1 rfl (lv_room (Nat.le_of_ble_eq_true rfl)) dL_act_437 ⟨by show _ + 0 ≤ 1982; omega, by show _ + 0 ≤ 12992; omega⟩) hP hS (fun r0 u Hq locs hw hP hS => ?_)
        rw [hw]
        refine lv_iadd hx hb dL_act_440 ?_
        refine lv_istore (lv' := [(11, .int ((((nI x378.1) * ((nI x378.1) + (1 : Int32))) / (2 : Int32)) + x437)), (10, .int (((nI x378.1) * ((nI x378.1) + (1 : Int32))) / (2 : Int32))), (9, .int (nI x378.1)), (8, .int (gD ((v3 / wI).toNatClampNeg) (v3 - v3 / wI * wI).toNatClampNeg)), (7, .ref (c 3)), (0, .ref (a 15)), (1, .ref (c 0)), (2, .int p3), (3, .int v3), (4, .ref (r 0 i4)), (5, .int v5), (6, .int v6)]) hx hb dL_act_441 hl (by decide) rfl (fun ls hl => ?_)
        refine lv_aload hx hb dL_act_443 (lv_at hl 4 rfl) ?_
        refine lv_iload_n hx hb dL_act_445 rfl (lv_at hl 8 rfl) ?_
        refine lv_aload_n hx hb dL_act_446 rfl (lv_at hl 6 rfl) ?_
        refine va_get (D := D) (ci := 5) (v := .int wI) (C := RX5) (T := TX5) (N := 8) hx hb hts iX5 hown hK hP 16 rfl rfl 0 (by decide) f9 (fun _ h9 => h9) rfl dL_act_447 ?_
        obtain ⟨hz450, hM⟩ := it_x hM
        refine lv_idiv hx hb dL_act_450 hz450 ?_
        obtain ⟨hb451, hM⟩ := it_x hM
        refine z_aald (D := D) hx hb hK hP 19 rfl hb451 dL_act_451 ?_
        refine lv_iload_n hx hb dL_act_452 rfl (lv_at hl 8 rfl) ?_
        refine lv_aload_n hx hb dL_act_453 rfl (lv_at hl 6 rfl) ?_
        refine va_get (D := D) (ci := 5) (v := .int wI) (C := RX5) (T := TX5) (N := 8) hx hb hts iX5 hown hK hP 16 rfl rfl 0 (by decide) f9 (fun _ h9 => h9) rfl dL_act_454 ?_
        obtain ⟨hz457, hM⟩ := it_x hM
        refine lv_irem hx hb dL_act_457 hz457 ?_
        refine lv_iload hx hb dL_act_458 (lv_at hl 0 rfl) ?_
        obtain ⟨hb460, hM⟩ := it_x hM
        refine va_iast (D := D) hx hb hK hP hD hS _ 0 (row2 (xw a cI cJ ho ke hc tr fo fr st co ro cA cD su jA jD ++ (z4 c cM wI hI Hn r ++ [(q378, .inl (cI, x378.1, .inl x378.2))])) (lt_in hb451)) rfl hb460 dL_act_460 (fun Hq locs hP hD hS => ?_)
        rw [set2 _ (lt_in hb451)] at hP hD
        refine lv_aload_n hx hb dL_act_461 rfl (lv_at hl 5 rfl) ?_
        refine lv_iload_n hx hb dL_act_462 rfl (lv_at hl 8 rfl) ?_
        refine lv_iload hx hb dL_act_463 (lv_at hl 11 rfl) ?_
        refine lv_iload hx hb dL_act_465 (lv_at hl 0 rfl) ?_
        obtain ⟨x467, hC, hM⟩ := bd_s hM
        refine cTQ_i [0, 1, 2, 3, 4, 5, 6, 7, 8, 9, 10, 11, 12, 13, 14, 15] [16, 17, 18, 19, 20] (vx_runV (As := [.int v3, .int v6, .int ((((nI x378.1) * ((nI x378.1) + (1 : Int32))) / (2 : Int32)) + x437)]) (rest := []) ⟨hx, hb, hml, hown, hts⟩ (kX4_setSum (l := l) (D := D) (cI := cI) (cJ := cJ) hlt N a (ho := ho) (ke := ke) (hc := hc) (tr := tr) (fo := fo) (fr := fr) (st := st) (co := co) (ro := ro) (cA := cA) (cD := cD) (su := su) (jA := jA) (jD := jD) (p1 := v3) (p2 := v6) (p3 := ((((nI x378.1) * ((nI x378.1) + (1 : Int32))) / (2 : Int32)) + x437)) hC Hq.size) (cwV 3 hts gL_act_X4_setSum rfl rfl rfl (by decide +kernel) ⟨Nat.le_of_ble_eq_true rfl, Nat.le_of_ble_eq_true rfl⟩) (preVT [.int v3, .int v6, .int ((((nI x378.1) * ((nI x378.1) + (1 : Int32))) / (2 : Int32)) + x437)] hTX hS (freeQ (cx := (xw a cI cJ ho ke hc tr fo fr st co ro cA cD su jA jD)) hD hS hA [0, 1, 2, 3, 4, 5, 6, 7, 8, 9, 10, 11, 12, 13, 14, 15] rfl) hN.1 (KX hK) (subQ (cx := (xw a cI cJ ho ke hc tr fo fr st co ro cA cD su jA jD)) hP [0, 1, 2, 3, 4, 5, 6, 7, 8, 9, 10, 11, 12, 13, 14, 15] rfl) (subQD (cx := (xw a cI cJ ho ke hc tr fo fr st co ro cA cD su jA jD)) hD [0, 1, 2, 3, 4, 5, 6, 7, 8, 9, 10, 11, 12, 13, 14, 15] (by decide) rfl) (ci := 4) (q0 := 3) rfl rfl) rfl rfl hl.1 rfl (lv_room (Nat.le_of_ble_eq_true rfl)) dL_act_467 ⟨by show _ + 2 ≤ 1982; omega, by show _ + 12 ≤ 12992; omega⟩) hP hD hS hA rfl (wr := (z4 c cM wI hI Hn r ++ [(q378, .inl (cI, x378.1, .inl x378.2))])) rfl (by decide) (by decide) (fun E ce q9 Hq locs hE hP hD hS h1 h2 h3 => ?_) (fun r0 u467 Hq locs hw hP hD hS => ?_)
        · obtain ⟨k, hk, hE⟩ := hE
          subst hk
          cases hM
        obtain ⟨hxx, hw⟩ := hw
        subst hxx
        dsimp only [Sum.elim] at hM
        replace hP : va_P D vwCl ((xw a cI cJ ho ke hc tr fo u467.1.2.1 st co ro u467.1.2.2.1 u467.1.2.2.2 su jA jD ++ (z4 c cM wI hI Hn r ++ [(q378, .inl (cI, x378.1, .inl x378.2))])) ++ (zpl cI Wn Hn r gS gA (updR gD ((v3 / wI).toNatClampNeg) (upd (gD ((v3 / wI).toNatClampNeg)) (v3 - v3 / wI * wI).toNatClampNeg ((((nI x378.1) * ((nI x378.1) + (1 : Int32))) / (2 : Int32)) + x437))))) Hq := va_P.part (cx := (xw a cI cJ ho ke hc tr fo u467.1.2.1 st co ro u467.1.2.2.1 u467.1.2.2.2 su jA jD ++ (z4 c cM wI hI Hn r ++ [(q378, .inl (cI, x378.1, .inl x378.2))]))) (pl := (zpl cI Wn Hn r gS gA (updR gD ((v3 / wI).toNatClampNeg) (upd (gD ((v3 / wI).toNatClampNeg)) (v3 - v3 / wI * wI).toNatClampNeg ((((nI x378.1) * ((nI x378.1) + (1 : Int32))) / (2 : Int32)) + x437))))) hP [5, 6, 7, 8, 9, 10, 11, 12, 13, 14, 15, 16, 17, 18, 19, 20, 0, 1, 2, 3, 4] rfl
        replace hD : va_D A ((xw a cI cJ ho ke hc tr fo u467.1.2.1 st co ro u467.1.2.2.1 u467.1.2.2.2 su jA jD ++ (z4 c cM wI hI Hn r ++ [(q378, .inl (cI, x378.1, .inl x378.2))])) ++ (zpl cI Wn Hn r gS gA (updR gD ((v3 / wI).toNatClampNeg) (upd (gD ((v3 / wI).toNatClampNeg)) (v3 - v3 / wI * wI).toNatClampNeg ((((nI x378.1) * ((nI x378.1) + (1 : Int32))) / (2 : Int32)) + x437))))) := va_D.part (cx := (xw a cI cJ ho ke hc tr fo u467.1.2.1 st co ro u467.1.2.2.1 u467.1.2.2.2 su jA jD ++ (z4 c cM wI hI Hn r ++ [(q378, .inl (cI, x378.1, .inl x378.2))]))) (pl := (zpl cI Wn Hn r gS gA (updR gD ((v3 / wI).toNatClampNeg) (upd (gD ((v3 / wI).toNatClampNeg)) (v3 - v3 / wI * wI).toNatClampNeg ((((nI x378.1) * ((nI x378.1) + (1 : Int32))) / (2 : Int32)) + x437))))) hD [5, 6, 7, 8, 9, 10, 11, 12, 13, 14, 15, 16, 17, 18, 19, 20, 0, 1, 2, 3, 4] (by decide) rfl
        rw [hw]
        refine W.widen (k := kc + 10) (n := ks + 61) (by omega) (by omega) ?_
        refine lv_iload hx hb dL_act_470 (lv_at hl 3 rfl) ?_
        refine lv_icmp_ne (tgt := 479) hx hb dL_act_472 (by decide) (fun hcc => ?_) (fun hcc => ?_)
        · replace hM := it_n hcc hM
          refine lv_iconst (v := 0) hx hb dL_act_479 (by decide) ?_
          obtain rfl := Option.some.inj hM
          replace hP := va_P.part (cx := (xw a cI cJ ho ke hc tr fo u467.1.2.1 st co ro u467.1.2.2.1 u467.1.2.2.2 su jA jD ++ (z4 c cM wI hI Hn r))) hP [0, 1, 2, 3, 4, 5, 6, 7, 8, 9, 10, 11, 12, 13, 14, 15, 16, 17, 18, 19] rfl
          replace hD := va_D.part (cx := (xw a cI cJ ho ke hc tr fo u467.1.2.1 st co ro u467.1.2.2.1 u467.1.2.2.2 su jA jD ++ (z4 c cM wI hI Hn r))) hD [0, 1, 2, 3, 4, 5, 6, 7, 8, 9, 10, 11, 12, 13, 14, 15, 16, 17, 18, 19] (by decide) rfl
          refine W.widen (k := 1982) (n := 12992) (by omega) (by omega) ?_
          subst hQ hAe
          exact W.zret (ty := .boolean) (v := (0 : Int32)) hx hb hr (nb_z (Or.inl rfl)) (fun t ht hW => ⟨⟨(0 : Int32), (jA, jD, c, r), rfl, ⟨rfl, Or.inl rfl, rfl⟩, ⟨by rw [ht]; exact hP, hD⟩⟩, hS.F ht⟩) hS.2.2 dL_act_480
        · replace hM := it_p hcc hM
          refine lv_iconst (v := 1) hx hb dL_act_475 (by decide) ?_
          refine lv_goto (tgt := 480) hx hb dL_act_476 (by decide) ?_
          obtain rfl := Option.some.inj hM
          replace hP := va_P.part (cx := (xw a cI cJ ho ke hc tr fo u467.1.2.1 st co ro u467.1.2.2.1 u467.1.2.2.2 su jA jD ++ (z4 c cM wI hI Hn r))) hP [0, 1, 2, 3, 4, 5, 6, 7, 8, 9, 10, 11, 12, 13, 14, 15, 16, 17, 18, 19] rfl
          replace hD := va_D.part (cx := (xw a cI cJ ho ke hc tr fo u467.1.2.1 st co ro u467.1.2.2.1 u467.1.2.2.2 su jA jD ++ (z4 c cM wI hI Hn r))) hD [0, 1, 2, 3, 4, 5, 6, 7, 8, 9, 10, 11, 12, 13, 14, 15, 16, 17, 18, 19] (by decide) rfl
          refine W.widen (k := 1982) (n := 12992) (by omega) (by omega) ?_
          subst hQ hAe
          exact W.zret (ty := .boolean) (v := (1 : Int32)) hx hb hr (nb_z (Or.inr rfl)) (fun t ht hW => ⟨⟨(1 : Int32), (jA, jD, c, r), rfl, ⟨rfl, Or.inr rfl, rfl⟩, ⟨by rw [ht]; exact hP, hD⟩⟩, hS.F ht⟩) hS.2.2 dL_act_480
      · replace hM := it_p hcc hM
        refine lv_iload_n hx hb dL_act_407 rfl (lv_at hl 6 rfl) ?_
        refine lv_bipush (v := 6) hx hb dL_act_408 (by decide) ?_
        refine lv_ishr hx hb dL_act_410 ?_
        refine lv_bipush (v := 46) hx hb dL_act_411 (by decide) ?_
        obtain ⟨x413, hC, hM⟩ := bd_s hM
        refine cR_i (va_runS (As := [.int (p3 >>> ((6 : Int32) &&& 31)), .int (46 : Int32)]) (rest := []) ⟨hx, hb, hml, hown, hts⟩ (kL_below (l := l) (D := D) (cI := cI) (cJ := cJ) N (p1 := (p3 >>> ((6 : Int32) &&& 31))) (p2 := (46 : Int32)) hC Hq.size) (va_cwS 2 hts gL_act_L_below rfl rfl rfl (by decide +kernel) ⟨Nat.le_of_ble_eq_true rfl, Nat.le_of_ble_eq_true rfl⟩) (preS [.int (p3 >>> ((6 : Int32) &&& 31)), .int (46 : Int32)] hN.1 (KX hK) (hP.sub (ws' := zw) [] rfl) (hD.sub (ws' := zw) [] (by decide) rfl)) rfl rfl hl.1 rfl (lv_room (Nat.le_of_ble_eq_true rfl)) dL_act_413 ⟨by show _ + 0 ≤ 1982; omega, by show _ + 0 ≤ 12992; omega⟩) hP hS (fun r0 u Hq locs hw hP hS => ?_)
        rw [hw]
        refine lv_goto (tgt := 441) hx hb dL_act_416 (by decide) ?_
        refine lv_istore (lv' := [(11, .int x413), (10, .int (((nI x378.1) * ((nI x378.1) + (1 : Int32))) / (2 : Int32))), (9, .int (nI x378.1)), (8, .int (gD ((v3 / wI).toNatClampNeg) (v3 - v3 / wI * wI).toNatClampNeg)), (7, .ref (c 3)), (0, .ref (a 15)), (1, .ref (c 0)), (2, .int p3), (3, .int v3), (4, .ref (r 0 i4)), (5, .int v5), (6, .int v6)]) hx hb dL_act_441 hl (by decide) rfl (fun ls hl => ?_)
        refine lv_aload hx hb dL_act_443 (lv_at hl 4 rfl) ?_
        refine lv_iload_n hx hb dL_act_445 rfl (lv_at hl 8 rfl) ?_
        refine lv_aload_n hx hb dL_act_446 rfl (lv_at hl 6 rfl) ?_
        refine va_get (D := D) (ci := 5) (v := .int wI) (C := RX5) (T := TX5) (N := 8) hx hb hts iX5 hown hK hP 16 rfl rfl 0 (by decide) f9 (fun _ h9 => h9) rfl dL_act_447 ?_
        obtain ⟨hz450, hM⟩ := it_x hM
        refine lv_idiv hx hb dL_act_450 hz450 ?_
        obtain ⟨hb451, hM⟩ := it_x hM
        refine z_aald (D := D) hx hb hK hP 19 rfl hb451 dL_act_451 ?_
        refine lv_iload_n hx hb dL_act_452 rfl (lv_at hl 8 rfl) ?_
        refine lv_aload_n hx hb dL_act_453 rfl (lv_at hl 6 rfl) ?_
        refine va_get (D := D) (ci := 5) (v := .int wI) (C := RX5) (T := TX5) (N := 8) hx hb hts iX5 hown hK hP 16 rfl rfl 0 (by decide) f9 (fun _ h9 => h9) rfl dL_act_454 ?_
        obtain ⟨hz457, hM⟩ := it_x hM
        refine lv_irem hx hb dL_act_457 hz457 ?_
        refine lv_iload hx hb dL_act_458 (lv_at hl 0 rfl) ?_
        obtain ⟨hb460, hM⟩ := it_x hM
        refine va_iast (D := D) hx hb hK hP hD hS _ 0 (row2 (xw a cI cJ ho ke hc tr fo fr st co ro cA cD su jA jD ++ (z4 c cM wI hI Hn r ++ [(q378, .inl (cI, x378.1, .inl x378.2))])) (lt_in hb451)) rfl hb460 dL_act_460 (fun Hq locs hP hD hS => ?_)
        rw [set2 _ (lt_in hb451)] at hP hD
        refine lv_aload_n hx hb dL_act_461 rfl (lv_at hl 5 rfl) ?_
        refine lv_iload_n hx hb dL_act_462 rfl (lv_at hl 8 rfl) ?_
        refine lv_iload hx hb dL_act_463 (lv_at hl 11 rfl) ?_
        refine lv_iload hx hb dL_act_465 (lv_at hl 0 rfl) ?_
        obtain ⟨x467, hC, hM⟩ := bd_s hM
        refine cTQ_i [0, 1, 2, 3, 4, 5, 6, 7, 8, 9, 10, 11, 12, 13, 14, 15] [16, 17, 18, 19, 20] (vx_runV (As := [.int v3, .int v6, .int x413]) (rest := []) ⟨hx, hb, hml, hown, hts⟩ (kX4_setSum (l := l) (D := D) (cI := cI) (cJ := cJ) hlt N a (ho := ho) (ke := ke) (hc := hc) (tr := tr) (fo := fo) (fr := fr) (st := st) (co := co) (ro := ro) (cA := cA) (cD := cD) (su := su) (jA := jA) (jD := jD) (p1 := v3) (p2 := v6) (p3 := x413) hC Hq.size) (cwV 3 hts gL_act_X4_setSum rfl rfl rfl (by decide +kernel) ⟨Nat.le_of_ble_eq_true rfl, Nat.le_of_ble_eq_true rfl⟩) (preVT [.int v3, .int v6, .int x413] hTX hS (freeQ (cx := (xw a cI cJ ho ke hc tr fo fr st co ro cA cD su jA jD)) hD hS hA [0, 1, 2, 3, 4, 5, 6, 7, 8, 9, 10, 11, 12, 13, 14, 15] rfl) hN.1 (KX hK) (subQ (cx := (xw a cI cJ ho ke hc tr fo fr st co ro cA cD su jA jD)) hP [0, 1, 2, 3, 4, 5, 6, 7, 8, 9, 10, 11, 12, 13, 14, 15] rfl) (subQD (cx := (xw a cI cJ ho ke hc tr fo fr st co ro cA cD su jA jD)) hD [0, 1, 2, 3, 4, 5, 6, 7, 8, 9, 10, 11, 12, 13, 14, 15] (by decide) rfl) (ci := 4) (q0 := 3) rfl rfl) rfl rfl hl.1 rfl (lv_room (Nat.le_of_ble_eq_true rfl)) dL_act_467 ⟨by show _ + 2 ≤ 1982; omega, by show _ + 12 ≤ 12992; omega⟩) hP hD hS hA rfl (wr := (z4 c cM wI hI Hn r ++ [(q378, .inl (cI, x378.1, .inl x378.2))])) rfl (by decide) (by decide) (fun E ce q9 Hq locs hE hP hD hS h1 h2 h3 => ?_) (fun r0 u467 Hq locs hw hP hD hS => ?_)
        · obtain ⟨k, hk, hE⟩ := hE
          subst hk
          cases hM
        obtain ⟨hxx, hw⟩ := hw
        subst hxx
        dsimp only [Sum.elim] at hM
        replace hP : va_P D vwCl ((xw a cI cJ ho ke hc tr fo u467.1.2.1 st co ro u467.1.2.2.1 u467.1.2.2.2 su jA jD ++ (z4 c cM wI hI Hn r ++ [(q378, .inl (cI, x378.1, .inl x378.2))])) ++ (zpl cI Wn Hn r gS gA (updR gD ((v3 / wI).toNatClampNeg) (upd (gD ((v3 / wI).toNatClampNeg)) (v3 - v3 / wI * wI).toNatClampNeg x413)))) Hq := va_P.part (cx := (xw a cI cJ ho ke hc tr fo u467.1.2.1 st co ro u467.1.2.2.1 u467.1.2.2.2 su jA jD ++ (z4 c cM wI hI Hn r ++ [(q378, .inl (cI, x378.1, .inl x378.2))]))) (pl := (zpl cI Wn Hn r gS gA (updR gD ((v3 / wI).toNatClampNeg) (upd (gD ((v3 / wI).toNatClampNeg)) (v3 - v3 / wI * wI).toNatClampNeg x413)))) hP [5, 6, 7, 8, 9, 10, 11, 12, 13, 14, 15, 16, 17, 18, 19, 20, 0, 1, 2, 3, 4] rfl
        replace hD : va_D A ((xw a cI cJ ho ke hc tr fo u467.1.2.1 st co ro u467.1.2.2.1 u467.1.2.2.2 su jA jD ++ (z4 c cM wI hI Hn r ++ [(q378, .inl (cI, x378.1, .inl x378.2))])) ++ (zpl cI Wn Hn r gS gA (updR gD ((v3 / wI).toNatClampNeg) (upd (gD ((v3 / wI).toNatClampNeg)) (v3 - v3 / wI * wI).toNatClampNeg x413)))) := va_D.part (cx := (xw a cI cJ ho ke hc tr fo u467.1.2.1 st co ro u467.1.2.2.1 u467.1.2.2.2 su jA jD ++ (z4 c cM wI hI Hn r ++ [(q378, .inl (cI, x378.1, .inl x378.2))]))) (pl := (zpl cI Wn Hn r gS gA (updR gD ((v3 / wI).toNatClampNeg) (upd (gD ((v3 / wI).toNatClampNeg)) (v3 - v3 / wI * wI).toNatClampNeg x413)))) hD [5, 6, 7, 8, 9, 10, 11, 12, 13, 14, 15, 16, 17, 18, 19, 20, 0, 1, 2, 3, 4] (by decide) rfl
        rw [hw]
        refine W.widen (k := kc + 10) (n := ks + 61) (by omega) (by omega) ?_
        refine lv_iload hx hb dL_act_470 (lv_at hl 3 rfl) ?_
        refine lv_icmp_ne (tgt := 479) hx hb dL_act_472 (by decide) (fun hcc => ?_) (fun hcc => ?_)
        · replace hM := it_n hcc hM
          refine lv_iconst (v := 0) hx hb dL_act_479 (by decide) ?_
          obtain rfl := Option.some.inj hM
          replace hP := va_P.part (cx := (xw a cI cJ ho ke hc tr fo u467.1.2.1 st co ro u467.1.2.2.1 u467.1.2.2.2 su jA jD ++ (z4 c cM wI hI Hn r))) hP [0, 1, 2, 3, 4, 5, 6, 7, 8, 9, 10, 11, 12, 13, 14, 15, 16, 17, 18, 19] rfl
          replace hD := va_D.part (cx := (xw a cI cJ ho ke hc tr fo u467.1.2.1 st co ro u467.1.2.2.1 u467.1.2.2.2 su jA jD ++ (z4 c cM wI hI Hn r))) hD [0, 1, 2, 3, 4, 5, 6, 7, 8, 9, 10, 11, 12, 13, 14, 15, 16, 17, 18, 19] (by decide) rfl
          refine W.widen (k := 1982) (n := 12992) (by omega) (by omega) ?_
          subst hQ hAe
          exact W.zret (ty := .boolean) (v := (0 : Int32)) hx hb hr (nb_z (Or.inl rfl)) (fun t ht hW => ⟨⟨(0 : Int32), (jA, jD, c, r), rfl, ⟨rfl, Or.inl rfl, rfl⟩, ⟨by rw [ht]; exact hP, hD⟩⟩, hS.F ht⟩) hS.2.2 dL_act_480
        · replace hM := it_p hcc hM
          refine lv_iconst (v := 1) hx hb dL_act_475 (by decide) ?_
          refine lv_goto (tgt := 480) hx hb dL_act_476 (by decide) ?_
          obtain rfl := Option.some.inj hM
          replace hP := va_P.part (cx := (xw a cI cJ ho ke hc tr fo u467.1.2.1 st co ro u467.1.2.2.1 u467.1.2.2.2 su jA jD ++ (z4 c cM wI hI Hn r))) hP [0, 1, 2, 3, 4, 5, 6, 7, 8, 9, 10, 11, 12, 13, 14, 15, 16, 17, 18, 19] rfl
          replace hD := va_D.part (cx := (xw a cI cJ ho ke hc tr fo u467.1.2.1 st co ro u467.1.2.2.1 u467.1.2.2.2 su jA jD ++ (z4 c cM wI hI Hn r))) hD [0, 1, 2, 3, 4, 5, 6, 7, 8, 9, 10, 11, 12, 13, 14, 15, 16, 17, 18, 19] (by decide) rfl
          refine W.widen (k := 1982) (n := 12992) (by omega) (by omega) ?_
          subst hQ hAe
          exact W.zret (ty := .boolean) (v := (1 : Int32)) hx hb hr (nb_z (Or.inr rfl)) (fun t ht hW => ⟨⟨(1 : Int32), (jA, jD, c, r), rfl, ⟨rfl, Or.inr rfl, rfl⟩, ⟨by rw [ht]; exact hP, hD⟩⟩, hS.F ht⟩) hS.2.2 dL_act_480
    · replace hM := it_n hcc hM
      refine lv_iconst (v := 1) hx hb dL_act_349 (by decide) ?_
      refine lv_goto (tgt := 382) hx hb dL_act_350 (by decide) ?_
      refine lv_istore (lv' := [(9, .int (1 : Int32)), (8, .int (gD ((v3 / wI).toNatClampNeg) (v3 - v3 / wI * wI).toNatClampNeg)), (7, .ref (c 3)), (0, .ref (a 15)), (1, .ref (c 0)), (2, .int p3), (3, .int v3), (4, .ref (r 0 i4)), (5, .int v5), (6, .int v6)]) hx hb dL_act_382 hl (by decide) rfl (fun ls hl => ?_)
      refine lv_iload hx hb dL_act_384 (lv_at hl 0 rfl) ?_
      refine lv_iload hx hb dL_act_386 (lv_at hl 0 rfl) ?_
      refine lv_iconst (v := 1) hx hb dL_act_388 (by decide) ?_
      refine lv_iadd hx hb dL_act_389 ?_
      refine lv_imul hx hb dL_act_390 ?_
      refine lv_iconst (v := 2) hx hb dL_act_391 (by decide) ?_
      obtain ⟨hz392, hM⟩ := it_x hM
      refine lv_idiv hx hb dL_act_392 hz392 ?_
      refine lv_istore (lv' := [(10, .int (((1 : Int32) * ((1 : Int32) + (1 : Int32))) / (2 : Int32))), (9, .int (1 : Int32)), (8, .int (gD ((v3 / wI).toNatClampNeg) (v3 - v3 / wI * wI).toNatClampNeg)), (7, .ref (c 3)), (0, .ref (a 15)), (1, .ref (c 0)), (2, .int p3), (3, .int v3), (4, .ref (r 0 i4)), (5, .int v5), (6, .int v6)]) hx hb dL_act_393 hl (by decide) rfl (fun ls hl => ?_)
      refine lv_iload_n hx hb dL_act_395 rfl (lv_at hl 6 rfl) ?_
      refine lv_bipush (v := 9) hx hb dL_act_396 (by decide) ?_
      refine lv_ishr hx hb dL_act_398 ?_
      refine lv_bipush (v := 8) hx hb dL_act_399 (by decide) ?_
      obtain ⟨x401, hC, hM⟩ := bd_s hM
      refine cR_i (va_runS (As := [.int (p3 >>> ((9 : Int32) &&& 31)), .int (8 : Int32)]) (rest := []) ⟨hx, hb, hml, hown, hts⟩ (kL_below (l := l) (D := D) (cI := cI) (cJ := cJ) N (p1 := (p3 >>> ((9 : Int32) &&& 31))) (p2 := (8 : Int32)) hC Hq.size) (va_cwS 2 hts gL_act_L_below rfl rfl rfl (by decide +kernel) ⟨Nat.le_of_ble_eq_true rfl, Nat.le_of_ble_eq_true rfl⟩) (preS [.int (p3 >>> ((9 : Int32) &&& 31)), .int (8 : Int32)] hN.1 (KX hK) (hP.sub (ws' := zw) [] rfl) (hD.sub (ws' := zw) [] (by decide) rfl)) rfl rfl hl.1 rfl (lv_room (Nat.le_of_ble_eq_true rfl)) dL_act_401 ⟨by show _ + 0 ≤ 1982; omega, by show _ + 0 ≤ 12992; omega⟩) hP hS (fun r0 u Hq locs hw hP hS => ?_)
      rw [hw]
      refine lv_if_ne (tgt := 419) hx hb dL_act_404 (by decide) (fun hcc => ?_) (fun hcc => ?_)
      · replace hM := it_n hcc hM
        refine lv_iload hx hb dL_act_419 (lv_at hl 0 rfl) ?_
        refine lv_iload_n hx hb dL_act_421 rfl (lv_at hl 6 rfl) ?_
        refine lv_bipush (v := 6) hx hb dL_act_422 (by decide) ?_
        refine lv_ishr hx hb dL_act_424 ?_
        refine lv_bipush (v := 10) hx hb dL_act_425 (by decide) ?_
        refine lv_iload hx hb dL_act_427 (lv_at hl 1 rfl) ?_
        refine lv_imul hx hb dL_act_429 ?_
        refine lv_iconst (v := 2) hx hb dL_act_430 (by decide) ?_
        refine lv_iload hx hb dL_act_431 (lv_at hl 0 rfl) ?_
        refine lv_imul hx hb dL_act_433 ?_
        refine lv_isub hx hb dL_act_434 ?_
        refine lv_iconst (v := 1) hx hb dL_act_435 (by decide) ?_
        refine lv_iadd hx hb dL_act_436 ?_
        obtain ⟨x437, hC, hM⟩ := bd_s hM
        refine cR_i (va_runS (As := [.int (p3 >>> ((6 : Int32) &&& 31)), .int ((((10 : Int32) * (1 : Int32)) - ((2 : Int32) * (((1 : Int32) * ((1 : Int32) + (1 : Int32))) / (2 : Int32)))) + (1 : Int32))]) (rest := [.int (((1 : Int32) * ((1 : Int32) + (1 : Int32))) / (2 : Int32))]) ⟨hx, hb, hml, hown, hts⟩ (kL_below (l := l) (D := D) (cI := cI) (cJ := cJ) N (p1 := (p3 >>> ((6 : Int32) &&& 31))) (p2 := ((((10 : Int32) * (1 : Int32)) - ((2 : Int32) * (((1 : Int32) * ((1 : Int32) + (1 : Int32))) / (2 : Int32)))) + (1 : Int32))) hC Hq.size) (va_cwS 2 hts gL_act_L_below rfl rfl rfl (by decide +kernel) ⟨Nat.le_of_ble_eq_true rfl, Nat.le_of_ble_eq_true rfl⟩) (preS [.int (p3 >>> ((6 : Int32) &&& 31)), .int ((((10 : Int32) * (1 : Int32)) - ((2 : Int32) * (((1 : Int32) * ((1 : Int32) + (1 : Int32))) / (2 : Int32)))) + (1 : Int32))] hN.1 (KX hK) (hP.sub (ws' := zw) [] rfl) (hD.sub (ws' := zw) [] (by decide) rfl)) rfl rfl hl.1 rfl (lv_room (Nat.le_of_ble_eq_true rfl)) dL_act_437 ⟨by show _ + 0 ≤ 1982; omega, by show _ + 0 ≤ 12992; omega⟩) hP hS (fun r0 u Hq locs hw hP hS => ?_)
        rw [hw]
        refine lv_iadd hx hb dL_act_440 ?_
        refine lv_istore (lv' := [(11, .int ((((1 : Int32) * ((1 : Int32) + (1 : Int32))) / (2 : Int32)) + x437)), (10, .int (((1 : Int32) * ((1 : Int32) + (1 : Int32))) / (2 : Int32))), (9, .int (1 : Int32)), (8, .int (gD ((v3 / wI).toNatClampNeg) (v3 - v3 / wI * wI).toNatClampNeg)), (7, .ref (c 3)), (0, .ref (a 15)), (1, .ref (c 0)), (2, .int p3), (3, .int v3), (4, .ref (r 0 i4)), (5, .int v5), (6, .int v6)]) hx hb dL_act_441 hl (by decide) rfl (fun ls hl => ?_)
        refine lv_aload hx hb dL_act_443 (lv_at hl 4 rfl) ?_
        refine lv_iload_n hx hb dL_act_445 rfl (lv_at hl 8 rfl) ?_
        refine lv_aload_n hx hb dL_act_446 rfl (lv_at hl 6 rfl) ?_
        refine va_get (D := D) (ci := 5) (v := .int wI) (C := RX5) (T := TX5) (N := 8) hx hb hts iX5 hown hK hP 16 rfl rfl 0 (by decide) f9 (fun _ h9 => h9) rfl dL_act_447 ?_
        obtain ⟨hz450, hM⟩ := it_x hM
        refine lv_idiv hx hb dL_act_450 hz450 ?_
        obtain ⟨hb451, hM⟩ := it_x hM
        refine z_aald (D := D) hx hb hK hP 19 rfl hb451 dL_act_451 ?_
        refine lv_iload_n hx hb dL_act_452 rfl (lv_at hl 8 rfl) ?_
        refine lv_aload_n hx hb dL_act_453 rfl (lv_at hl 6 rfl) ?_
        refine va_get (D := D) (ci := 5) (v := .int wI) (C := RX5) (T := TX5) (N := 8) hx hb hts iX5 hown hK hP 16 rfl rfl 0 (by decide) f9 (fun _ h9 => h9) rfl dL_act_454 ?_
        obtain ⟨hz457, hM⟩ := it_x hM
        refine lv_irem hx hb dL_act_457 hz457 ?_
        refine lv_iload hx hb dL_act_458 (lv_at hl 0 rfl) ?_
        obtain ⟨hb460, hM⟩ := it_x hM
        refine va_iast (D := D) hx hb hK hP hD hS _ 0 (row2 (xw a cI cJ ho ke hc tr fo fr st co ro cA cD su jA jD ++ (z4 c cM wI hI Hn r)) (lt_in hb451)) rfl hb460 dL_act_460 (fun Hq locs hP hD hS => ?_)
        rw [set2 _ (lt_in hb451)] at hP hD
        refine lv_aload_n hx hb dL_act_461 rfl (lv_at hl 5 rfl) ?_
        refine lv_iload_n hx hb dL_act_462 rfl (lv_at hl 8 rfl) ?_
        refine lv_iload hx hb dL_act_463 (lv_at hl 11 rfl) ?_
        refine lv_iload hx hb dL_act_465 (lv_at hl 0 rfl) ?_
        obtain ⟨x467, hC, hM⟩ := bd_s hM
        refine cTQ_i [0, 1, 2, 3, 4, 5, 6, 7, 8, 9, 10, 11, 12, 13, 14, 15] [16, 17, 18, 19] (vx_runV (As := [.int v3, .int v6, .int ((((1 : Int32) * ((1 : Int32) + (1 : Int32))) / (2 : Int32)) + x437)]) (rest := []) ⟨hx, hb, hml, hown, hts⟩ (kX4_setSum (l := l) (D := D) (cI := cI) (cJ := cJ) hlt N a (ho := ho) (ke := ke) (hc := hc) (tr := tr) (fo := fo) (fr := fr) (st := st) (co := co) (ro := ro) (cA := cA) (cD := cD) (su := su) (jA := jA) (jD := jD) (p1 := v3) (p2 := v6) (p3 := ((((1 : Int32) * ((1 : Int32) + (1 : Int32))) / (2 : Int32)) + x437)) hC Hq.size) (cwV 3 hts gL_act_X4_setSum rfl rfl rfl (by decide +kernel) ⟨Nat.le_of_ble_eq_true rfl, Nat.le_of_ble_eq_true rfl⟩) (preVT [.int v3, .int v6, .int ((((1 : Int32) * ((1 : Int32) + (1 : Int32))) / (2 : Int32)) + x437)] hTX hS (freeQ (cx := (xw a cI cJ ho ke hc tr fo fr st co ro cA cD su jA jD)) hD hS hA [0, 1, 2, 3, 4, 5, 6, 7, 8, 9, 10, 11, 12, 13, 14, 15] rfl) hN.1 (KX hK) (subQ (cx := (xw a cI cJ ho ke hc tr fo fr st co ro cA cD su jA jD)) hP [0, 1, 2, 3, 4, 5, 6, 7, 8, 9, 10, 11, 12, 13, 14, 15] rfl) (subQD (cx := (xw a cI cJ ho ke hc tr fo fr st co ro cA cD su jA jD)) hD [0, 1, 2, 3, 4, 5, 6, 7, 8, 9, 10, 11, 12, 13, 14, 15] (by decide) rfl) (ci := 4) (q0 := 3) rfl rfl) rfl rfl hl.1 rfl (lv_room (Nat.le_of_ble_eq_true rfl)) dL_act_467 ⟨by show _ + 2 ≤ 1982; omega, by show _ + 12 ≤ 12992; omega⟩) hP hD hS hA rfl (wr := (z4 c cM wI hI Hn r)) rfl (by decide) (by decide) (fun E ce q9 Hq locs hE hP hD hS h1 h2 h3 => ?_) (fun r0 u467 Hq locs hw hP hD hS => ?_)
        · obtain ⟨k, hk, hE⟩ := hE
          subst hk
          cases hM
        obtain ⟨hxx, hw⟩ := hw
        subst hxx
        dsimp only [Sum.elim] at hM
        replace hP : va_P D vwCl ((xw a cI cJ ho ke hc tr fo u467.1.2.1 st co ro u467.1.2.2.1 u467.1.2.2.2 su jA jD ++ (z4 c cM wI hI Hn r)) ++ (zpl cI Wn Hn r gS gA (updR gD ((v3 / wI).toNatClampNeg) (upd (gD ((v3 / wI).toNatClampNeg)) (v3 - v3 / wI * wI).toNatClampNeg ((((1 : Int32) * ((1 : Int32) + (1 : Int32))) / (2 : Int32)) + x437))))) Hq := va_P.part (cx := (xw a cI cJ ho ke hc tr fo u467.1.2.1 st co ro u467.1.2.2.1 u467.1.2.2.2 su jA jD ++ (z4 c cM wI hI Hn r))) (pl := (zpl cI Wn Hn r gS gA (updR gD ((v3 / wI).toNatClampNeg) (upd (gD ((v3 / wI).toNatClampNeg)) (v3 - v3 / wI * wI).toNatClampNeg ((((1 : Int32) * ((1 : Int32) + (1 : Int32))) / (2 : Int32)) + x437))))) hP [4, 5, 6, 7, 8, 9, 10, 11, 12, 13, 14, 15, 16, 17, 18, 19, 0, 1, 2, 3] rfl
        replace hD : va_D A ((xw a cI cJ ho ke hc tr fo u467.1.2.1 st co ro u467.1.2.2.1 u467.1.2.2.2 su jA jD ++ (z4 c cM wI hI Hn r)) ++ (zpl cI Wn Hn r gS gA (updR gD ((v3 / wI).toNatClampNeg) (upd (gD ((v3 / wI).toNatClampNeg)) (v3 - v3 / wI * wI).toNatClampNeg ((((1 : Int32) * ((1 : Int32) + (1 : Int32))) / (2 : Int32)) + x437))))) := va_D.part (cx := (xw a cI cJ ho ke hc tr fo u467.1.2.1 st co ro u467.1.2.2.1 u467.1.2.2.2 su jA jD ++ (z4 c cM wI hI Hn r))) (pl := (zpl cI Wn Hn r gS gA (updR gD ((v3 / wI).toNatClampNeg) (upd (gD ((v3 / wI).toNatClampNeg)) (v3 - v3 / wI * wI).toNatClampNeg ((((1 : Int32) * ((1 : Int32) + (1 : Int32))) / (2 : Int32)) + x437))))) hD [4, 5, 6, 7, 8, 9, 10, 11, 12, 13, 14, 15, 16, 17, 18, 19, 0, 1, 2, 3] (by decide) rfl
        rw [hw]
        refine W.widen (k := kc + 2) (n := ks + 12) (by omega) (by omega) ?_
        refine lv_iload hx hb dL_act_470 (lv_at hl 3 rfl) ?_
        refine lv_icmp_ne (tgt := 479) hx hb dL_act_472 (by decide) (fun hcc => ?_) (fun hcc => ?_)
        · replace hM := it_n hcc hM
          refine lv_iconst (v := 0) hx hb dL_act_479 (by decide) ?_
          obtain rfl := Option.some.inj hM
          refine W.widen (k := 1982) (n := 12992) (by omega) (by omega) ?_
          subst hQ hAe
          exact W.zret (ty := .boolean) (v := (0 : Int32)) hx hb hr (nb_z (Or.inl rfl)) (fun t ht hW => ⟨⟨(0 : Int32), (jA, jD, c, r), rfl, ⟨rfl, Or.inl rfl, rfl⟩, ⟨by rw [ht]; exact hP, hD⟩⟩, hS.F ht⟩) hS.2.2 dL_act_480
        · replace hM := it_p hcc hM
          refine lv_iconst (v := 1) hx hb dL_act_475 (by decide) ?_
          refine lv_goto (tgt := 480) hx hb dL_act_476 (by decide) ?_
          obtain rfl := Option.some.inj hM
          refine W.widen (k := 1982) (n := 12992) (by omega) (by omega) ?_
          subst hQ hAe
          exact W.zret (ty := .boolean) (v := (1 : Int32)) hx hb hr (nb_z (Or.inr rfl)) (fun t ht hW => ⟨⟨(1 : Int32), (jA, jD, c, r), rfl, ⟨rfl, Or.inr rfl, rfl⟩, ⟨by rw [ht]; exact hP, hD⟩⟩, hS.F ht⟩) hS.2.2 dL_act_480
      · replace hM := it_p hcc hM
        refine lv_iload_n hx hb dL_act_407 rfl (lv_at hl 6 rfl) ?_
        refine lv_bipush (v := 6) hx hb dL_act_408 (by decide) ?_
        refine lv_ishr hx hb dL_act_410 ?_
        refine lv_bipush (v := 46) hx hb dL_act_411 (by decide) ?_
        obtain ⟨x413, hC, hM⟩ := bd_s hM
        refine cR_i (va_runS (As := [.int (p3 >>> ((6 : Int32) &&& 31)), .int (46 : Int32)]) (rest := []) ⟨hx, hb, hml, hown, hts⟩ (kL_below (l := l) (D := D) (cI := cI) (cJ := cJ) N (p1 := (p3 >>> ((6 : Int32) &&& 31))) (p2 := (46 : Int32)) hC Hq.size) (va_cwS 2 hts gL_act_L_below rfl rfl rfl (by decide +kernel) ⟨Nat.le_of_ble_eq_true rfl, Nat.le_of_ble_eq_true rfl⟩) (preS [.int (p3 >>> ((6 : Int32) &&& 31)), .int (46 : Int32)] hN.1 (KX hK) (hP.sub (ws' := zw) [] rfl) (hD.sub (ws' := zw) [] (by decide) rfl)) rfl rfl hl.1 rfl (lv_room (Nat.le_of_ble_eq_true rfl)) dL_act_413 ⟨by show _ + 0 ≤ 1982; omega, by show _ + 0 ≤ 12992; omega⟩) hP hS (fun r0 u Hq locs hw hP hS => ?_)
        rw [hw]
        refine lv_goto (tgt := 441) hx hb dL_act_416 (by decide) ?_
        refine lv_istore (lv' := [(11, .int x413), (10, .int (((1 : Int32) * ((1 : Int32) + (1 : Int32))) / (2 : Int32))), (9, .int (1 : Int32)), (8, .int (gD ((v3 / wI).toNatClampNeg) (v3 - v3 / wI * wI).toNatClampNeg)), (7, .ref (c 3)), (0, .ref (a 15)), (1, .ref (c 0)), (2, .int p3), (3, .int v3), (4, .ref (r 0 i4)), (5, .int v5), (6, .int v6)]) hx hb dL_act_441 hl (by decide) rfl (fun ls hl => ?_)
        refine lv_aload hx hb dL_act_443 (lv_at hl 4 rfl) ?_
        refine lv_iload_n hx hb dL_act_445 rfl (lv_at hl 8 rfl) ?_
        refine lv_aload_n hx hb dL_act_446 rfl (lv_at hl 6 rfl) ?_
        refine va_get (D := D) (ci := 5) (v := .int wI) (C := RX5) (T := TX5) (N := 8) hx hb hts iX5 hown hK hP 16 rfl rfl 0 (by decide) f9 (fun _ h9 => h9) rfl dL_act_447 ?_
        obtain ⟨hz450, hM⟩ := it_x hM
        refine lv_idiv hx hb dL_act_450 hz450 ?_
        obtain ⟨hb451, hM⟩ := it_x hM
        refine z_aald (D := D) hx hb hK hP 19 rfl hb451 dL_act_451 ?_
        refine lv_iload_n hx hb dL_act_452 rfl (lv_at hl 8 rfl) ?_
        refine lv_aload_n hx hb dL_act_453 rfl (lv_at hl 6 rfl) ?_
        refine va_get (D := D) (ci := 5) (v := .int wI) (C := RX5) (T := TX5) (N := 8) hx hb hts iX5 hown hK hP 16 rfl rfl 0 (by decide) f9 (fun _ h9 => h9) rfl dL_act_454 ?_
        obtain ⟨hz457, hM⟩ := it_x hM
        refine lv_irem hx hb dL_act_457 hz457 ?_
        refine lv_iload hx hb dL_act_458 (lv_at hl 0 rfl) ?_
        obtain ⟨hb460, hM⟩ := it_x hM
        refine va_iast (D := D) hx hb hK hP hD hS _ 0 (row2 (xw a cI cJ ho ke hc tr fo fr st co ro cA cD su jA jD ++ (z4 c cM wI hI Hn r)) (lt_in hb451)) rfl hb460 dL_act_460 (fun Hq locs hP hD hS => ?_)
        rw [set2 _ (lt_in hb451)] at hP hD
        refine lv_aload_n hx hb dL_act_461 rfl (lv_at hl 5 rfl) ?_
        refine lv_iload_n hx hb dL_act_462 rfl (lv_at hl 8 rfl) ?_
        refine lv_iload hx hb dL_act_463 (lv_at hl 11 rfl) ?_
        refine lv_iload hx hb dL_act_465 (lv_at hl 0 rfl) ?_
        obtain ⟨x467, hC, hM⟩ := bd_s hM
        refine cTQ_i [0, 1, 2, 3, 4, 5, 6, 7, 8, 9, 10, 11, 12, 13, 14, 15] [16, 17, 18, 19] (vx_runV (As := [.int v3, .int v6, .int x413]) (rest := []) ⟨hx, hb, hml, hown, hts⟩ (kX4_setSum (l := l) (D := D) (cI := cI) (cJ := cJ) hlt N a (ho := ho) (ke := ke) (hc := hc) (tr := tr) (fo := fo) (fr := fr) (st := st) (co := co) (ro := ro) (cA := cA) (cD := cD) (su := su) (jA := jA) (jD := jD) (p1 := v3) (p2 := v6) (p3 := x413) hC Hq.size) (cwV 3 hts gL_act_X4_setSum rfl rfl rfl (by decide +kernel) ⟨Nat.le_of_ble_eq_true rfl, Nat.le_of_ble_eq_true rfl⟩) (preVT [.int v3, .int v6, .int x413] hTX hS (freeQ (cx := (xw a cI cJ ho ke hc tr fo fr st co ro cA cD su jA jD)) hD hS hA [0, 1, 2, 3, 4, 5, 6, 7, 8, 9, 10, 11, 12, 13, 14, 15] rfl) hN.1 (KX hK) (subQ (cx := (xw a cI cJ ho ke hc tr fo fr st co ro cA cD su jA jD)) hP [0, 1, 2, 3, 4, 5, 6, 7, 8, 9, 10, 11, 12, 13, 14, 15] rfl) (subQD (cx := (xw a cI cJ ho ke hc tr fo fr st co ro cA cD su jA jD)) hD [0, 1, 2, 3, 4, 5, 6, 7, 8, 9, 10, 11, 12, 13, 14, 15] (by decide) rfl) (ci := 4) (q0 := 3) rfl rfl) rfl rfl hl.1 rfl (lv_room (Nat.le_of_ble_eq_true rfl)) dL_act_467 ⟨by show _ + 2 ≤ 1982; omega, by show _ + 12 ≤ 12992; omega⟩) hP hD hS hA rfl (wr := (z4 c cM wI hI Hn r)) rfl (by decide) (by decide) (fun E ce q9 Hq locs hE hP hD hS h1 h2 h3 => ?_) (fun r0 u467 Hq locs hw hP hD hS => ?_)
        · obtain ⟨k, hk, hE⟩ := hE
          subst hk
          cases hM
        obtain ⟨hxx, hw⟩ := hw
        subst hxx
        dsimp only [Sum.elim] at hM
        replace hP : va_P D vwCl ((xw a cI cJ ho ke hc tr fo u467.1.2.1 st co ro u467.1.2.2.1 u467.1.2.2.2 su jA jD ++ (z4 c cM wI hI Hn r)) ++ (zpl cI Wn Hn r gS gA (updR gD ((v3 / wI).toNatClampNeg) (upd (gD ((v3 / wI).toNatClampNeg)) (v3 - v3 / wI * wI).toNatClampNeg x413)))) Hq := va_P.part (cx := (xw a cI cJ ho ke hc tr fo u467.1.2.1 st co ro u467.1.2.2.1 u467.1.2.2.2 su jA jD ++ (z4 c cM wI hI Hn r))) (pl := (zpl cI Wn Hn r gS gA (updR gD ((v3 / wI).toNatClampNeg) (upd (gD ((v3 / wI).toNatClampNeg)) (v3 - v3 / wI * wI).toNatClampNeg x413)))) hP [4, 5, 6, 7, 8, 9, 10, 11, 12, 13, 14, 15, 16, 17, 18, 19, 0, 1, 2, 3] rfl
        replace hD : va_D A ((xw a cI cJ ho ke hc tr fo u467.1.2.1 st co ro u467.1.2.2.1 u467.1.2.2.2 su jA jD ++ (z4 c cM wI hI Hn r)) ++ (zpl cI Wn Hn r gS gA (updR gD ((v3 / wI).toNatClampNeg) (upd (gD ((v3 / wI).toNatClampNeg)) (v3 - v3 / wI * wI).toNatClampNeg x413)))) := va_D.part (cx := (xw a cI cJ ho ke hc tr fo u467.1.2.1 st co ro u467.1.2.2.1 u467.1.2.2.2 su jA jD ++ (z4 c cM wI hI Hn r))) (pl := (zpl cI Wn Hn r gS gA (updR gD ((v3 / wI).toNatClampNeg) (upd (gD ((v3 / wI).toNatClampNeg)) (v3 - v3 / wI * wI).toNatClampNeg x413)))) hD [4, 5, 6, 7, 8, 9, 10, 11, 12, 13, 14, 15, 16, 17, 18, 19, 0, 1, 2, 3] (by decide) rfl
        rw [hw]
        refine W.widen (k := kc + 2) (n := ks + 12) (by omega) (by omega) ?_
        refine lv_iload hx hb dL_act_470 (lv_at hl 3 rfl) ?_
        refine lv_icmp_ne (tgt := 479) hx hb dL_act_472 (by decide) (fun hcc => ?_) (fun hcc => ?_)
        · replace hM := it_n hcc hM
          refine lv_iconst (v := 0) hx hb dL_act_479 (by decide) ?_
          obtain rfl := Option.some.inj hM
          refine W.widen (k := 1982) (n := 12992) (by omega) (by omega) ?_
          subst hQ hAe
          exact W.zret (ty := .boolean) (v := (0 : Int32)) hx hb hr (nb_z (Or.inl rfl)) (fun t ht hW => ⟨⟨(0 : Int32), (jA, jD, c, r), rfl, ⟨rfl, Or.inl rfl, rfl⟩, ⟨by rw [ht]; exact hP, hD⟩⟩, hS.F ht⟩) hS.2.2 dL_act_480
        · replace hM := it_p hcc hM
          refine lv_iconst (v := 1) hx hb dL_act_475 (by decide) ?_
          refine lv_goto (tgt := 480) hx hb dL_act_476 (by decide) ?_
          obtain rfl := Option.some.inj hM
          refine W.widen (k := 1982) (n := 12992) (by omega) (by omega) ?_
          subst hQ hAe
          exact W.zret (ty := .boolean) (v := (1 : Int32)) hx hb hr (nb_z (Or.inr rfl)) (fun t ht hW => ⟨⟨(1 : Int32), (jA, jD, c, r), rfl, ⟨rfl, Or.inr rfl, rfl⟩, ⟨by rw [ht]; exact hP, hD⟩⟩, hS.F ht⟩) hS.2.2 dL_act_480
set_option maxHeartbeats 4000000 in
set_option maxRecDepth 100000 in
theorem kL_act_c267 {p : Program} {l : Launch} {D : va_G} {cI cJ cB cM : ClassId} (hlt : l.stackTraces = false) (N : Nat) (a : Nat → Nat) (c : Nat → Nat) (r : Nat → Nat → Nat) {ho : RowI} {ke : RowI} {hc : Int32} {tr : Int32} {fo : Int32} {fr : Int32} {st : RowI} {co : Int32} {ro : Int32} {cA : CS} {cD : CS} {su : RowJ} {jA : JT} {jD : JT} {wI : Int32} {hI : Int32} {Wn : Nat} {Hn : Nat} {gS : RowR} {gA : RowR} {gD : RowR} {p3 : Int32} {o : (Int32 × Int32 × RowI × Int32 × Int32 × CS × CS × Int32 × Int32 × Nat × Nat × RowR × RowR × RowR)} (sz : Nat) {e : Env} {s : State} {m : MethodId} {args : Array Value} {below : List Frame} {meth : Method} {c0 : Code} {Q : State → Prop} {A : Nat → Prop} (hQ : Q = MQ below (va_Qi (fun (r0 : Int32) (u : JT × JT × (Nat → Nat) × (Nat → Nat → Nat)) => r0 = o.1 ∧ bz r0 ∧ u.2.2.1 0 = c 0) (aft D ((xw a cI cJ ho ke hc tr fo fr st co ro cA cD su jA jD ++ (z4 c cM wI hI Hn r)) ++ (zpl cI Wn Hn r gS gA gD)) sz (fun (u : JT × JT × (Nat → Nat) × (Nat → Nat → Nat)) => ((xw a cI cJ ho ke hc tr fo o.2.1 o.2.2.1 o.2.2.2.1 o.2.2.2.2.1 o.2.2.2.2.2.1 o.2.2.2.2.2.2.1 su jA jD ++ (z4 u.2.2.1 cM o.2.2.2.2.2.2.2.1 o.2.2.2.2.2.2.2.2.1 o.2.2.2.2.2.2.2.2.2.2.1 u.2.2.2)) ++ (zpl cI o.2.2.2.2.2.2.2.2.2.1 o.2.2.2.2.2.2.2.2.2.2.1 u.2.2.2 o.2.2.2.2.2.2.2.2.2.2.2.1 o.2.2.2.2.2.2.2.2.2.2.2.2.1 o.2.2.2.2.2.2.2.2.2.2.2.2.2)))) (va_A ((xw a cI cJ ho ke hc tr fo fr st co ro cA cD su jA jD ++ (z4 c cM wI hI Hn r)) ++ (zpl cI Wn Hn r gS gA gD)) sz)) args s 1982 12992 (va_A ((xw a cI cJ ho ke hc tr fo fr st co ro cA cD su jA jD ++ (z4 c cM wI hI Hn r)) ++ (zpl cI Wn Hn r gS gA gD)) sz)) (hAe : A = (va_A ((xw a cI cJ ho ke hc tr fo fr st co ro cA cD su jA jD ++ (z4 c cM wI hI Hn r)) ++ (zpl cI Wn Hn r gS gA gD)) sz)) (hx : p.tables.exec = Jvm.exec) (hb : c0.code = cL_act) (hr : meth.sig.returnType = (some .boolean)) (hml : c0.maxLocals = 12) (hown : s.vm.findClass RL = some m.cls) (hts : ∀ w ∈ wsL_act, w.before args s = true) (hlocks : meth.locks = false) (htab : c0.exceptionTable.toList = tableOf [(572, 594, 595, 58)]) (hTX : TX A s s.heap) (hN : NZ s) (hK : va_K D vwCl (tysZ cI cJ cB cM) s) (hA : ∀ q : Nat, s.heap.size ≤ q → A q) (iX5 : ∀ w ∈ wsX50, w ∈ wsL_act) (f15 : (Cond.fieldLink RL 15 "CryptSumsLaw$Sim" "h" "I").before args s = true) (f24 : (Cond.fieldLink RL 24 "CryptSumsLaw$Sim" "stones" "[[I").before args s = true) (f29 : (Cond.fieldLink RL 29 "CryptSumsLaw$Sim" "across" "[[I").before args s = true) (f32 : (Cond.fieldLink RL 32 "CryptSumsLaw$Sim" "down" "[[I").before args s = true) (f9 : (Cond.fieldLink RL 9 "CryptSumsLaw$Sim" "w" "I").before args s = true) : ∀ (v3 : Int32) (i4 : Nat) (v5 : Int32) (s0 : Int32), mL_act_267 N fr st co ro cA cD wI hI Wn Hn gS gA gD p3 v3 i4 v5 s0 = some o → i4 < Hn → ∀ (kc ks : Nat), kc + (18) ≤ 1982 → ks + (110) ≤ 12992 → ∀ (Hq : Heap) (locs : List Loc) (ls : Array Slot), va_P D vwCl ((xw a cI cJ ho ke hc tr fo fr st co ro cA cD su jA jD ++ (z4 c cM wI hI Hn r)) ++ (zpl cI Wn Hn r gS gA gD)) Hq → va_D A ((xw a cI cJ ho ke hc tr fo fr st co ro cA cD su jA jD ++ (z4 c cM wI hI Hn r)) ++ (zpl cI Wn Hn r gS gA gD)) → va_S A s.heap Hq locs → lv_has ls 12 [(0, .ref (a 15)), (1, .ref (c 0)), (2, .int p3), (3, .int v3), (4, .ref (r 0 i4)), (5, .int v5)] → W p l e rmL_act s m args below meth c0 Hq locs kc ks Q (F0 m 267 ls [.int s0]) := by
  have c305 := kL_act_c305 (p := p) (l := l) (D := D) (cI := cI) (cJ := cJ) (cB := cB) (cM := cM) (hlt := hlt) (N := N) (a := a) (c := c) (r := r) (ho := ho) (ke := ke) (hc := hc) (tr := tr) (fo := fo) (fr := fr) (st := st) (co := co) (ro := ro) (cA := cA) (cD := cD) (su := su) (jA := jA) (jD := jD) (wI := wI) (hI := hI) (Wn := Wn) (Hn := Hn) (gS := gS) (gA := gA) (gD := gD) (p3 := p3) (o := o) (sz := sz) (e := e) (s := s) (m := m) (args := args) (below := below) (meth := meth) (c0 := c0) (Q := Q) (A := A) (hQ := hQ) (hAe := hAe) (hx := hx) (hb := hb) (hr := hr) (hml := hml) (hown := hown) (hts := hts) (hlocks := hlocks) (htab := htab) (hTX := hTX) (hN := hN) (hK := hK) (hA := hA) (iX5 := iX5) (f15 := f15) (f24 := f24) (f29 := f29) (f32 := f32) (f9 := f9)
  intro v3 i4 v5 s0 hM hr4 kc ks hkc hks Hq locs ls hP hD hS hl
  rw [mL_act_267] at hM
  refine lv_istore (lv' := [(6, .int s0), (0, .ref (a 15)), (1, .ref (c 0)), (2, .int p3), (3, .int v3), (4, .ref (r 0 i4)), (5, .int v5)]) hx hb dL_act_267 hl (by decide) rfl (fun ls hl => ?_)
  refine lv_aload hx hb dL_act_269 (lv_at hl 5 rfl) ?_
  refine lv_iload hx hb dL_act_271 (lv_at hl 6 rfl) ?_
  obtain ⟨hb273, hM⟩ := it_x hM
  refine va_iald (D := D) hx hb hK hP _ 0 (row0 (xw a cI cJ ho ke hc tr fo fr st co ro cA cD su jA jD ++ (z4 c cM wI hI Hn r)) hr4) rfl hb273 dL_act_273 ?_
  refine lv_if_lt (tgt := 305) hx hb dL_act_274 (by decide) (fun hcc => ?_) (fun hcc => ?_)
  · replace hM := it_p hcc hM
    exact c305 v3 i4 v5 s0 hM hr4 kc ks (by omega) (by omega) Hq locs ls hP hD hS (lv_sub hl [1, 2, 3, 4, 5, 6, 0] rfl)
  · replace hM := it_n hcc hM
    refine lv_iload_n hx hb dL_act_277 rfl (lv_at hl 3 rfl) ?_
    refine lv_iconst (v := 5) hx hb dL_act_278 (by decide) ?_
    refine lv_ishr hx hb dL_act_279 ?_
    refine lv_bipush (v := 6) hx hb dL_act_280 (by decide) ?_
    obtain ⟨x282, hC, hM⟩ := bd_s hM
    refine cR_i (va_runS (As := [.int (p3 >>> ((5 : Int32) &&& 31)), .int (6 : Int32)]) (rest := []) ⟨hx, hb, hml, hown, hts⟩ (kL_below (l := l) (D := D) (cI := cI) (cJ := cJ) N (p1 := (p3 >>> ((5 : Int32) &&& 31))) (p2 := (6 : Int32)) hC Hq.size) (va_cwS 2 hts gL_act_L_below rfl rfl rfl (by decide +kernel) ⟨Nat.le_of_ble_eq_true rfl, Nat.le_of_ble_eq_true rfl⟩) (preS [.int (p3 >>> ((5 : Int32) &&& 31)), .int (6 : Int32)] hN.1 (KX hK) (hP.sub (ws' := zw) [] rfl) (hD.sub (ws' := zw) [] (by decide) rfl)) rfl rfl hl.1 rfl (lv_room (Nat.le_of_ble_eq_true rfl)) dL_act_282 ⟨by show _ + 0 ≤ 1982; omega, by show _ + 0 ≤ 12992; omega⟩) hP hS (fun r0 u Hq locs hw hP hS => ?_)
    rw [hw]
    refine lv_if_le (tgt := 305) hx hb dL_act_285 (by decide) (fun hcc => ?_) (fun hcc => ?_)
    · replace hM := it_p hcc hM
      exact c305 v3 i4 v5 s0 hM hr4 kc ks (by omega) (by omega) Hq locs ls hP hD hS (lv_sub hl [1, 2, 3, 4, 5, 6, 0] rfl)
    · replace hM := it_n hcc hM
      refine lv_aload_n hx hb dL_act_288 rfl (lv_at hl 2 rfl) ?_
      refine lv_iload hx hb dL_act_289 (lv_at hl 6 rfl) ?_
      refine lv_iload_n hx hb dL_act_291 rfl (lv_at hl 4 rfl) ?_
      refine lv_aload_n hx hb dL_act_292 rfl (lv_at hl 2 rfl) ?_
      refine va_get (D := D) (ci := 5) (v := .int wI) (C := RX5) (T := TX5) (N := 8) hx hb hts iX5 hown hK hP 16 rfl rfl 0 (by decide) f9 (fun _ h9 => h9) rfl dL_act_293 ?_
      obtain ⟨hz296, hM⟩ := it_x hM
      refine lv_idiv hx hb dL_act_296 hz296 ?_
      refine lv_iload hx hb dL_act_297 (lv_at hl 0 rfl) ?_
      obtain ⟨x299, hC, hM⟩ := bd_s hM
      refine cP_r (rx := fun (u : Unit) b => (z4 c cM wI hI Hn r ++ [(b, .inl (cI, x299.1, .inl x299.2))])) (pl1 := fun (u : Unit) b => (zpl cI Wn Hn r gS gA gD)) [16, 17, 18, 19] [0, 1, 2, 3, 4, 5, 6, 7, 8, 9, 10, 11, 12, 13, 14, 15] (va_runV (As := [.int v5, .int (v3 / wI), .int s0]) (rest := []) ⟨hx, hb, hml, hown, hts⟩ (kX5_corridor (l := l) (D := D) (cI := cI) (cJ := cJ) (cB := cB) (cM := cM) N c r (wI := wI) (hI := hI) (Wn := Wn) (Hn := Hn) (gS := gS) (gA := gA) (gD := gD) (p1 := v5) (p2 := (v3 / wI)) (p3 := s0) hC Hq.size) (cwV 3 hts gL_act_X5_corridor rfl rfl rfl (by decide +kernel) ⟨Nat.le_of_ble_eq_true rfl, Nat.le_of_ble_eq_true rfl⟩) (preVZ [.int v5, .int (v3 / wI), .int s0] hN hK (va_P.part (cx := (z4 c cM wI hI Hn r)) hP [16, 17, 18, 19] rfl) (va_D.part (cx := (z4 c cM wI hI Hn r)) hD [16, 17, 18, 19] (by decide) rfl) (ci := 5) (q0 := 0) rfl rfl) rfl rfl hl.1 rfl (lv_room (Nat.le_of_ble_eq_true rfl)) dL_act_299 ⟨by show _ + 8 ≤ 1982; omega, by show _ + 49 ≤ 12992; omega⟩) hP hD hS hA rfl (wr := (xw a cI cJ ho ke hc tr fo fr st co ro cA cD su jA jD)) rfl (by decide) (by decide) (fun u299 q299 Hq locs hw hP hD hS => ?_)
      replace hP : va_P D vwCl ((xw a cI cJ ho ke hc tr fo fr st co ro cA cD su jA jD ++ (z4 c cM wI hI Hn r ++ [(q299, .inl (cI, x299.1, .inl x299.2))])) ++ (zpl cI Wn Hn r gS gA gD)) Hq := va_P.part (cx := (xw a cI cJ ho ke hc tr fo fr st co ro cA cD su jA jD ++ (z4 c cM wI hI Hn r ++ [(q299, .inl (cI, x299.1, .inl x299.2))]))) (pl := (zpl cI Wn Hn r gS gA gD)) hP [0, 1, 2, 3, 4, 5, 6, 7, 8, 9, 10, 11, 12, 13, 14, 15, 16, 17, 18, 19, 20] rfl
      replace hD : va_D A ((xw a cI cJ ho ke hc tr fo fr st co ro cA cD su jA jD ++ (z4 c cM wI hI Hn r ++ [(q299, .inl (cI, x299.1, .inl x299.2))])) ++ (zpl cI Wn Hn r gS gA gD)) := va_D.part (cx := (xw a cI cJ ho ke hc tr fo fr st co ro cA cD su jA jD ++ (z4 c cM wI hI Hn r ++ [(q299, .inl (cI, x299.1, .inl x299.2))]))) (pl := (zpl cI Wn Hn r gS gA gD)) hD [0, 1, 2, 3, 4, 5, 6, 7, 8, 9, 10, 11, 12, 13, 14, 15, 16, 17, 18, 19, 20] (by decide) rfl
      refine W.widen (k := kc + 8) (n := ks + 49) (by show _ + 8 ≤ _; omega) (by show _ + 49 ≤ _; omega) ?_
      refine lv_iconst (v := 0) hx hb dL_act_302 (by decide) ?_
      obtain ⟨hb303, hM⟩ := it_x hM
      refine va_iald (D := D) hx hb hK hP 20 0 rfl rfl hb303 dL_act_303 ?_
      refine lv_istore_n (lv' := [(3, .int (x299.2 (0 : Int32).toNatClampNeg)), (6, .int s0), (0, .ref (a 15)), (1, .ref (c 0)), (2, .int p3), (4, .ref (r 0 i4)), (5, .int v5)]) hx hb dL_act_304 rfl hl (by decide) rfl (fun ls hl => ?_)
      replace hP := va_P.part (cx := (xw a cI cJ ho ke hc tr fo fr st co ro cA cD su jA jD ++ (z4 c cM wI hI Hn r))) hP [0, 1, 2, 3, 4, 5, 6, 7, 8, 9, 10, 11, 12, 13, 14, 15, 16, 17, 18, 19] rfl
      replace hD := va_D.part (cx := (xw a cI cJ ho ke hc tr fo fr st co ro cA cD su jA jD ++ (z4 c cM wI hI Hn r))) hD [0, 1, 2, 3, 4, 5, 6, 7, 8, 9, 10, 11, 12, 13, 14, 15, 16, 17, 18, 19] (by decide) rfl
      exact c305 (x299.2 (0 : Int32).toNatClampNeg) i4 v5 s0 hM hr4 (kc + 8) (ks + 49) (by omega) (by omega) Hq locs ls hP hD hS (lv_sub hl [2, 3, 4, 0, 5, 6, 1] rfl)
set_option maxHeartbeats 4000000 in
set_option maxRecDepth 100000 in
theorem kL_act_c242 {p : Program} {l : Launch} {D : va_G} {cI cJ cB cM : ClassId} (hlt : l.stackTraces = false) (N : Nat) (a : Nat → Nat) (c : Nat → Nat) (r : Nat → Nat → Nat) {ho : RowI} {ke : RowI} {hc : Int32} {tr : Int32} {fo : Int32} {fr : Int32} {st : RowI} {co : Int32} {ro : Int32} {cA : CS} {cD : CS} {su : RowJ} {jA : JT} {jD : JT} {wI : Int32} {hI : Int32} {Wn : Nat} {Hn : Nat} {gS : RowR} {gA : RowR} {gD : RowR} {p3 : Int32} {o : (Int32 × Int32 × RowI × Int32 × Int32 × CS × CS × Int32 × Int32 × Nat × Nat × RowR × RowR × RowR)} (sz : Nat) {e : Env} {s : State} {m : MethodId} {args : Array Value} {below : List Frame} {meth : Method} {c0 : Code} {Q : State → Prop} {A : Nat → Prop} (hQ : Q = MQ below (va_Qi (fun (r0 : Int32) (u : JT × JT × (Nat → Nat) × (Nat → Nat → Nat)) => r0 = o.1 ∧ bz r0 ∧ u.2.2.1 0 = c 0) (aft D ((xw a cI cJ ho ke hc tr fo fr st co ro cA cD su jA jD ++ (z4 c cM wI hI Hn r)) ++ (zpl cI Wn Hn r gS gA gD)) sz (fun (u : JT × JT × (Nat → Nat) × (Nat → Nat → Nat)) => ((xw a cI cJ ho ke hc tr fo o.2.1 o.2.2.1 o.2.2.2.1 o.2.2.2.2.1 o.2.2.2.2.2.1 o.2.2.2.2.2.2.1 su jA jD ++ (z4 u.2.2.1 cM o.2.2.2.2.2.2.2.1 o.2.2.2.2.2.2.2.2.1 o.2.2.2.2.2.2.2.2.2.2.1 u.2.2.2)) ++ (zpl cI o.2.2.2.2.2.2.2.2.2.1 o.2.2.2.2.2.2.2.2.2.2.1 u.2.2.2 o.2.2.2.2.2.2.2.2.2.2.2.1 o.2.2.2.2.2.2.2.2.2.2.2.2.1 o.2.2.2.2.2.2.2.2.2.2.2.2.2)))) (va_A ((xw a cI cJ ho ke hc tr fo fr st co ro cA cD su jA jD ++ (z4 c cM wI hI Hn r)) ++ (zpl cI Wn Hn r gS gA gD)) sz)) args s 1982 12992 (va_A ((xw a cI cJ ho ke hc tr fo fr st co ro cA cD su jA jD ++ (z4 c cM wI hI Hn r)) ++ (zpl cI Wn Hn r gS gA gD)) sz)) (hAe : A = (va_A ((xw a cI cJ ho ke hc tr fo fr st co ro cA cD su jA jD ++ (z4 c cM wI hI Hn r)) ++ (zpl cI Wn Hn r gS gA gD)) sz)) (hx : p.tables.exec = Jvm.exec) (hb : c0.code = cL_act) (hr : meth.sig.returnType = (some .boolean)) (hml : c0.maxLocals = 12) (hown : s.vm.findClass RL = some m.cls) (hts : ∀ w ∈ wsL_act, w.before args s = true) (hlocks : meth.locks = false) (htab : c0.exceptionTable.toList = tableOf [(572, 594, 595, 58)]) (hTX : TX A s s.heap) (hN : NZ s) (hK : va_K D vwCl (tysZ cI cJ cB cM) s) (hA : ∀ q : Nat, s.heap.size ≤ q → A q) (iX5 : ∀ w ∈ wsX50, w ∈ wsL_act) (f15 : (Cond.fieldLink RL 15 "CryptSumsLaw$Sim" "h" "I").before args s = true) (f24 : (Cond.fieldLink RL 24 "CryptSumsLaw$Sim" "stones" "[[I").before args s = true) (f29 : (Cond.fieldLink RL 29 "CryptSumsLaw$Sim" "across" "[[I").before args s = true) (f32 : (Cond.fieldLink RL 32 "CryptSumsLaw$Sim" "down" "[[I").before args s = true) (f9 : (Cond.fieldLink RL 9 "CryptSumsLaw$Sim" "w" "I").before args s = true) : ∀ (s0 : Int32) (s1 : Int32) (fr' : Int32) (st' : RowI) (cA' : CS) (cD' : CS) (gS' : RowR), mL_act_242 N co ro wI hI Wn Hn gA gD s0 s1 fr' st' cA' cD' gS' = some o → ∀ (kc ks : Nat), kc + (0) ≤ 1982 → ks + (0) ≤ 12992 → ∀ (Hq : Heap) (locs : List Loc) (ls : Array Slot), va_P D vwCl ((xw a cI cJ ho ke hc tr fo fr' st' co ro cA' cD' su jA jD ++ (z4 c cM wI hI Hn r)) ++ (zpl cI Wn Hn r gS' gA gD)) Hq → va_D A ((xw a cI cJ ho ke hc tr fo fr' st' co ro cA' cD' su jA jD ++ (z4 c cM wI hI Hn r)) ++ (zpl cI Wn Hn r gS' gA gD)) → va_S A s.heap Hq locs → lv_has ls 12 [] → W p l e rmL_act s m args below meth c0 Hq locs kc ks Q (F0 m 242 ls [.int s0, .int s1]) := by
  intro s0 s1 fr' st' cA' cD' gS' hM kc ks hkc hks Hq locs ls hP hD hS hl
  rw [mL_act_242] at hM
  refine lv_icmp_ne (tgt := 249) hx hb dL_act_242 (by decide) (fun hcc => ?_) (fun hcc => ?_)
  · replace hM := it_n hcc hM
    refine lv_iconst (v := 0) hx hb dL_act_249 (by decide) ?_
    obtain rfl := Option.some.inj hM
    refine W.widen (k := 1982) (n := 12992) (by omega) (by omega) ?_
    subst hQ hAe
    exact W.zret (ty := .boolean) (v := (0 : Int32)) hx hb hr (nb_z (Or.inl rfl)) (fun t ht hW => ⟨⟨(0 : Int32), (jA, jD, c, r), rfl, ⟨rfl, Or.inl rfl, rfl⟩, ⟨by rw [ht]; exact hP, hD⟩⟩, hS.F ht⟩) hS.2.2 dL_act_250
  · replace hM := it_p hcc hM
    refine lv_iconst (v := 1) hx hb dL_act_245 (by decide) ?_
    refine lv_goto (tgt := 250) hx hb dL_act_246 (by decide) ?_
    obtain rfl := Option.some.inj hM
    refine W.widen (k := 1982) (n := 12992) (by omega) (by omega) ?_
    subst hQ hAe
    exact W.zret (ty := .boolean) (v := (1 : Int32)) hx hb hr (nb_z (Or.inr rfl)) (fun t ht hW => ⟨⟨(1 : Int32), (jA, jD, c, r), rfl, ⟨rfl, Or.inr rfl, rfl⟩, ⟨by rw [ht]; exact hP, hD⟩⟩, hS.F ht⟩) hS.2.2 dL_act_250
set_option maxHeartbeats 4000000 in
set_option maxRecDepth 100000 in
theorem kL_act {l : Launch} {D : va_G} {cI cJ cB cM : ClassId} (hlt : l.stackTraces = false) (N : Nat) (a : Nat → Nat) (c : Nat → Nat) (r : Nat → Nat → Nat) {ho : RowI} {ke : RowI} {hc : Int32} {tr : Int32} {fo : Int32} {fr : Int32} {st : RowI} {co : Int32} {ro : Int32} {cA : CS} {cD : CS} {su : RowJ} {jA : JT} {jD : JT} {wI : Int32} {hI : Int32} {Wn : Nat} {Hn : Nat} {gS : RowR} {gA : RowR} {gD : RowR} {p3 : Int32} {o : (Int32 × Int32 × RowI × Int32 × Int32 × CS × CS × Int32 × Int32 × Nat × Nat × RowR × RowR × RowR)} (hM : mL_act N fr st co ro cA cD wI hI Wn Hn gS gA gD p3 = some o) (sz : Nat) : Met l yL_act wsL_act rmL_act (va_Pc [.ref (a 15), .ref (c 0), .int p3] (PreY D cI cJ cB cM ((xw a cI cJ ho ke hc tr fo fr st co ro cA cD su jA jD ++ (z4 c cM wI hI Hn r)) ++ (zpl cI Wn Hn r gS gA gD)) sz)) (va_Qi (fun (r0 : Int32) (u : JT × JT × (Nat → Nat) × (Nat → Nat → Nat)) => r0 = o.1 ∧ bz r0 ∧ u.2.2.1 0 = c 0) (aft D ((xw a cI cJ ho ke hc tr fo fr st co ro cA cD su jA jD ++ (z4 c cM wI hI Hn r)) ++ (zpl cI Wn Hn r gS gA gD)) sz (fun (u : JT × JT × (Nat → Nat) × (Nat → Nat → Nat)) => ((xw a cI cJ ho ke hc tr fo o.2.1 o.2.2.1 o.2.2.2.1 o.2.2.2.2.1 o.2.2.2.2.2.1 o.2.2.2.2.2.2.1 su jA jD ++ (z4 u.2.2.1 cM o.2.2.2.2.2.2.2.1 o.2.2.2.2.2.2.2.2.1 o.2.2.2.2.2.2.2.2.2.2.1 u.2.2.2)) ++ (zpl cI o.2.2.2.2.2.2.2.2.2.1 o.2.2.2.2.2.2.2.2.2.2.1 u.2.2.2 o.2.2.2.2.2.2.2.2.2.2.2.1 o.2.2.2.2.2.2.2.2.2.2.2.2.1 o.2.2.2.2.2.2.2.2.2.2.2.2.2)))) (va_A ((xw a cI cJ ho ke hc tr fo fr st co ro cA cD su jA jD ++ (z4 c cM wI hI Hn r)) ++ (zpl cI Wn Hn r gS gA gD)) sz)) 1982 12992 (va_A ((xw a cI cJ ho ke hc tr fo fr st co ro cA cD su jA jD ++ (z4 c cM wI hI Hn r)) ++ (zpl cI Wn Hn r gS gA gD)) sz) := by
  refine xofYH (cc := cL_act) (maxL := 12) (ret := (some .boolean)) rfl (by decide) rfl ?_
  intro p e s m args below meth c0 ls Q A hQ hAe hx hb hr hml hown hts hlocks htab hTX hN hK Hq locs hP hD hS hA hl
  replace hown : s.vm.findClass RL = some m.cls := hown
  replace hl : lv_has ls 12 [(0, .ref (a 15)), (1, .ref (c 0)), (2, .int p3)] := hl
  have iX5 : ∀ w ∈ wsX50, w ∈ wsL_act := by decide +kernel
  have f15 := hts (.fieldLink RL 15 "CryptSumsLaw$Sim" "h" "I") (by decide +kernel)
  have f24 := hts (.fieldLink RL 24 "CryptSumsLaw$Sim" "stones" "[[I") (by decide +kernel)
  have f29 := hts (.fieldLink RL 29 "CryptSumsLaw$Sim" "across" "[[I") (by decide +kernel)
  have f32 := hts (.fieldLink RL 32 "CryptSumsLaw$Sim" "down" "[[I") (by decide +kernel)
  have f9 := hts (.fieldLink RL 9 "CryptSumsLaw$Sim" "w" "I") (by decide +kernel)
  have c495 := kL_act_c495 (p := p) (l := l) (D := D) (cI := cI) (cJ := cJ) (cB := cB) (cM := cM) (hlt := hlt) (N := N) (a := a) (c := c) (r := r) (ho := ho) (ke := ke) (hc := hc) (tr := tr) (fo := fo) (fr := fr) (st := st) (co := co) (ro := ro) (cA := cA) (cD := cD) (su := su) (jA := jA) (jD := jD) (wI := wI) (hI := hI) (Wn := Wn) (Hn := Hn) (gS := gS) (gA := gA) (gD := gD) (p3 := p3) (o := o) (sz := sz) (e := e) (s := s) (m := m) (args := args) (below := below) (meth := meth) (c0 := c0) (Q := Q) (A := A) (hQ := hQ) (hAe := hAe) (hx := hx) (hb := hb) (hr := hr) (hml := hml) (hown := hown) (hts := hts) (hlocks := hlocks) (htab := htab) (hTX := hTX) (hN := hN) (hK := hK) (hA := hA) (iX5 := iX5) (f15 := f15) (f24 := f24) (f29 := f29) (f32 := f32) (f9 := f9)
  have c267 := kL_act_c267 (p := p) (l := l) (D := D) (cI := cI) (cJ := cJ) (cB := cB) (cM := cM) (hlt := hlt) (N := N) (a := a) (c := c) (r := r) (ho := ho) (ke := ke) (hc := hc) (tr := tr) (fo := fo) (fr := fr) (st := st) (co := co) (ro := ro) (cA := cA) (cD := cD) (su := su) (jA := jA) (jD := jD) (wI := wI) (hI := hI) (Wn := Wn) (Hn := Hn) (gS := gS) (gA := gA) (gD := gD) (p3 := p3) (o := o) (sz := sz) (e := e) (s := s) (m := m) (args := args) (below := below) (meth := meth) (c0 := c0) (Q := Q) (A := A) (hQ := hQ) (hAe := hAe) (hx := hx) (hb := hb) (hr := hr) (hml := hml) (hown := hown) (hts := hts) (hlocks := hlocks) (htab := htab) (hTX := hTX) (hN := hN) (hK := hK) (hA := hA) (iX5 := iX5) (f15 := f15) (f24 := f24) (f29 := f29) (f32 := f32) (f9 := f9)
  have c242 := kL_act_c242 (p := p) (l := l) (D := D) (cI := cI) (cJ := cJ) (cB := cB) (cM := cM) (hlt := hlt) (N := N) (a := a) (c := c) (r := r) (ho := ho) (ke := ke) (hc := hc) (tr := tr) (fo := fo) (fr := fr) (st := st) (co := co) (ro := ro) (cA := cA) (cD := cD) (su := su) (jA := jA) (jD := jD) (wI := wI) (hI := hI) (Wn := Wn) (Hn := Hn) (gS := gS) (gA := gA) (gD := gD) (p3 := p3) (o := o) (sz := sz) (e := e) (s := s) (m := m) (args := args) (below := below) (meth := meth) (c0 := c0) (Q := Q) (A := A) (hQ := hQ) (hAe := hAe) (hx := hx) (hb := hb) (hr := hr) (hml := hml) (hown := hown) (hts := hts) (hlocks := hlocks) (htab := htab) (hTX := hTX) (hN := hN) (hK := hK) (hA := hA) (iX5 := iX5) (f15 := f15) (f24 := f24) (f29 := f29) (f32 := f32) (f9 := f9)
  rw [mL_act] at hM
  refine lv_iload_n hx hb dL_act_0 rfl (lv_at hl 2 rfl) ?_
  refine lv_iconst (v := 3) hx hb dL_act_1 (by decide) ?_
  refine lv_ishr hx hb dL_act_2 ?_
  refine lv_aload_n hx hb dL_act_3 rfl (lv_at hl 1 rfl) ?_
  refine va_get (D := D) (ci := 5) (v := .int wI) (C := RX5) (T := TX5) (N := 8) hx hb hts iX5 hown hK hP 16 rfl rfl 0 (by decide) f9 (fun _ h9 => h9) rfl dL_act_4 ?_
  refine lv_aload_n hx hb dL_act_7 rfl (lv_at hl 1 rfl) ?_
  refine va_get (D := D) (ci := 5) (v := .int hI) (C := RX5) (T := TX5) (N := 8) hx hb hts iX5 hown hK hP 16 rfl rfl 1 (by decide) f15 (fun _ h9 => h9) rfl dL_act_8 ?_
  refine lv_imul hx hb dL_act_11 ?_
  obtain ⟨x12, hC, hM⟩ := bd_s hM
  refine cR_i (va_runS (As := [.int (p3 >>> ((3 : Int32) &&& 31)), .int (wI * hI)]) (rest := []) ⟨hx, hb, hml, hown, hts⟩ (kL_below (l := l) (D := D) (cI := cI) (cJ := cJ) N (p1 := (p3 >>> ((3 : Int32) &&& 31))) (p2 := (wI * hI)) hC Hq.size) (va_cwS 2 hts gL_act_L_below rfl rfl rfl (by decide +kernel) ⟨Nat.le_of_ble_eq_true rfl, Nat.le_of_ble_eq_true rfl⟩) (preS [.int (p3 >>> ((3 : Int32) &&& 31)), .int (wI * hI)] hN.1 (KX hK) (hP.sub (ws' := zw) [] rfl) (hD.sub (ws' := zw) [] (by decide) rfl)) rfl rfl hl.1 rfl (lv_room (Nat.le_of_ble_eq_true rfl)) dL_act_12 ⟨by show _ + 0 ≤ 1982; omega, by show _ + 0 ≤ 12992; omega⟩) hP hS (fun r0 u Hq locs hw hP hS => ?_)
  rw [hw]
  refine lv_istore_n (lv' := [(3, .int x12), (0, .ref (a 15)), (1, .ref (c 0)), (2, .int p3)]) hx hb dL_act_15 rfl hl (by decide) rfl (fun ls hl => ?_)
  refine lv_aload_n hx hb dL_act_16 rfl (lv_at hl 2 rfl) ?_
  refine va_get (D := D) (ci := 5) (v := .ref (c 1)) (C := RX5) (T := TX5) (N := 8) hx hb hts iX5 hown hK hP 16 rfl rfl 2 (by decide) f24 (fun _ h9 => h9) rfl dL_act_17 ?_
  refine lv_iload_n hx hb dL_act_20 rfl (lv_at hl 0 rfl) ?_
  refine lv_aload_n hx hb dL_act_21 rfl (lv_at hl 2 rfl) ?_
  refine va_get (D := D) (ci := 5) (v := .int wI) (C := RX5) (T := TX5) (N := 8) hx hb hts iX5 hown hK hP 16 rfl rfl 0 (by decide) f9 (fun _ h9 => h9) rfl dL_act_22 ?_
  obtain ⟨hz25, hM⟩ := it_x hM
  refine lv_idiv hx hb dL_act_25 hz25 ?_
  obtain ⟨hb26, hM⟩ := it_x hM
  refine z_aald (D := D) hx hb hK hP 17 rfl hb26 dL_act_26 ?_
  refine lv_astore (lv' := [(4, .ref (r 0 ((x12 / wI).toNatClampNeg))), (3, .int x12), (0, .ref (a 15)), (1, .ref (c 0)), (2, .int p3)]) hx hb dL_act_27 hl (by decide) rfl (fun ls hl => ?_)
  refine lv_iload_n hx hb dL_act_29 rfl (lv_at hl 1 rfl) ?_
  refine lv_aload_n hx hb dL_act_30 rfl (lv_at hl 3 rfl) ?_
  refine va_get (D := D) (ci := 5) (v := .int wI) (C := RX5) (T := TX5) (N := 8) hx hb hts iX5 hown hK hP 16 rfl rfl 0 (by decide) f9 (fun _ h9 => h9) rfl dL_act_31 ?_
  obtain ⟨hz34, hM⟩ := it_x hM
  refine lv_irem hx hb dL_act_34 hz34 ?_
  refine lv_istore (lv' := [(5, .int (x12 - x12 / wI * wI)), (4, .ref (r 0 ((x12 / wI).toNatClampNeg))), (3, .int x12), (0, .ref (a 15)), (1, .ref (c 0)), (2, .int p3)]) hx hb dL_act_35 hl (by decide) rfl (fun ls hl => ?_)
  refine lv_iload_n hx hb dL_act_37 rfl (lv_at hl 5 rfl) ?_
  refine lv_bipush (v := 14) hx hb dL_act_38 (by decide) ?_
  obtain ⟨x40, hC, hM⟩ := bd_s hM
  refine cR_i (va_runS (As := [.int p3, .int (14 : Int32)]) (rest := []) ⟨hx, hb, hml, hown, hts⟩ (kL_below (l := l) (D := D) (cI := cI) (cJ := cJ) N (p1 := p3) (p2 := (14 : Int32)) hC Hq.size) (va_cwS 2 hts gL_act_L_below rfl rfl rfl (by decide +kernel) ⟨Nat.le_of_ble_eq_true rfl, Nat.le_of_ble_eq_true rfl⟩) (preS [.int p3, .int (14 : Int32)] hN.1 (KX hK) (hP.sub (ws' := zw) [] rfl) (hD.sub (ws' := zw) [] (by decide) rfl)) rfl rfl hl.1 rfl (lv_room (Nat.le_of_ble_eq_true rfl)) dL_act_40 ⟨by show _ + 0 ≤ 1982; omega, by show _ + 0 ≤ 12992; omega⟩) hP hS (fun r0 u Hq locs hw hP hS => ?_)
  rw [hw]
  by_cases hs0 : x40 = 0
  · replace hM := it_p hs0 hM
    refine lv_tableIn (tgt := 88) hx hb dL_act_43 (by rw [hs0]; decide) (by rw [hs0]; decide) (by rw [hs0]; rfl) (by decide) ?_
    refine lv_iload_n hx hb dL_act_88 rfl (lv_at hl 5 rfl) ?_
    refine lv_iconst (v := 4) hx hb dL_act_89 (by decide) ?_
    refine lv_ishr hx hb dL_act_90 ?_
    refine lv_iconst (v := 4) hx hb dL_act_91 (by decide) ?_
    obtain ⟨x92, hC, hM⟩ := bd_s hM
    refine cR_i (va_runS (As := [.int (p3 >>> ((4 : Int32) &&& 31)), .int (4 : Int32)]) (rest := []) ⟨hx, hb, hml, hown, hts⟩ (kL_below (l := l) (D := D) (cI := cI) (cJ := cJ) N (p1 := (p3 >>> ((4 : Int32) &&& 31))) (p2 := (4 : Int32)) hC Hq.size) (va_cwS 2 hts gL_act_L_below rfl rfl rfl (by decide +kernel) ⟨Nat.le_of_ble_eq_true rfl, Nat.le_of_ble_eq_true rfl⟩) (preS [.int (p3 >>> ((4 : Int32) &&& 31)), .int (4 : Int32)] hN.1 (KX hK) (hP.sub (ws' := zw) [] rfl) (hD.sub (ws' := zw) [] (by decide) rfl)) rfl rfl hl.1 rfl (lv_room (Nat.le_of_ble_eq_true rfl)) dL_act_92 ⟨by show _ + 0 ≤ 1982; omega, by show _ + 0 ≤ 12992; omega⟩) hP hS (fun r0 u Hq locs hw hP hS => ?_)
    rw [hw]
    refine lv_if_le (tgt := 100) hx hb dL_act_95 (by decide) (fun hcc => ?_) (fun hcc => ?_)
    · replace hM := it_p hcc hM
      refine lv_aload_n hx hb dL_act_100 rfl (lv_at hl 4 rfl) ?_
      refine lv_iconst (v := 2) hx hb dL_act_101 (by decide) ?_
      refine lv_iload_n hx hb dL_act_102 rfl (lv_at hl 5 rfl) ?_
      refine lv_bipush (v := 6) hx hb dL_act_103 (by decide) ?_
      refine lv_ishr hx hb dL_act_105 ?_
      refine lv_iconst (v := 5) hx hb dL_act_106 (by decide) ?_
      obtain ⟨x107, hC, hM⟩ := bd_s hM
      refine cR_i (va_runS (As := [.int (p3 >>> ((6 : Int32) &&& 31)), .int (5 : Int32)]) (rest := [.int (2 : Int32), .ref (c 0)]) ⟨hx, hb, hml, hown, hts⟩ (kL_below (l := l) (D := D) (cI := cI) (cJ := cJ) N (p1 := (p3 >>> ((6 : Int32) &&& 31))) (p2 := (5 : Int32)) hC Hq.size) (va_cwS 2 hts gL_act_L_below rfl rfl rfl (by decide +kernel) ⟨Nat.le_of_ble_eq_true rfl, Nat.le_of_ble_eq_true rfl⟩) (preS [.int (p3 >>> ((6 : Int32) &&& 31)), .int (5 : Int32)] hN.1 (KX hK) (hP.sub (ws' := zw) [] rfl) (hD.sub (ws' := zw) [] (by decide) rfl)) rfl rfl hl.1 rfl (lv_room (Nat.le_of_ble_eq_true rfl)) dL_act_107 ⟨by show _ + 0 ≤ 1982; omega, by show _ + 0 ≤ 12992; omega⟩) hP hS (fun r0 u Hq locs hw hP hS => ?_)
      rw [hw]
      refine lv_iadd hx hb dL_act_110 ?_
      refine va_put (D := D) (ci := 5) (v := .int ((2 : Int32) + x107)) (ty := .int) (C := RX5) (T := TX5) (N := 8) hx hb hts iX5 tyX5 tyX5_ok nmX5 hown hK hP hD hS 16 rfl rfl 0 (by decide) f9 (fun _ h9 => h9) rfl (by decide +kernel) rfl rfl (Nat.le_of_ble_eq_true rfl) dL_act_111 (fun Hq locs hP hD hS => ?_)
      replace hP : va_P D vwCl ((xw a cI cJ ho ke hc tr fo fr st co ro cA cD su jA jD ++ (z4 c cM ((2 : Int32) + x107) hI Hn r)) ++ (zpl cI Wn Hn r gS gA gD)) Hq := hP
      replace hD : va_D A ((xw a cI cJ ho ke hc tr fo fr st co ro cA cD su jA jD ++ (z4 c cM ((2 : Int32) + x107) hI Hn r)) ++ (zpl cI Wn Hn r gS gA gD)) := hD
      refine lv_aload_n hx hb dL_act_114 rfl (lv_at hl 4 rfl) ?_
      refine lv_iconst (v := 2) hx hb dL_act_115 (by decide) ?_
      refine lv_iload_n hx hb dL_act_116 rfl (lv_at hl 5 rfl) ?_
      refine lv_bipush (v := 9) hx hb dL_act_117 (by decide) ?_
      refine lv_ishr hx hb dL_act_119 ?_
      refine lv_iconst (v := 5) hx hb dL_act_120 (by decide) ?_
      obtain ⟨x121, hC, hM⟩ := bd_s hM
      refine cR_i (va_runS (As := [.int (p3 >>> ((9 : Int32) &&& 31)), .int (5 : Int32)]) (rest := [.int (2 : Int32), .ref (c 0)]) ⟨hx, hb, hml, hown, hts⟩ (kL_below (l := l) (D := D) (cI := cI) (cJ := cJ) N (p1 := (p3 >>> ((9 : Int32) &&& 31))) (p2 := (5 : Int32)) hC Hq.size) (va_cwS 2 hts gL_act_L_below rfl rfl rfl (by decide +kernel) ⟨Nat.le_of_ble_eq_true rfl, Nat.le_of_ble_eq_true rfl⟩) (preS [.int (p3 >>> ((9 : Int32) &&& 31)), .int (5 : Int32)] hN.1 (KX hK) (hP.sub (ws' := zw) [] rfl) (hD.sub (ws' := zw) [] (by decide) rfl)) rfl rfl hl.1 rfl (lv_room (Nat.le_of_ble_eq_true rfl)) dL_act_121 ⟨by show _ + 0 ≤ 1982; omega, by show _ + 0 ≤ 12992; omega⟩) hP hS (fun r0 u Hq locs hw hP hS => ?_)
      rw [hw]
      refine lv_iadd hx hb dL_act_124 ?_
      refine va_put (D := D) (ci := 5) (v := .int ((2 : Int32) + x121)) (ty := .int) (C := RX5) (T := TX5) (N := 8) hx hb hts iX5 tyX5 tyX5_ok nmX5 hown hK hP hD hS 16 rfl rfl 1 (by decide) f15 (fun _ h9 => h9) rfl (by decide +kernel) rfl rfl (Nat.le_of_ble_eq_true rfl) dL_act_125 (fun Hq locs hP hD hS => ?_)
      replace hP : va_P D vwCl ((xw a cI cJ ho ke hc tr fo fr st co ro cA cD su jA jD ++ (z4 c cM ((2 : Int32) + x107) ((2 : Int32) + x121) Hn r)) ++ (zpl cI Wn Hn r gS gA gD)) Hq := hP
      replace hD : va_D A ((xw a cI cJ ho ke hc tr fo fr st co ro cA cD su jA jD ++ (z4 c cM ((2 : Int32) + x107) ((2 : Int32) + x121) Hn r)) ++ (zpl cI Wn Hn r gS gA gD)) := hD
      obtain ⟨hgr, hM⟩ := it_g hM
      refine regrid hx hb hown hts hN hK hP hD hS hA (lv_sub hl [4] rfl) hgr (by show _ ≤ 1982; omega) (by show _ ≤ 12992; omega) (fun c r hc9 Hq locs hP hD hS => ?_)
      refine W.widen (k := 21) (n := 126) (by omega) (by omega) ?_
      rw [← hc9] at hl
      replace hP : va_P D vwCl ((xw a cI cJ ho ke hc tr fo fr st co ro cA cD su jA jD ++ (z4 c cM ((2 : Int32) + x107) ((2 : Int32) + x121) (((2 : Int32) + x121).toNatClampNeg) r)) ++ (zpl cI (((2 : Int32) + x107).toNatClampNeg) (((2 : Int32) + x121).toNatClampNeg) r (fun _ _ => 0) (fun _ _ => 0) (fun _ _ => 0))) Hq := hP
      replace hD : va_D A ((xw a cI cJ ho ke hc tr fo fr st co ro cA cD su jA jD ++ (z4 c cM ((2 : Int32) + x107) ((2 : Int32) + x121) (((2 : Int32) + x121).toNatClampNeg) r)) ++ (zpl cI (((2 : Int32) + x107).toNatClampNeg) (((2 : Int32) + x121).toNatClampNeg) r (fun _ _ => 0) (fun _ _ => 0) (fun _ _ => 0))) := hD
      refine lv_aload_n hx hb dL_act_176 rfl (lv_at hl 3 rfl) ?_
      refine lv_aload_n hx hb dL_act_177 rfl (lv_at hl 4 rfl) ?_
      refine va_get (D := D) (ci := 5) (v := .int ((2 : Int32) + x107)) (C := RX5) (T := TX5) (N := 8) hx hb hts iX5 hown hK hP 16 rfl rfl 0 (by decide) f9 (fun _ h9 => h9) rfl dL_act_178 ?_
      refine lv_aload_n hx hb dL_act_181 rfl (lv_at hl 4 rfl) ?_
      refine va_get (D := D) (ci := 5) (v := .int ((2 : Int32) + x121)) (C := RX5) (T := TX5) (N := 8) hx hb hts iX5 hown hK hP 16 rfl rfl 1 (by decide) f15 (fun _ h9 => h9) rfl dL_act_182 ?_
      obtain ⟨x185, hC, hM⟩ := bd_s hM
      refine cTQ_i [0, 1, 2, 3, 4, 5, 6, 7, 8, 9, 10, 11, 12, 13, 14, 15] [16, 17, 18, 19] (vx_runV (As := [.int ((2 : Int32) + x107), .int ((2 : Int32) + x121)]) (rest := []) ⟨hx, hb, hml, hown, hts⟩ (kX4_setFloor (l := l) (D := D) (cI := cI) (cJ := cJ) hlt N a (ho := ho) (ke := ke) (hc := hc) (tr := tr) (fo := fo) (fr := fr) (st := st) (co := co) (ro := ro) (cA := cA) (cD := cD) (su := su) (jA := jA) (jD := jD) (p1 := ((2 : Int32) + x107)) (p2 := ((2 : Int32) + x121)) hC Hq.size) (cwV 2 hts gL_act_X4_setFloor rfl rfl rfl (by decide +kernel) ⟨Nat.le_of_ble_eq_true rfl, Nat.le_of_ble_eq_true rfl⟩) (preVT [.int ((2 : Int32) + x107), .int ((2 : Int32) + x121)] hTX hS (freeQ (cx := (xw a cI cJ ho ke hc tr fo fr st co ro cA cD su jA jD)) hD hS hA [0, 1, 2, 3, 4, 5, 6, 7, 8, 9, 10, 11, 12, 13, 14, 15] rfl) hN.1 (KX hK) (subQ (cx := (xw a cI cJ ho ke hc tr fo fr st co ro cA cD su jA jD)) hP [0, 1, 2, 3, 4, 5, 6, 7, 8, 9, 10, 11, 12, 13, 14, 15] rfl) (subQD (cx := (xw a cI cJ ho ke hc tr fo fr st co ro cA cD su jA jD)) hD [0, 1, 2, 3, 4, 5, 6, 7, 8, 9, 10, 11, 12, 13, 14, 15] (by decide) rfl) (ci := 4) (q0 := 3) rfl rfl) rfl rfl hl.1 rfl (lv_room (Nat.le_of_ble_eq_true rfl)) dL_act_185 ⟨by show _ + 1 ≤ 1982; omega, by show _ + 6 ≤ 12992; omega⟩) hP hD hS hA rfl (wr := (z4 c cM ((2 : Int32) + x107) ((2 : Int32) + x121) (((2 : Int32) + x121).toNatClampNeg) r)) rfl (by decide) (by decide) (fun E ce q9 Hq locs hE hP hD hS h1 h2 h3 => ?_) (fun r0 u185 Hq locs hw hP hD hS => ?_)
      · obtain ⟨k, hk, hE⟩ := hE
        subst hk
        cases hM
      obtain ⟨hxx, hw⟩ := hw
      subst hxx
      dsimp only [Sum.elim] at hM
      replace hP : va_P D vwCl ((xw a cI cJ ho ke hc tr fo u185.1.2.1 u185.1.2.2.1 u185.1.2.2.2.1 u185.1.2.2.2.2.1 u185.1.2.2.2.2.2.1 u185.1.2.2.2.2.2.2 su jA jD ++ (z4 c cM ((2 : Int32) + x107) ((2 : Int32) + x121) (((2 : Int32) + x121).toNatClampNeg) r)) ++ (zpl cI (((2 : Int32) + x107).toNatClampNeg) (((2 : Int32) + x121).toNatClampNeg) r (fun _ _ => 0) (fun _ _ => 0) (fun _ _ => 0))) Hq := va_P.part (cx := (xw a cI cJ ho ke hc tr fo u185.1.2.1 u185.1.2.2.1 u185.1.2.2.2.1 u185.1.2.2.2.2.1 u185.1.2.2.2.2.2.1 u185.1.2.2.2.2.2.2 su jA jD ++ (z4 c cM ((2 : Int32) + x107) ((2 : Int32) + x121) (((2 : Int32) + x121).toNatClampNeg) r))) (pl := (zpl cI (((2 : Int32) + x107).toNatClampNeg) (((2 : Int32) + x121).toNatClampNeg) r (fun _ _ => 0) (fun _ _ => 0) (fun _ _ => 0))) hP [4, 5, 6, 7, 8, 9, 10, 11, 12, 13, 14, 15, 16, 17, 18, 19, 0, 1, 2, 3] rfl
      replace hD : va_D A ((xw a cI cJ ho ke hc tr fo u185.1.2.1 u185.1.2.2.1 u185.1.2.2.2.1 u185.1.2.2.2.2.1 u185.1.2.2.2.2.2.1 u185.1.2.2.2.2.2.2 su jA jD ++ (z4 c cM ((2 : Int32) + x107) ((2 : Int32) + x121) (((2 : Int32) + x121).toNatClampNeg) r)) ++ (zpl cI (((2 : Int32) + x107).toNatClampNeg) (((2 : Int32) + x121).toNatClampNeg) r (fun _ _ => 0) (fun _ _ => 0) (fun _ _ => 0))) := va_D.part (cx := (xw a cI cJ ho ke hc tr fo u185.1.2.1 u185.1.2.2.1 u185.1.2.2.2.1 u185.1.2.2.2.2.1 u185.1.2.2.2.2.2.1 u185.1.2.2.2.2.2.2 su jA jD ++ (z4 c cM ((2 : Int32) + x107) ((2 : Int32) + x121) (((2 : Int32) + x121).toNatClampNeg) r))) (pl := (zpl cI (((2 : Int32) + x107).toNatClampNeg) (((2 : Int32) + x121).toNatClampNeg) r (fun _ _ => 0) (fun _ _ => 0) (fun _ _ => 0))) hD [4, 5, 6, 7, 8, 9, 10, 11, 12, 13, 14, 15, 16, 17, 18, 19, 0, 1, 2, 3] (by decide) rfl
      rw [hw]
      refine W.widen (k := 22) (n := 132) (by omega) (by omega) ?_
      refine lv_aload_n hx hb dL_act_188 rfl (lv_at hl 4 rfl) ?_
      refine va_get (D := D) (ci := 5) (v := .int ((2 : Int32) + x107)) (C := RX5) (T := TX5) (N := 8) hx hb hts iX5 hown hK hP 16 rfl rfl 0 (by decide) f9 (fun _ h9 => h9) rfl dL_act_189 ?_
      refine lv_aload_n hx hb dL_act_192 rfl (lv_at hl 4 rfl) ?_
      refine va_get (D := D) (ci := 5) (v := .int ((2 : Int32) + x121)) (C := RX5) (T := TX5) (N := 8) hx hb hts iX5 hown hK hP 16 rfl rfl 1 (by decide) f15 (fun _ h9 => h9) rfl dL_act_193 ?_
      refine lv_imul hx hb dL_act_196 ?_
      refine lv_icmp_ne (tgt := 204) hx hb dL_act_197 (by decide) (fun hcc => ?_) (fun hcc => ?_)
      · replace hM := it_n hcc hM
        refine lv_iconst (v := 0) hx hb dL_act_204 (by decide) ?_
        obtain rfl := Option.some.inj hM
        refine W.widen (k := 1982) (n := 12992) (by omega) (by omega) ?_
        subst hQ hAe
        exact W.zret (ty := .boolean) (v := (0 : Int32)) hx hb hr (nb_z (Or.inl rfl)) (fun t ht hW => ⟨⟨(0 : Int32), (jA, jD, c, r), rfl, ⟨rfl, Or.inl rfl, hc9⟩, ⟨by rw [ht]; exact hP, hD⟩⟩, hS.F ht⟩) hS.2.2 dL_act_205
      · replace hM := it_p hcc hM
        refine lv_iconst (v := 1) hx hb dL_act_200 (by decide) ?_
        refine lv_goto (tgt := 205) hx hb dL_act_201 (by decide) ?_
        obtain rfl := Option.some.inj hM
        refine W.widen (k := 1982) (n := 12992) (by omega) (by omega) ?_
        subst hQ hAe
        exact W.zret (ty := .boolean) (v := (1 : Int32)) hx hb hr (nb_z (Or.inr rfl)) (fun t ht hW => ⟨⟨(1 : Int32), (jA, jD, c, r), rfl, ⟨rfl, Or.inr rfl, hc9⟩, ⟨by rw [ht]; exact hP, hD⟩⟩, hS.F ht⟩) hS.2.2 dL_act_205
    · replace hM := it_n hcc hM
      refine lv_iconst (v := 1) hx hb dL_act_98 (by decide) ?_
      obtain rfl := Option.some.inj hM
      refine W.widen (k := 1982) (n := 12992) (by omega) (by omega) ?_
      subst hQ hAe
      exact W.zret (ty := .boolean) (v := (1 : Int32)) hx hb hr (nb_z (Or.inr rfl)) (fun t ht hW => ⟨⟨(1 : Int32), (jA, jD, c, r), rfl, ⟨rfl, Or.inr rfl, rfl⟩, ⟨by rw [ht]; exact hP, hD⟩⟩, hS.F ht⟩) hS.2.2 dL_act_99
  replace hM := it_n hs0 hM
  by_cases hs1 : x40 = 1
  · replace hM := it_p hs1 hM
    refine lv_tableIn (tgt := 206) hx hb dL_act_43 (by rw [hs1]; decide) (by rw [hs1]; decide) (by rw [hs1]; rfl) (by decide) ?_
    refine lv_aload hx hb dL_act_206 (lv_at hl 1 rfl) ?_
    refine lv_iload hx hb dL_act_208 (lv_at hl 0 rfl) ?_
    refine lv_aload hx hb dL_act_210 (lv_at hl 1 rfl) ?_
    refine lv_iload hx hb dL_act_212 (lv_at hl 0 rfl) ?_
    obtain ⟨hb214, hM⟩ := it_x hM
    refine va_iald (D := D) hx hb hK hP _ 0 (row0 (xw a cI cJ ho ke hc tr fo fr st co ro cA cD su jA jD ++ (z4 c cM wI hI Hn r)) (lt_in hb26)) rfl hb214 dL_act_214 ?_
    refine lv_if_ge (tgt := 222) hx hb dL_act_215 (by decide) (fun hcc => ?_) (fun hcc => ?_)
    · replace hM := it_p hcc hM
      refine lv_iconst (v := -1) hx hb dL_act_222 (by decide) ?_
      obtain ⟨hb223, hM⟩ := it_x hM
      refine va_iast (D := D) hx hb hK hP hD hS _ 0 (row0 (xw a cI cJ ho ke hc tr fo fr st co ro cA cD su jA jD ++ (z4 c cM wI hI Hn r)) (lt_in hb26)) rfl hb223 dL_act_223 (fun Hq locs hP hD hS => ?_)
      rw [set0 _ (lt_in hb26)] at hP hD
      refine lv_aload_n hx hb dL_act_224 rfl (lv_at hl 3 rfl) ?_
      refine lv_iload_n hx hb dL_act_225 rfl (lv_at hl 2 rfl) ?_
      obtain ⟨x226, hC, hM⟩ := bd_s hM
      refine cTQ_i [0, 1, 2, 3, 4, 5, 6, 7, 8, 9, 10, 11, 12, 13, 14, 15] [16, 17, 18, 19] (vx_runV (As := [.int x12]) (rest := []) ⟨hx, hb, hml, hown, hts⟩ (kX4_pillar (l := l) (D := D) (cI := cI) (cJ := cJ) hlt N a (ho := ho) (ke := ke) (hc := hc) (tr := tr) (fo := fo) (fr := fr) (st := st) (co := co) (ro := ro) (cA := cA) (cD := cD) (su := su) (jA := jA) (jD := jD) (p1 := x12) hC Hq.size) (cwV 1 hts gL_act_X4_pillar rfl rfl rfl (by decide +kernel) ⟨Nat.le_of_ble_eq_true rfl, Nat.le_of_ble_eq_true rfl⟩) (preVT [.int x12] hTX hS (freeQ (cx := (xw a cI cJ ho ke hc tr fo fr st co ro cA cD su jA jD)) hD hS hA [0, 1, 2, 3, 4, 5, 6, 7, 8, 9, 10, 11, 12, 13, 14, 15] rfl) hN.1 (KX hK) (subQ (cx := (xw a cI cJ ho ke hc tr fo fr st co ro cA cD su jA jD)) hP [0, 1, 2, 3, 4, 5, 6, 7, 8, 9, 10, 11, 12, 13, 14, 15] rfl) (subQD (cx := (xw a cI cJ ho ke hc tr fo fr st co ro cA cD su jA jD)) hD [0, 1, 2, 3, 4, 5, 6, 7, 8, 9, 10, 11, 12, 13, 14, 15] (by decide) rfl) (ci := 4) (q0 := 3) rfl rfl) rfl rfl hl.1 rfl (lv_room (Nat.le_of_ble_eq_true rfl)) dL_act_226 ⟨by show _ + 1 ≤ 1982; omega, by show _ + 6 ≤ 12992; omega⟩) hP hD hS hA rfl (wr := (z4 c cM wI hI Hn r)) rfl (by decide) (by decide) (fun E ce q9 Hq locs hE hP hD hS h1 h2 h3 => ?_) (fun r0 u226 Hq locs hw hP hD hS => ?_)
      · obtain ⟨k, hk, hE⟩ := hE
        subst hk
        cases hM
      obtain ⟨hxx, hw⟩ := hw
      subst hxx
      dsimp only [Sum.elim] at hM
      replace hP : va_P D vwCl ((xw a cI cJ ho ke hc tr fo u226.1.2.1 u226.1.2.2.1 co ro u226.1.2.2.2.1 u226.1.2.2.2.2 su jA jD ++ (z4 c cM wI hI Hn r)) ++ (zpl cI Wn Hn r (updR gS ((x12 / wI).toNatClampNeg) (upd (gS ((x12 / wI).toNatClampNeg)) (x12 - x12 / wI * wI).toNatClampNeg (-1 : Int32))) gA gD)) Hq := va_P.part (cx := (xw a cI cJ ho ke hc tr fo u226.1.2.1 u226.1.2.2.1 co ro u226.1.2.2.2.1 u226.1.2.2.2.2 su jA jD ++ (z4 c cM wI hI Hn r))) (pl := (zpl cI Wn Hn r (updR gS ((x12 / wI).toNatClampNeg) (upd (gS ((x12 / wI).toNatClampNeg)) (x12 - x12 / wI * wI).toNatClampNeg (-1 : Int32))) gA gD)) hP [4, 5, 6, 7, 8, 9, 10, 11, 12, 13, 14, 15, 16, 17, 18, 19, 0, 1, 2, 3] rfl
      replace hD : va_D A ((xw a cI cJ ho ke hc tr fo u226.1.2.1 u226.1.2.2.1 co ro u226.1.2.2.2.1 u226.1.2.2.2.2 su jA jD ++ (z4 c cM wI hI Hn r)) ++ (zpl cI Wn Hn r (updR gS ((x12 / wI).toNatClampNeg) (upd (gS ((x12 / wI).toNatClampNeg)) (x12 - x12 / wI * wI).toNatClampNeg (-1 : Int32))) gA gD)) := va_D.part (cx := (xw a cI cJ ho ke hc tr fo u226.1.2.1 u226.1.2.2.1 co ro u226.1.2.2.2.1 u226.1.2.2.2.2 su jA jD ++ (z4 c cM wI hI Hn r))) (pl := (zpl cI Wn Hn r (updR gS ((x12 / wI).toNatClampNeg) (upd (gS ((x12 / wI).toNatClampNeg)) (x12 - x12 / wI * wI).toNatClampNeg (-1 : Int32))) gA gD)) hD [4, 5, 6, 7, 8, 9, 10, 11, 12, 13, 14, 15, 16, 17, 18, 19, 0, 1, 2, 3] (by decide) rfl
      obtain ⟨hw, hz226⟩ := hw
      rw [hw] at hz226
      rw [hw]
      refine W.widen (k := 1) (n := 6) (by omega) (by omega) ?_
      refine lv_aload hx hb dL_act_229 (lv_at hl 1 rfl) ?_
      refine lv_iload hx hb dL_act_231 (lv_at hl 0 rfl) ?_
      obtain ⟨hb233, hM⟩ := it_x hM
      refine va_iald (D := D) hx hb hK hP _ 0 (row0 (xw a cI cJ ho ke hc tr fo u226.1.2.1 u226.1.2.2.1 co ro u226.1.2.2.2.1 u226.1.2.2.2.2 su jA jD ++ (z4 c cM wI hI Hn r)) (lt_in hb26)) rfl hb233 dL_act_233 ?_
      refine lv_if_ge (tgt := 241) hx hb dL_act_234 (by decide) (fun hcc => ?_) (fun hcc => ?_)
      · replace hM := it_p hcc hM
        refine lv_iconst (v := 0) hx hb dL_act_241 (by decide) ?_
        exact c242 (0 : Int32) u226.1.1 u226.1.2.1 u226.1.2.2.1 u226.1.2.2.2.1 u226.1.2.2.2.2 (updR gS ((x12 / wI).toNatClampNeg) (upd (gS ((x12 / wI).toNatClampNeg)) (x12 - x12 / wI * wI).toNatClampNeg (-1 : Int32))) hM 1 6 (by omega) (by omega) Hq locs ls hP hD hS (lv_sub hl [] rfl)
      · replace hM := it_n hcc hM
        refine lv_iconst (v := 1) hx hb dL_act_237 (by decide) ?_
        refine lv_goto (tgt := 242) hx hb dL_act_238 (by decide) ?_
        exact c242 (1 : Int32) u226.1.1 u226.1.2.1 u226.1.2.2.1 u226.1.2.2.2.1 u226.1.2.2.2.2 (updR gS ((x12 / wI).toNatClampNeg) (upd (gS ((x12 / wI).toNatClampNeg)) (x12 - x12 / wI * wI).toNatClampNeg (-1 : Int32))) hM 1 6 (by omega) (by omega) Hq locs ls hP hD hS (lv_sub hl [] rfl)
    · replace hM := it_n hcc hM
      refine lv_iconst (v := 0) hx hb dL_act_218 (by decide) ?_
      refine lv_goto (tgt := 223) hx hb dL_act_219 (by decide) ?_
      obtain ⟨hb223, hM⟩ := it_x hM
      refine va_iast (D := D) hx hb hK hP hD hS _ 0 (row0 (xw a cI cJ ho ke hc tr fo fr st co ro cA cD su jA jD ++ (z4 c cM wI hI Hn r)) (lt_in hb26)) rfl hb223 dL_act_223 (fun Hq locs hP hD hS => ?_)
      rw [set0 _ (lt_in hb26)] at hP hD
      refine lv_aload_n hx hb dL_act_224 rfl (lv_at hl 3 rfl) ?_
      refine lv_iload_n hx hb dL_act_225 rfl (lv_at hl 2 rfl) ?_
      obtain ⟨x226, hC, hM⟩ := bd_s hM
      refine cTQ_i [0, 1, 2, 3, 4, 5, 6, 7, 8, 9, 10, 11, 12, 13, 14, 15] [16, 17, 18, 19] (vx_runV (As := [.int x12]) (rest := []) ⟨hx, hb, hml, hown, hts⟩ (kX4_pillar (l := l) (D := D) (cI := cI) (cJ := cJ) hlt N a (ho := ho) (ke := ke) (hc := hc) (tr := tr) (fo := fo) (fr := fr) (st := st) (co := co) (ro := ro) (cA := cA) (cD := cD) (su := su) (jA := jA) (jD := jD) (p1 := x12) hC Hq.size) (cwV 1 hts gL_act_X4_pillar rfl rfl rfl (by decide +kernel) ⟨Nat.le_of_ble_eq_true rfl, Nat.le_of_ble_eq_true rfl⟩) (preVT [.int x12] hTX hS (freeQ (cx := (xw a cI cJ ho ke hc tr fo fr st co ro cA cD su jA jD)) hD hS hA [0, 1, 2, 3, 4, 5, 6, 7, 8, 9, 10, 11, 12, 13, 14, 15] rfl) hN.1 (KX hK) (subQ (cx := (xw a cI cJ ho ke hc tr fo fr st co ro cA cD su jA jD)) hP [0, 1, 2, 3, 4, 5, 6, 7, 8, 9, 10, 11, 12, 13, 14, 15] rfl) (subQD (cx := (xw a cI cJ ho ke hc tr fo fr st co ro cA cD su jA jD)) hD [0, 1, 2, 3, 4, 5, 6, 7, 8, 9, 10, 11, 12, 13, 14, 15] (by decide) rfl) (ci := 4) (q0 := 3) rfl rfl) rfl rfl hl.1 rfl (lv_room (Nat.le_of_ble_eq_true rfl)) dL_act_226 ⟨by show _ + 1 ≤ 1982; omega, by show _ + 6 ≤ 12992; omega⟩) hP hD hS hA rfl (wr := (z4 c cM wI hI Hn r)) rfl (by decide) (by decide) (fun E ce q9 Hq locs hE hP hD hS h1 h2 h3 => ?_) (fun r0 u226 Hq locs hw hP hD hS => ?_)
      · obtain ⟨k, hk, hE⟩ := hE
        subst hk
        cases hM
      obtain ⟨hxx, hw⟩ := hw
      subst hxx
      dsimp only [Sum.elim] at hM
      replace hP : va_P D vwCl ((xw a cI cJ ho ke hc tr fo u226.1.2.1 u226.1.2.2.1 co ro u226.1.2.2.2.1 u226.1.2.2.2.2 su jA jD ++ (z4 c cM wI hI Hn r)) ++ (zpl cI Wn Hn r (updR gS ((x12 / wI).toNatClampNeg) (upd (gS ((x12 / wI).toNatClampNeg)) (x12 - x12 / wI * wI).toNatClampNeg (0 : Int32))) gA gD)) Hq := va_P.part (cx := (xw a cI cJ ho ke hc tr fo u226.1.2.1 u226.1.2.2.1 co ro u226.1.2.2.2.1 u226.1.2.2.2.2 su jA jD ++ (z4 c cM wI hI Hn r))) (pl := (zpl cI Wn Hn r (updR gS ((x12 / wI).toNatClampNeg) (upd (gS ((x12 / wI).toNatClampNeg)) (x12 - x12 / wI * wI).toNatClampNeg (0 : Int32))) gA gD)) hP [4, 5, 6, 7, 8, 9, 10, 11, 12, 13, 14, 15, 16, 17, 18, 19, 0, 1, 2, 3] rfl
      replace hD : va_D A ((xw a cI cJ ho ke hc tr fo u226.1.2.1 u226.1.2.2.1 co ro u226.1.2.2.2.1 u226.1.2.2.2.2 su jA jD ++ (z4 c cM wI hI Hn r)) ++ (zpl cI Wn Hn r (updR gS ((x12 / wI).toNatClampNeg) (upd (gS ((x12 / wI).toNatClampNeg)) (x12 - x12 / wI * wI).toNatClampNeg (0 : Int32))) gA gD)) := va_D.part (cx := (xw a cI cJ ho ke hc tr fo u226.1.2.1 u226.1.2.2.1 co ro u226.1.2.2.2.1 u226.1.2.2.2.2 su jA jD ++ (z4 c cM wI hI Hn r))) (pl := (zpl cI Wn Hn r (updR gS ((x12 / wI).toNatClampNeg) (upd (gS ((x12 / wI).toNatClampNeg)) (x12 - x12 / wI * wI).toNatClampNeg (0 : Int32))) gA gD)) hD [4, 5, 6, 7, 8, 9, 10, 11, 12, 13, 14, 15, 16, 17, 18, 19, 0, 1, 2, 3] (by decide) rfl
      obtain ⟨hw, hz226⟩ := hw
      rw [hw] at hz226
      rw [hw]
      refine W.widen (k := 1) (n := 6) (by omega) (by omega) ?_
      refine lv_aload hx hb dL_act_229 (lv_at hl 1 rfl) ?_
      refine lv_iload hx hb dL_act_231 (lv_at hl 0 rfl) ?_
      obtain ⟨hb233, hM⟩ := it_x hM
      refine va_iald (D := D) hx hb hK hP _ 0 (row0 (xw a cI cJ ho ke hc tr fo u226.1.2.1 u226.1.2.2.1 co ro u226.1.2.2.2.1 u226.1.2.2.2.2 su jA jD ++ (z4 c cM wI hI Hn r)) (lt_in hb26)) rfl hb233 dL_act_233 ?_
      refine lv_if_ge (tgt := 241) hx hb dL_act_234 (by decide) (fun hcc => ?_) (fun hcc => ?_)
      · replace hM := it_p hcc hM
        refine lv_iconst (v := 0) hx hb dL_act_241 (by decide) ?_
        exact c242 (0 : Int32) u226.1.1 u226.1.2.1 u226.1.2.2.1 u226.1.2.2.2.1 u226.1.2.2.2.2 (updR gS ((x12 / wI).toNatClampNeg) (upd (gS ((x12 / wI).toNatClampNeg)) (x12 - x12 / wI * wI).toNatClampNeg (0 : Int32))) hM 1 6 (by omega) (by omega) Hq locs ls hP hD hS (lv_sub hl [] rfl)
      · replace hM := it_n hcc hM
        refine lv_iconst (v := 1) hx hb dL_act_237 (by decide) ?_
        refine lv_goto (tgt := 242) hx hb dL_act_238 (by decide) ?_
        exact c242 (1 : Int32) u226.1.1 u226.1.2.1 u226.1.2.2.1 u226.1.2.2.2.1 u226.1.2.2.2.2 (updR gS ((x12 / wI).toNatClampNeg) (upd (gS ((x12 / wI).toNatClampNeg)) (x12 - x12 / wI * wI).toNatClampNeg (0 : Int32))) hM 1 6 (by omega) (by omega) Hq locs ls hP hD hS (lv_sub hl [] rfl)
  replace hM := it_n hs1 hM
  by_cases hs2 : x40 = 2
  · replace hM := it_p hs2 hM
    refine lv_tableIn (tgt := 206) hx hb dL_act_43 (by rw [hs2]; decide) (by rw [hs2]; decide) (by rw [hs2]; rfl) (by decide) ?_
    refine lv_aload hx hb dL_act_206 (lv_at hl 1 rfl) ?_
    refine lv_iload hx hb dL_act_208 (lv_at hl 0 rfl) ?_
    refine lv_aload hx hb dL_act_210 (lv_at hl 1 rfl) ?_
    refine lv_iload hx hb dL_act_212 (lv_at hl 0 rfl) ?_
    obtain ⟨hb214, hM⟩ := it_x hM
    refine va_iald (D := D) hx hb hK hP _ 0 (row0 (xw a cI cJ ho ke hc tr fo fr st co ro cA cD su jA jD ++ (z4 c cM wI hI Hn r)) (lt_in hb26)) rfl hb214 dL_act_214 ?_
    refine lv_if_ge (tgt := 222) hx hb dL_act_215 (by decide) (fun hcc => ?_) (fun hcc => ?_)
    · replace hM := it_p hcc hM
      refine lv_iconst (v := -1) hx hb dL_act_222 (by decide) ?_
      obtain ⟨hb223, hM⟩ := it_x hM
      refine va_iast (D := D) hx hb hK hP hD hS _ 0 (row0 (xw a cI cJ ho ke hc tr fo fr st co ro cA cD su jA jD ++ (z4 c cM wI hI Hn r)) (lt_in hb26)) rfl hb223 dL_act_223 (fun Hq locs hP hD hS => ?_)
      rw [set0 _ (lt_in hb26)] at hP hD
      refine lv_aload_n hx hb dL_act_224 rfl (lv_at hl 3 rfl) ?_
      refine lv_iload_n hx hb dL_act_225 rfl (lv_at hl 2 rfl) ?_
      obtain ⟨x226, hC, hM⟩ := bd_s hM
      refine cTQ_i [0, 1, 2, 3, 4, 5, 6, 7, 8, 9, 10, 11, 12, 13, 14, 15] [16, 17, 18, 19] (vx_runV (As := [.int x12]) (rest := []) ⟨hx, hb, hml, hown, hts⟩ (kX4_pillar (l := l) (D := D) (cI := cI) (cJ := cJ) hlt N a (ho := ho) (ke := ke) (hc := hc) (tr := tr) (fo := fo) (fr := fr) (st := st) (co := co) (ro := ro) (cA := cA) (cD := cD) (su := su) (jA := jA) (jD := jD) (p1 := x12) hC Hq.size) (cwV 1 hts gL_act_X4_pillar rfl rfl rfl (by decide +kernel) ⟨Nat.le_of_ble_eq_true rfl, Nat.le_of_ble_eq_true rfl⟩) (preVT [.int x12] hTX hS (freeQ (cx := (xw a cI cJ ho ke hc tr fo fr st co ro cA cD su jA jD)) hD hS hA [0, 1, 2, 3, 4, 5, 6, 7, 8, 9, 10, 11, 12, 13, 14, 15] rfl) hN.1 (KX hK) (subQ (cx := (xw a cI cJ ho ke hc tr fo fr st co ro cA cD su jA jD)) hP [0, 1, 2, 3, 4, 5, 6, 7, 8, 9, 10, 11, 12, 13, 14, 15] rfl) (subQD (cx := (xw a cI cJ ho ke hc tr fo fr st co ro cA cD su jA jD)) hD [0, 1, 2, 3, 4, 5, 6, 7, 8, 9, 10, 11, 12, 13, 14, 15] (by decide) rfl) (ci := 4) (q0 := 3) rfl rfl) rfl rfl hl.1 rfl (lv_room (Nat.le_of_ble_eq_true rfl)) dL_act_226 ⟨by show _ + 1 ≤ 1982; omega, by show _ + 6 ≤ 12992; omega⟩) hP hD hS hA rfl (wr := (z4 c cM wI hI Hn r)) rfl (by decide) (by decide) (fun E ce q9 Hq locs hE hP hD hS h1 h2 h3 => ?_) (fun r0 u226 Hq locs hw hP hD hS => ?_)
      · obtain ⟨k, hk, hE⟩ := hE
        subst hk
        cases hM
      obtain ⟨hxx, hw⟩ := hw
      subst hxx
      dsimp only [Sum.elim] at hM
      replace hP : va_P D vwCl ((xw a cI cJ ho ke hc tr fo u226.1.2.1 u226.1.2.2.1 co ro u226.1.2.2.2.1 u226.1.2.2.2.2 su jA jD ++ (z4 c cM wI hI Hn r)) ++ (zpl cI Wn Hn r (updR gS ((x12 / wI).toNatClampNeg) (upd (gS ((x12 / wI).toNatClampNeg)) (x12 - x12 / wI * wI).toNatClampNeg (-1 : Int32))) gA gD)) Hq := va_P.part (cx := (xw a cI cJ ho ke hc tr fo u226.1.2.1 u226.1.2.2.1 co ro u226.1.2.2.2.1 u226.1.2.2.2.2 su jA jD ++ (z4 c cM wI hI Hn r))) (pl := (zpl cI Wn Hn r (updR gS ((x12 / wI).toNatClampNeg) (upd (gS ((x12 / wI).toNatClampNeg)) (x12 - x12 / wI * wI).toNatClampNeg (-1 : Int32))) gA gD)) hP [4, 5, 6, 7, 8, 9, 10, 11, 12, 13, 14, 15, 16, 17, 18, 19, 0, 1, 2, 3] rfl
      replace hD : va_D A ((xw a cI cJ ho ke hc tr fo u226.1.2.1 u226.1.2.2.1 co ro u226.1.2.2.2.1 u226.1.2.2.2.2 su jA jD ++ (z4 c cM wI hI Hn r)) ++ (zpl cI Wn Hn r (updR gS ((x12 / wI).toNatClampNeg) (upd (gS ((x12 / wI).toNatClampNeg)) (x12 - x12 / wI * wI).toNatClampNeg (-1 : Int32))) gA gD)) := va_D.part (cx := (xw a cI cJ ho ke hc tr fo u226.1.2.1 u226.1.2.2.1 co ro u226.1.2.2.2.1 u226.1.2.2.2.2 su jA jD ++ (z4 c cM wI hI Hn r))) (pl := (zpl cI Wn Hn r (updR gS ((x12 / wI).toNatClampNeg) (upd (gS ((x12 / wI).toNatClampNeg)) (x12 - x12 / wI * wI).toNatClampNeg (-1 : Int32))) gA gD)) hD [4, 5, 6, 7, 8, 9, 10, 11, 12, 13, 14, 15, 16, 17, 18, 19, 0, 1, 2, 3] (by decide) rfl
      obtain ⟨hw, hz226⟩ := hw
      rw [hw] at hz226
      rw [hw]
      refine W.widen (k := 1) (n := 6) (by omega) (by omega) ?_
      refine lv_aload hx hb dL_act_229 (lv_at hl 1 rfl) ?_
      refine lv_iload hx hb dL_act_231 (lv_at hl 0 rfl) ?_
      obtain ⟨hb233, hM⟩ := it_x hM
      refine va_iald (D := D) hx hb hK hP _ 0 (row0 (xw a cI cJ ho ke hc tr fo u226.1.2.1 u226.1.2.2.1 co ro u226.1.2.2.2.1 u226.1.2.2.2.2 su jA jD ++ (z4 c cM wI hI Hn r)) (lt_in hb26)) rfl hb233 dL_act_233 ?_
      refine lv_if_ge (tgt := 241) hx hb dL_act_234 (by decide) (fun hcc => ?_) (fun hcc => ?_)
      · replace hM := it_p hcc hM
        refine lv_iconst (v := 0) hx hb dL_act_241 (by decide) ?_
        exact c242 (0 : Int32) u226.1.1 u226.1.2.1 u226.1.2.2.1 u226.1.2.2.2.1 u226.1.2.2.2.2 (updR gS ((x12 / wI).toNatClampNeg) (upd (gS ((x12 / wI).toNatClampNeg)) (x12 - x12 / wI * wI).toNatClampNeg (-1 : Int32))) hM 1 6 (by omega) (by omega) Hq locs ls hP hD hS (lv_sub hl [] rfl)
      · replace hM := it_n hcc hM
        refine lv_iconst (v := 1) hx hb dL_act_237 (by decide) ?_
        refine lv_goto (tgt := 242) hx hb dL_act_238 (by decide) ?_
        exact c242 (1 : Int32) u226.1.1 u226.1.2.1 u226.1.2.2.1 u226.1.2.2.2.1 u226.1.2.2.2.2 (updR gS ((x12 / wI).toNatClampNeg) (upd (gS ((x12 / wI).toNatClampNeg)) (x12 - x12 / wI * wI).toNatClampNeg (-1 : Int32))) hM 1 6 (by omega) (by omega) Hq locs ls hP hD hS (lv_sub hl [] rfl)
    · replace hM := it_n hcc hM
      refine lv_iconst (v := 0) hx hb dL_act_218 (by decide) ?_
      refine lv_goto (tgt := 223) hx hb dL_act_219 (by decide) ?_
      obtain ⟨hb223, hM⟩ := it_x hM
      refine va_iast (D := D) hx hb hK hP hD hS _ 0 (row0 (xw a cI cJ ho ke hc tr fo fr st co ro cA cD su jA jD ++ (z4 c cM wI hI Hn r)) (lt_in hb26)) rfl hb223 dL_act_223 (fun Hq locs hP hD hS => ?_)
      rw [set0 _ (lt_in hb26)] at hP hD
      refine lv_aload_n hx hb dL_act_224 rfl (lv_at hl 3 rfl) ?_
      refine lv_iload_n hx hb dL_act_225 rfl (lv_at hl 2 rfl) ?_
      obtain ⟨x226, hC, hM⟩ := bd_s hM
      refine cTQ_i [0, 1, 2, 3, 4, 5, 6, 7, 8, 9, 10, 11, 12, 13, 14, 15] [16, 17, 18, 19] (vx_runV (As := [.int x12]) (rest := []) ⟨hx, hb, hml, hown, hts⟩ (kX4_pillar (l := l) (D := D) (cI := cI) (cJ := cJ) hlt N a (ho := ho) (ke := ke) (hc := hc) (tr := tr) (fo := fo) (fr := fr) (st := st) (co := co) (ro := ro) (cA := cA) (cD := cD) (su := su) (jA := jA) (jD := jD) (p1 := x12) hC Hq.size) (cwV 1 hts gL_act_X4_pillar rfl rfl rfl (by decide +kernel) ⟨Nat.le_of_ble_eq_true rfl, Nat.le_of_ble_eq_true rfl⟩) (preVT [.int x12] hTX hS (freeQ (cx := (xw a cI cJ ho ke hc tr fo fr st co ro cA cD su jA jD)) hD hS hA [0, 1, 2, 3, 4, 5, 6, 7, 8, 9, 10, 11, 12, 13, 14, 15] rfl) hN.1 (KX hK) (subQ (cx := (xw a cI cJ ho ke hc tr fo fr st co ro cA cD su jA jD)) hP [0, 1, 2, 3, 4, 5, 6, 7, 8, 9, 10, 11, 12, 13, 14, 15] rfl) (subQD (cx := (xw a cI cJ ho ke hc tr fo fr st co ro cA cD su jA jD)) hD [0, 1, 2, 3, 4, 5, 6, 7, 8, 9, 10, 11, 12, 13, 14, 15] (by decide) rfl) (ci := 4) (q0 := 3) rfl rfl) rfl rfl hl.1 rfl (lv_room (Nat.le_of_ble_eq_true rfl)) dL_act_226 ⟨by show _ + 1 ≤ 1982; omega, by show _ + 6 ≤ 12992; omega⟩) hP hD hS hA rfl (wr := (z4 c cM wI hI Hn r)) rfl (by decide) (by decide) (fun E ce q9 Hq locs hE hP hD hS h1 h2 h3 => ?_) (fun r0 u226 Hq locs hw hP hD hS => ?_)
      · obtain ⟨k, hk, hE⟩ := hE
        subst hk
        cases hM
      obtain ⟨hxx, hw⟩ := hw
      subst hxx
      dsimp only [Sum.elim] at hM
      replace hP : va_P D vwCl ((xw a cI cJ ho ke hc tr fo u226.1.2.1 u226.1.2.2.1 co ro u226.1.2.2.2.1 u226.1.2.2.2.2 su jA jD ++ (z4 c cM wI hI Hn r)) ++ (zpl cI Wn Hn r (updR gS ((x12 / wI).toNatClampNeg) (upd (gS ((x12 / wI).toNatClampNeg)) (x12 - x12 / wI * wI).toNatClampNeg (0 : Int32))) gA gD)) Hq := va_P.part (cx := (xw a cI cJ ho ke hc tr fo u226.1.2.1 u226.1.2.2.1 co ro u226.1.2.2.2.1 u226.1.2.2.2.2 su jA jD ++ (z4 c cM wI hI Hn r))) (pl := (zpl cI Wn Hn r (updR gS ((x12 / wI).toNatClampNeg) (upd (gS ((x12 / wI).toNatClampNeg)) (x12 - x12 / wI * wI).toNatClampNeg (0 : Int32))) gA gD)) hP [4, 5, 6, 7, 8, 9, 10, 11, 12, 13, 14, 15, 16, 17, 18, 19, 0, 1, 2, 3] rfl
      replace hD : va_D A ((xw a cI cJ ho ke hc tr fo u226.1.2.1 u226.1.2.2.1 co ro u226.1.2.2.2.1 u226.1.2.2.2.2 su jA jD ++ (z4 c cM wI hI Hn r)) ++ (zpl cI Wn Hn r (updR gS ((x12 / wI).toNatClampNeg) (upd (gS ((x12 / wI).toNatClampNeg)) (x12 - x12 / wI * wI).toNatClampNeg (0 : Int32))) gA gD)) := va_D.part (cx := (xw a cI cJ ho ke hc tr fo u226.1.2.1 u226.1.2.2.1 co ro u226.1.2.2.2.1 u226.1.2.2.2.2 su jA jD ++ (z4 c cM wI hI Hn r))) (pl := (zpl cI Wn Hn r (updR gS ((x12 / wI).toNatClampNeg) (upd (gS ((x12 / wI).toNatClampNeg)) (x12 - x12 / wI * wI).toNatClampNeg (0 : Int32))) gA gD)) hD [4, 5, 6, 7, 8, 9, 10, 11, 12, 13, 14, 15, 16, 17, 18, 19, 0, 1, 2, 3] (by decide) rfl
      obtain ⟨hw, hz226⟩ := hw
      rw [hw] at hz226
      rw [hw]
      refine W.widen (k := 1) (n := 6) (by omega) (by omega) ?_
      refine lv_aload hx hb dL_act_229 (lv_at hl 1 rfl) ?_
      refine lv_iload hx hb dL_act_231 (lv_at hl 0 rfl) ?_
      obtain ⟨hb233, hM⟩ := it_x hM
      refine va_iald (D := D) hx hb hK hP _ 0 (row0 (xw a cI cJ ho ke hc tr fo u226.1.2.1 u226.1.2.2.1 co ro u226.1.2.2.2.1 u226.1.2.2.2.2 su jA jD ++ (z4 c cM wI hI Hn r)) (lt_in hb26)) rfl hb233 dL_act_233 ?_
      refine lv_if_ge (tgt := 241) hx hb dL_act_234 (by decide) (fun hcc => ?_) (fun hcc => ?_)
      · replace hM := it_p hcc hM
        refine lv_iconst (v := 0) hx hb dL_act_241 (by decide) ?_
        exact c242 (0 : Int32) u226.1.1 u226.1.2.1 u226.1.2.2.1 u226.1.2.2.2.1 u226.1.2.2.2.2 (updR gS ((x12 / wI).toNatClampNeg) (upd (gS ((x12 / wI).toNatClampNeg)) (x12 - x12 / wI * wI).toNatClampNeg (0 : Int32))) hM 1 6 (by omega) (by omega) Hq locs ls hP hD hS (lv_sub hl [] rfl)
      · replace hM := it_n hcc hM
        refine lv_iconst (v := 1) hx hb dL_act_237 (by decide) ?_
        refine lv_goto (tgt := 242) hx hb dL_act_238 (by decide) ?_
        exact c242 (1 : Int32) u226.1.1 u226.1.2.1 u226.1.2.2.1 u226.1.2.2.2.1 u226.1.2.2.2.2 (updR gS ((x12 / wI).toNatClampNeg) (upd (gS ((x12 / wI).toNatClampNeg)) (x12 - x12 / wI * wI).toNatClampNeg (0 : Int32))) hM 1 6 (by omega) (by omega) Hq locs ls hP hD hS (lv_sub hl [] rfl)
  replace hM := it_n hs2 hM
  by_cases hs3 : x40 = 3
  · replace hM := it_p hs3 hM
    refine lv_tableIn (tgt := 206) hx hb dL_act_43 (by rw [hs3]; decide) (by rw [hs3]; decide) (by rw [hs3]; rfl) (by decide) ?_
    refine lv_aload hx hb dL_act_206 (lv_at hl 1 rfl) ?_
    refine lv_iload hx hb dL_act_208 (lv_at hl 0 rfl) ?_
    refine lv_aload hx hb dL_act_210 (lv_at hl 1 rfl) ?_
    refine lv_iload hx hb dL_act_212 (lv_at hl 0 rfl) ?_
    obtain ⟨hb214, hM⟩ := it_x hM
    refine va_iald (D := D) hx hb hK hP _ 0 (row0 (xw a cI cJ ho ke hc tr fo fr st co ro cA cD su jA jD ++ (z4 c cM wI hI Hn r)) (lt_in hb26)) rfl hb214 dL_act_214 ?_
    refine lv_if_ge (tgt := 222) hx hb dL_act_215 (by decide) (fun hcc => ?_) (fun hcc => ?_)
    · replace hM := it_p hcc hM
      refine lv_iconst (v := -1) hx hb dL_act_222 (by decide) ?_
      obtain ⟨hb223, hM⟩ := it_x hM
      refine va_iast (D := D) hx hb hK hP hD hS _ 0 (row0 (xw a cI cJ ho ke hc tr fo fr st co ro cA cD su jA jD ++ (z4 c cM wI hI Hn r)) (lt_in hb26)) rfl hb223 dL_act_223 (fun Hq locs hP hD hS => ?_)
      rw [set0 _ (lt_in hb26)] at hP hD
      refine lv_aload_n hx hb dL_act_224 rfl (lv_at hl 3 rfl) ?_
      refine lv_iload_n hx hb dL_act_225 rfl (lv_at hl 2 rfl) ?_
      obtain ⟨x226, hC, hM⟩ := bd_s hM
      refine cTQ_i [0, 1, 2, 3, 4, 5, 6, 7, 8, 9, 10, 11, 12, 13, 14, 15] [16, 17, 18, 19] (vx_runV (As := [.int x12]) (rest := []) ⟨hx, hb, hml, hown, hts⟩ (kX4_pillar (l := l) (D := D) (cI := cI) (cJ := cJ) hlt N a (ho := ho) (ke := ke) (hc := hc) (tr := tr) (fo := fo) (fr := fr) (st := st) (co := co) (ro := ro) (cA := cA) (cD := cD) (su := su) (jA := jA) (jD := jD) (p1 := x12) hC Hq.size) (cwV 1 hts gL_act_X4_pillar rfl rfl rfl (by decide +kernel) ⟨Nat.le_of_ble_eq_true rfl, Nat.le_of_ble_eq_true rfl⟩) (preVT [.int x12] hTX hS (freeQ (cx := (xw a cI cJ ho ke hc tr fo fr st co ro cA cD su jA jD)) hD hS hA [0, 1, 2, 3, 4, 5, 6, 7, 8, 9, 10, 11, 12, 13, 14, 15] rfl) hN.1 (KX hK) (subQ (cx := (xw a cI cJ ho ke hc tr fo fr st co ro cA cD su jA jD)) hP [0, 1, 2, 3, 4, 5, 6, 7, 8, 9, 10, 11, 12, 13, 14, 15] rfl) (subQD (cx := (xw a cI cJ ho ke hc tr fo fr st co ro cA cD su jA jD)) hD [0, 1, 2, 3, 4, 5, 6, 7, 8, 9, 10, 11, 12, 13, 14, 15] (by decide) rfl) (ci := 4) (q0 := 3) rfl rfl) rfl rfl hl.1 rfl (lv_room (Nat.le_of_ble_eq_true rfl)) dL_act_226 ⟨by show _ + 1 ≤ 1982; omega, by show _ + 6 ≤ 12992; omega⟩) hP hD hS hA rfl (wr := (z4 c cM wI hI Hn r)) rfl (by decide) (by decide) (fun E ce q9 Hq locs hE hP hD hS h1 h2 h3 => ?_) (fun r0 u226 Hq locs hw hP hD hS => ?_)
      · obtain ⟨k, hk, hE⟩ := hE
        subst hk
        cases hM
      obtain ⟨hxx, hw⟩ := hw
      subst hxx
      dsimp only [Sum.elim] at hM
      replace hP : va_P D vwCl ((xw a cI cJ ho ke hc tr fo u226.1.2.1 u226.1.2.2.1 co ro u226.1.2.2.2.1 u226.1.2.2.2.2 su jA jD ++ (z4 c cM wI hI Hn r)) ++ (zpl cI Wn Hn r (updR gS ((x12 / wI).toNatClampNeg) (upd (gS ((x12 / wI).toNatClampNeg)) (x12 - x12 / wI * wI).toNatClampNeg (-1 : Int32))) gA gD)) Hq := va_P.part (cx := (xw a cI cJ ho ke hc tr fo u226.1.2.1 u226.1.2.2.1 co ro u226.1.2.2.2.1 u226.1.2.2.2.2 su jA jD ++ (z4 c cM wI hI Hn r))) (pl := (zpl cI Wn Hn r (updR gS ((x12 / wI).toNatClampNeg) (upd (gS ((x12 / wI).toNatClampNeg)) (x12 - x12 / wI * wI).toNatClampNeg (-1 : Int32))) gA gD)) hP [4, 5, 6, 7, 8, 9, 10, 11, 12, 13, 14, 15, 16, 17, 18, 19, 0, 1, 2, 3] rfl
      replace hD : va_D A ((xw a cI cJ ho ke hc tr fo u226.1.2.1 u226.1.2.2.1 co ro u226.1.2.2.2.1 u226.1.2.2.2.2 su jA jD ++ (z4 c cM wI hI Hn r)) ++ (zpl cI Wn Hn r (updR gS ((x12 / wI).toNatClampNeg) (upd (gS ((x12 / wI).toNatClampNeg)) (x12 - x12 / wI * wI).toNatClampNeg (-1 : Int32))) gA gD)) := va_D.part (cx := (xw a cI cJ ho ke hc tr fo u226.1.2.1 u226.1.2.2.1 co ro u226.1.2.2.2.1 u226.1.2.2.2.2 su jA jD ++ (z4 c cM wI hI Hn r))) (pl := (zpl cI Wn Hn r (updR gS ((x12 / wI).toNatClampNeg) (upd (gS ((x12 / wI).toNatClampNeg)) (x12 - x12 / wI * wI).toNatClampNeg (-1 : Int32))) gA gD)) hD [4, 5, 6, 7, 8, 9, 10, 11, 12, 13, 14, 15, 16, 17, 18, 19, 0, 1, 2, 3] (by decide) rfl
      obtain ⟨hw, hz226⟩ := hw
      rw [hw] at hz226
      rw [hw]
      refine W.widen (k := 1) (n := 6) (by omega) (by omega) ?_
      refine lv_aload hx hb dL_act_229 (lv_at hl 1 rfl) ?_
      refine lv_iload hx hb dL_act_231 (lv_at hl 0 rfl) ?_
      obtain ⟨hb233, hM⟩ := it_x hM
      refine va_iald (D := D) hx hb hK hP _ 0 (row0 (xw a cI cJ ho ke hc tr fo u226.1.2.1 u226.1.2.2.1 co ro u226.1.2.2.2.1 u226.1.2.2.2.2 su jA jD ++ (z4 c cM wI hI Hn r)) (lt_in hb26)) rfl hb233 dL_act_233 ?_
      refine lv_if_ge (tgt := 241) hx hb dL_act_234 (by decide) (fun hcc => ?_) (fun hcc => ?_)
      · replace hM := it_p hcc hM
        refine lv_iconst (v := 0) hx hb dL_act_241 (by decide) ?_
        exact c242 (0 : Int32) u226.1.1 u226.1.2.1 u226.1.2.2.1 u226.1.2.2.2.1 u226.1.2.2.2.2 (updR gS ((x12 / wI).toNatClampNeg) (upd (gS ((x12 / wI).toNatClampNeg)) (x12 - x12 / wI * wI).toNatClampNeg (-1 : Int32))) hM 1 6 (by omega) (by omega) Hq locs ls hP hD hS (lv_sub hl [] rfl)
      · replace hM := it_n hcc hM
        refine lv_iconst (v := 1) hx hb dL_act_237 (by decide) ?_
        refine lv_goto (tgt := 242) hx hb dL_act_238 (by decide) ?_
        exact c242 (1 : Int32) u226.1.1 u226.1.2.1 u226.1.2.2.1 u226.1.2.2.2.1 u226.1.2.2.2.2 (updR gS ((x12 / wI).toNatClampNeg) (upd (gS ((x12 / wI).toNatClampNeg)) (x12 - x12 / wI * wI).toNatClampNeg (-1 : Int32))) hM 1 6 (by omega) (by omega) Hq locs ls hP hD hS (lv_sub hl [] rfl)
    · replace hM := it_n hcc hM
      refine lv_iconst (v := 0) hx hb dL_act_218 (by decide) ?_
      refine lv_goto (tgt := 223) hx hb dL_act_219 (by decide) ?_
      obtain ⟨hb223, hM⟩ := it_x hM
      refine va_iast (D := D) hx hb hK hP hD hS _ 0 (row0 (xw a cI cJ ho ke hc tr fo fr st co ro cA cD su jA jD ++ (z4 c cM wI hI Hn r)) (lt_in hb26)) rfl hb223 dL_act_223 (fun Hq locs hP hD hS => ?_)
      rw [set0 _ (lt_in hb26)] at hP hD
      refine lv_aload_n hx hb dL_act_224 rfl (lv_at hl 3 rfl) ?_
      refine lv_iload_n hx hb dL_act_225 rfl (lv_at hl 2 rfl) ?_
      obtain ⟨x226, hC, hM⟩ := bd_s hM
      refine cTQ_i [0, 1, 2, 3, 4, 5, 6, 7, 8, 9, 10, 11, 12, 13, 14, 15] [16, 17, 18, 19] (vx_runV (As := [.int x12]) (rest := []) ⟨hx, hb, hml, hown, hts⟩ (kX4_pillar (l := l) (D := D) (cI := cI) (cJ := cJ) hlt N a (ho := ho) (ke := ke) (hc := hc) (tr := tr) (fo := fo) (fr := fr) (st := st) (co := co) (ro := ro) (cA := cA) (cD := cD) (su := su) (jA := jA) (jD := jD) (p1 := x12) hC Hq.size) (cwV 1 hts gL_act_X4_pillar rfl rfl rfl (by decide +kernel) ⟨Nat.le_of_ble_eq_true rfl, Nat.le_of_ble_eq_true rfl⟩) (preVT [.int x12] hTX hS (freeQ (cx := (xw a cI cJ ho ke hc tr fo fr st co ro cA cD su jA jD)) hD hS hA [0, 1, 2, 3, 4, 5, 6, 7, 8, 9, 10, 11, 12, 13, 14, 15] rfl) hN.1 (KX hK) (subQ (cx := (xw a cI cJ ho ke hc tr fo fr st co ro cA cD su jA jD)) hP [0, 1, 2, 3, 4, 5, 6, 7, 8, 9, 10, 11, 12, 13, 14, 15] rfl) (subQD (cx := (xw a cI cJ ho ke hc tr fo fr st co ro cA cD su jA jD)) hD [0, 1, 2, 3, 4, 5, 6, 7, 8, 9, 10, 11, 12, 13, 14, 15] (by decide) rfl) (ci := 4) (q0 := 3) rfl rfl) rfl rfl hl.1 rfl (lv_room (Nat.le_of_ble_eq_true rfl)) dL_act_226 ⟨by show _ + 1 ≤ 1982; omega, by show _ + 6 ≤ 12992; omega⟩) hP hD hS hA rfl (wr := (z4 c cM wI hI Hn r)) rfl (by decide) (by decide) (fun E ce q9 Hq locs hE hP hD hS h1 h2 h3 => ?_) (fun r0 u226 Hq locs hw hP hD hS => ?_)
      · obtain ⟨k, hk, hE⟩ := hE
        subst hk
        cases hM
      obtain ⟨hxx, hw⟩ := hw
      subst hxx
      dsimp only [Sum.elim] at hM
      replace hP : va_P D vwCl ((xw a cI cJ ho ke hc tr fo u226.1.2.1 u226.1.2.2.1 co ro u226.1.2.2.2.1 u226.1.2.2.2.2 su jA jD ++ (z4 c cM wI hI Hn r)) ++ (zpl cI Wn Hn r (updR gS ((x12 / wI).toNatClampNeg) (upd (gS ((x12 / wI).toNatClampNeg)) (x12 - x12 / wI * wI).toNatClampNeg (0 : Int32))) gA gD)) Hq := va_P.part (cx := (xw a cI cJ ho ke hc tr fo u226.1.2.1 u226.1.2.2.1 co ro u226.1.2.2.2.1 u226.1.2.2.2.2 su jA jD ++ (z4 c cM wI hI Hn r))) (pl := (zpl cI Wn Hn r (updR gS ((x12 / wI).toNatClampNeg) (upd (gS ((x12 / wI).toNatClampNeg)) (x12 - x12 / wI * wI).toNatClampNeg (0 : Int32))) gA gD)) hP [4, 5, 6, 7, 8, 9, 10, 11, 12, 13, 14, 15, 16, 17, 18, 19, 0, 1, 2, 3] rfl
      replace hD : va_D A ((xw a cI cJ ho ke hc tr fo u226.1.2.1 u226.1.2.2.1 co ro u226.1.2.2.2.1 u226.1.2.2.2.2 su jA jD ++ (z4 c cM wI hI Hn r)) ++ (zpl cI Wn Hn r (updR gS ((x12 / wI).toNatClampNeg) (upd (gS ((x12 / wI).toNatClampNeg)) (x12 - x12 / wI * wI).toNatClampNeg (0 : Int32))) gA gD)) := va_D.part (cx := (xw a cI cJ ho ke hc tr fo u226.1.2.1 u226.1.2.2.1 co ro u226.1.2.2.2.1 u226.1.2.2.2.2 su jA jD ++ (z4 c cM wI hI Hn r))) (pl := (zpl cI Wn Hn r (updR gS ((x12 / wI).toNatClampNeg) (upd (gS ((x12 / wI).toNatClampNeg)) (x12 - x12 / wI * wI).toNatClampNeg (0 : Int32))) gA gD)) hD [4, 5, 6, 7, 8, 9, 10, 11, 12, 13, 14, 15, 16, 17, 18, 19, 0, 1, 2, 3] (by decide) rfl
      obtain ⟨hw, hz226⟩ := hw
      rw [hw] at hz226
      rw [hw]
      refine W.widen (k := 1) (n := 6) (by omega) (by omega) ?_
      refine lv_aload hx hb dL_act_229 (lv_at hl 1 rfl) ?_
      refine lv_iload hx hb dL_act_231 (lv_at hl 0 rfl) ?_
      obtain ⟨hb233, hM⟩ := it_x hM
      refine va_iald (D := D) hx hb hK hP _ 0 (row0 (xw a cI cJ ho ke hc tr fo u226.1.2.1 u226.1.2.2.1 co ro u226.1.2.2.2.1 u226.1.2.2.2.2 su jA jD ++ (z4 c cM wI hI Hn r)) (lt_in hb26)) rfl hb233 dL_act_233 ?_
      refine lv_if_ge (tgt := 241) hx hb dL_act_234 (by decide) (fun hcc => ?_) (fun hcc => ?_)
      · replace hM := it_p hcc hM
        refine lv_iconst (v := 0) hx hb dL_act_241 (by decide) ?_
        exact c242 (0 : Int32) u226.1.1 u226.1.2.1 u226.1.2.2.1 u226.1.2.2.2.1 u226.1.2.2.2.2 (updR gS ((x12 / wI).toNatClampNeg) (upd (gS ((x12 / wI).toNatClampNeg)) (x12 - x12 / wI * wI).toNatClampNeg (0 : Int32))) hM 1 6 (by omega) (by omega) Hq locs ls hP hD hS (lv_sub hl [] rfl)
      · replace hM := it_n hcc hM
        refine lv_iconst (v := 1) hx hb dL_act_237 (by decide) ?_
        refine lv_goto (tgt := 242) hx hb dL_act_238 (by decide) ?_
        exact c242 (1 : Int32) u226.1.1 u226.1.2.1 u226.1.2.2.1 u226.1.2.2.2.1 u226.1.2.2.2.2 (updR gS ((x12 / wI).toNatClampNeg) (upd (gS ((x12 / wI).toNatClampNeg)) (x12 - x12 / wI * wI).toNatClampNeg (0 : Int32))) hM 1 6 (by omega) (by omega) Hq locs ls hP hD hS (lv_sub hl [] rfl)
  replace hM := it_n hs3 hM
  by_cases hs4 : x40 = 4
  · replace hM := it_p hs4 hM
    refine lv_tableIn (tgt := 251) hx hb dL_act_43 (by rw [hs4]; decide) (by rw [hs4]; decide) (by rw [hs4]; rfl) (by decide) ?_
    refine lv_iload_n hx hb dL_act_251 rfl (lv_at hl 5 rfl) ?_
    refine lv_bipush (v := 7) hx hb dL_act_252 (by decide) ?_
    refine lv_ishr hx hb dL_act_254 ?_
    refine lv_iconst (v := 2) hx hb dL_act_255 (by decide) ?_
    obtain ⟨x256, hC, hM⟩ := bd_s hM
    refine cR_i (va_runS (As := [.int (p3 >>> ((7 : Int32) &&& 31)), .int (2 : Int32)]) (rest := []) ⟨hx, hb, hml, hown, hts⟩ (kL_below (l := l) (D := D) (cI := cI) (cJ := cJ) N (p1 := (p3 >>> ((7 : Int32) &&& 31))) (p2 := (2 : Int32)) hC Hq.size) (va_cwS 2 hts gL_act_L_below rfl rfl rfl (by decide +kernel) ⟨Nat.le_of_ble_eq_true rfl, Nat.le_of_ble_eq_true rfl⟩) (preS [.int (p3 >>> ((7 : Int32) &&& 31)), .int (2 : Int32)] hN.1 (KX hK) (hP.sub (ws' := zw) [] rfl) (hD.sub (ws' := zw) [] (by decide) rfl)) rfl rfl hl.1 rfl (lv_room (Nat.le_of_ble_eq_true rfl)) dL_act_256 ⟨by show _ + 0 ≤ 1982; omega, by show _ + 0 ≤ 12992; omega⟩) hP hS (fun r0 u Hq locs hw hP hS => ?_)
    rw [hw]
    refine lv_if_ne (tgt := 266) hx hb dL_act_259 (by decide) (fun hcc => ?_) (fun hcc => ?_)
    · replace hM := it_n hcc hM
      refine lv_iconst (v := 0) hx hb dL_act_266 (by decide) ?_
      exact c267 x12 ((x12 / wI).toNatClampNeg) (x12 - x12 / wI * wI) (0 : Int32) hM (lt_in hb26) 0 0 (by omega) (by omega) Hq locs ls hP hD hS (lv_sub hl [3, 4, 5, 2, 1, 0] rfl)
    · replace hM := it_p hcc hM
      refine lv_iconst (v := 1) hx hb dL_act_262 (by decide) ?_
      refine lv_goto (tgt := 267) hx hb dL_act_263 (by decide) ?_
      exact c267 x12 ((x12 / wI).toNatClampNeg) (x12 - x12 / wI * wI) (1 : Int32) hM (lt_in hb26) 0 0 (by omega) (by omega) Hq locs ls hP hD hS (lv_sub hl [3, 4, 5, 2, 1, 0] rfl)
  replace hM := it_n hs4 hM
  by_cases hs5 : x40 = 5
  · replace hM := it_p hs5 hM
    refine lv_tableIn (tgt := 251) hx hb dL_act_43 (by rw [hs5]; decide) (by rw [hs5]; decide) (by rw [hs5]; rfl) (by decide) ?_
    refine lv_iload_n hx hb dL_act_251 rfl (lv_at hl 5 rfl) ?_
    refine lv_bipush (v := 7) hx hb dL_act_252 (by decide) ?_
    refine lv_ishr hx hb dL_act_254 ?_
    refine lv_iconst (v := 2) hx hb dL_act_255 (by decide) ?_
    obtain ⟨x256, hC, hM⟩ := bd_s hM
    refine cR_i (va_runS (As := [.int (p3 >>> ((7 : Int32) &&& 31)), .int (2 : Int32)]) (rest := []) ⟨hx, hb, hml, hown, hts⟩ (kL_below (l := l) (D := D) (cI := cI) (cJ := cJ) N (p1 := (p3 >>> ((7 : Int32) &&& 31))) (p2 := (2 : Int32)) hC Hq.size) (va_cwS 2 hts gL_act_L_below rfl rfl rfl (by decide +kernel) ⟨Nat.le_of_ble_eq_true rfl, Nat.le_of_ble_eq_true rfl⟩) (preS [.int (p3 >>> ((7 : Int32) &&& 31)), .int (2 : Int32)] hN.1 (KX hK) (hP.sub (ws' := zw) [] rfl) (hD.sub (ws' := zw) [] (by decide) rfl)) rfl rfl hl.1 rfl (lv_room (Nat.le_of_ble_eq_true rfl)) dL_act_256 ⟨by show _ + 0 ≤ 1982; omega, by show _ + 0 ≤ 12992; omega⟩) hP hS (fun r0 u Hq locs hw hP hS => ?_)
    rw [hw]
    refine lv_if_ne (tgt := 266) hx hb dL_act_259 (by decide) (fun hcc => ?_) (fun hcc => ?_)
    · replace hM := it_n hcc hM
      refine lv_iconst (v := 0) hx hb dL_act_266 (by decide) ?_
      exact c267 x12 ((x12 / wI).toNatClampNeg) (x12 - x12 / wI * wI) (0 : Int32) hM (lt_in hb26) 0 0 (by omega) (by omega) Hq locs ls hP hD hS (lv_sub hl [3, 4, 5, 2, 1, 0] rfl)
    · replace hM := it_p hcc hM
      refine lv_iconst (v := 1) hx hb dL_act_262 (by decide) ?_
      refine lv_goto (tgt := 267) hx hb dL_act_263 (by decide) ?_
      exact c267 x12 ((x12 / wI).toNatClampNeg) (x12 - x12 / wI * wI) (1 : Int32) hM (lt_in hb26) 0 0 (by omega) (by omega) Hq locs ls hP hD hS (lv_sub hl [3, 4, 5, 2, 1, 0] rfl)
  replace hM := it_n hs5 hM
  by_cases hs6 : x40 = 6
  · replace hM := it_p hs6 hM
    refine lv_tableIn (tgt := 251) hx hb dL_act_43 (by rw [hs6]; decide) (by rw [hs6]; decide) (by rw [hs6]; rfl) (by decide) ?_
    refine lv_iload_n hx hb dL_act_251 rfl (lv_at hl 5 rfl) ?_
    refine lv_bipush (v := 7) hx hb dL_act_252 (by decide) ?_
    refine lv_ishr hx hb dL_act_254 ?_
    refine lv_iconst (v := 2) hx hb dL_act_255 (by decide) ?_
    obtain ⟨x256, hC, hM⟩ := bd_s hM
    refine cR_i (va_runS (As := [.int (p3 >>> ((7 : Int32) &&& 31)), .int (2 : Int32)]) (rest := []) ⟨hx, hb, hml, hown, hts⟩ (kL_below (l := l) (D := D) (cI := cI) (cJ := cJ) N (p1 := (p3 >>> ((7 : Int32) &&& 31))) (p2 := (2 : Int32)) hC Hq.size) (va_cwS 2 hts gL_act_L_below rfl rfl rfl (by decide +kernel) ⟨Nat.le_of_ble_eq_true rfl, Nat.le_of_ble_eq_true rfl⟩) (preS [.int (p3 >>> ((7 : Int32) &&& 31)), .int (2 : Int32)] hN.1 (KX hK) (hP.sub (ws' := zw) [] rfl) (hD.sub (ws' := zw) [] (by decide) rfl)) rfl rfl hl.1 rfl (lv_room (Nat.le_of_ble_eq_true rfl)) dL_act_256 ⟨by show _ + 0 ≤ 1982; omega, by show _ + 0 ≤ 12992; omega⟩) hP hS (fun r0 u Hq locs hw hP hS => ?_)
    rw [hw]
    refine lv_if_ne (tgt := 266) hx hb dL_act_259 (by decide) (fun hcc => ?_) (fun hcc => ?_)
    · replace hM := it_n hcc hM
      refine lv_iconst (v := 0) hx hb dL_act_266 (by decide) ?_
      exact c267 x12 ((x12 / wI).toNatClampNeg) (x12 - x12 / wI * wI) (0 : Int32) hM (lt_in hb26) 0 0 (by omega) (by omega) Hq locs ls hP hD hS (lv_sub hl [3, 4, 5, 2, 1, 0] rfl)
    · replace hM := it_p hcc hM
      refine lv_iconst (v := 1) hx hb dL_act_262 (by decide) ?_
      refine lv_goto (tgt := 267) hx hb dL_act_263 (by decide) ?_
      exact c267 x12 ((x12 / wI).toNatClampNeg) (x12 - x12 / wI * wI) (1 : Int32) hM (lt_in hb26) 0 0 (by omega) (by omega) Hq locs ls hP hD hS (lv_sub hl [3, 4, 5, 2, 1, 0] rfl)
  replace hM := it_n hs6 hM
  by_cases hs7 : x40 = 7
  · replace hM := it_p hs7 hM
    refine lv_tableIn (tgt := 251) hx hb dL_act_43 (by rw [hs7]; decide) (by rw [hs7]; decide) (by rw [hs7]; rfl) (by decide) ?_
    refine lv_iload_n hx hb dL_act_251 rfl (lv_at hl 5 rfl) ?_
    refine lv_bipush (v := 7) hx hb dL_act_252 (by decide) ?_
    refine lv_ishr hx hb dL_act_254 ?_
    refine lv_iconst (v := 2) hx hb dL_act_255 (by decide) ?_
    obtain ⟨x256, hC, hM⟩ := bd_s hM
    refine cR_i (va_runS (As := [.int (p3 >>> ((7 : Int32) &&& 31)), .int (2 : Int32)]) (rest := []) ⟨hx, hb, hml, hown, hts⟩ (kL_below (l := l) (D := D) (cI := cI) (cJ := cJ) N (p1 := (p3 >>> ((7 : Int32) &&& 31))) (p2 := (2 : Int32)) hC Hq.size) (va_cwS 2 hts gL_act_L_below rfl rfl rfl (by decide +kernel) ⟨Nat.le_of_ble_eq_true rfl, Nat.le_of_ble_eq_true rfl⟩) (preS [.int (p3 >>> ((7 : Int32) &&& 31)), .int (2 : Int32)] hN.1 (KX hK) (hP.sub (ws' := zw) [] rfl) (hD.sub (ws' := zw) [] (by decide) rfl)) rfl rfl hl.1 rfl (lv_room (Nat.le_of_ble_eq_true rfl)) dL_act_256 ⟨by show _ + 0 ≤ 1982; omega, by show _ + 0 ≤ 12992; omega⟩) hP hS (fun r0 u Hq locs hw hP hS => ?_)
    rw [hw]
    refine lv_if_ne (tgt := 266) hx hb dL_act_259 (by decide) (fun hcc => ?_) (fun hcc => ?_)
    · replace hM := it_n hcc hM
      refine lv_iconst (v := 0) hx hb dL_act_266 (by decide) ?_
      exact c267 x12 ((x12 / wI).toNatClampNeg) (x12 - x12 / wI * wI) (0 : Int32) hM (lt_in hb26) 0 0 (by omega) (by omega) Hq locs ls hP hD hS (lv_sub hl [3, 4, 5, 2, 1, 0] rfl)
    · replace hM := it_p hcc hM
      refine lv_iconst (v := 1) hx hb dL_act_262 (by decide) ?_
      refine lv_goto (tgt := 267) hx hb dL_act_263 (by decide) ?_
      exact c267 x12 ((x12 / wI).toNatClampNeg) (x12 - x12 / wI * wI) (1 : Int32) hM (lt_in hb26) 0 0 (by omega) (by omega) Hq locs ls hP hD hS (lv_sub hl [3, 4, 5, 2, 1, 0] rfl)
  replace hM := it_n hs7 hM
  have ho : ∀ k : Nat, k ≤ 7 → ¬ x40 = Int32.ofNat k := by
    intro k hk
    have hk2 : k = 0 ∨ k = 1 ∨ k = 2 ∨ k = 3 ∨ k = 4 ∨ k = 5 ∨ k = 6 ∨ k = 7 := by omega
    rcases hk2 with rfl | rfl | rfl | rfl | rfl | rfl | rfl | rfl
    · exact hs0
    · exact hs1
    · exact hs2
    · exact hs3
    · exact hs4
    · exact hs5
    · exact hs6
    · exact hs7
  refine lv_tableOut (tgt := 481) hx hb dL_act_43 (sw_out 7 ho) (by decide) ?_
  refine lv_iload_n hx hb dL_act_481 rfl (lv_at hl 5 rfl) ?_
  refine lv_bipush (v := 6) hx hb dL_act_482 (by decide) ?_
  refine lv_ishr hx hb dL_act_484 ?_
  refine lv_bipush (v := 10) hx hb dL_act_485 (by decide) ?_
  obtain ⟨x487, hC, hM⟩ := bd_s hM
  refine cR_i (va_runS (As := [.int (p3 >>> ((6 : Int32) &&& 31)), .int (10 : Int32)]) (rest := []) ⟨hx, hb, hml, hown, hts⟩ (kL_below (l := l) (D := D) (cI := cI) (cJ := cJ) N (p1 := (p3 >>> ((6 : Int32) &&& 31))) (p2 := (10 : Int32)) hC Hq.size) (va_cwS 2 hts gL_act_L_below rfl rfl rfl (by decide +kernel) ⟨Nat.le_of_ble_eq_true rfl, Nat.le_of_ble_eq_true rfl⟩) (preS [.int (p3 >>> ((6 : Int32) &&& 31)), .int (10 : Int32)] hN.1 (KX hK) (hP.sub (ws' := zw) [] rfl) (hD.sub (ws' := zw) [] (by decide) rfl)) rfl rfl hl.1 rfl (lv_room (Nat.le_of_ble_eq_true rfl)) dL_act_487 ⟨by show _ + 0 ≤ 1982; omega, by show _ + 0 ≤ 12992; omega⟩) hP hS (fun r0 u Hq locs hw hP hS => ?_)
  rw [hw]
  refine lv_istore (lv' := [(6, .int x487), (5, .int (x12 - x12 / wI * wI)), (4, .ref (r 0 ((x12 / wI).toNatClampNeg))), (3, .int x12), (0, .ref (a 15)), (1, .ref (c 0)), (2, .int p3)]) hx hb dL_act_490 hl (by decide) rfl (fun ls hl => ?_)
  refine lv_iconst (v := 0) hx hb dL_act_492 (by decide) ?_
  refine lv_istore (lv' := [(7, .int (0 : Int32)), (6, .int x487), (5, .int (x12 - x12 / wI * wI)), (4, .ref (r 0 ((x12 / wI).toNatClampNeg))), (3, .int x12), (0, .ref (a 15)), (1, .ref (c 0)), (2, .int p3)]) hx hb dL_act_493 hl (by decide) rfl (fun ls hl => ?_)
  exact c495 10 x12 ((x12 / wI).toNatClampNeg) (x12 - x12 / wI * wI) x487 (0 : Int32) gS hM (lt_in hb26) 0 0 (by omega) (by omega) Hq locs ls hP hD hS (lv_sub hl [5, 6, 7, 4, 3, 2, 1, 0] rfl)
