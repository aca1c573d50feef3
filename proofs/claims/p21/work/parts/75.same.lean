def mX5_isSame_602 (N : Nat) (st : RowI) (co : Int32) (ro : Int32) (cA : CS) (cD : CS) (su : RowJ) (wI : Int32) (hI : Int32) (Wn : Nat) (Hn : Nat) (gA : RowR) (gD : RowR) : Nat → RowI → Int32 → Int32 → Int32 → Int32 → RowR → Option (Int32 × RowR)
  | 0 => fun _ _ _ _ _ _ => none
  | n + 1 => fun fL2 v3 v4 v5 v7 gS' => (if (9 : Int32) ≤ v7 then
  ((mX4_next N st co ro cA cD su).bind fun x631 =>
  (if x631 = v5 then
  ((mX4_mean N st co ro cA cD su).bind fun x640 =>
  (if v3 = 0 then
  (if isNaN64 x640 = false ∧ isNaN64 FP.dconst0 = false then
  (if (Op.cmpValue (FP.dcmp x640 FP.dconst0) CmpOp.l) = 0 then
  some ((1 : Int32), gS')
  else
  some ((0 : Int32), gS'))
  else none)
  else
  (if isNaN64 x640 = false ∧ isNaN64 (FP.ddiv (FP.i2d v4) (FP.i2d v3)) = false then
  (if (Op.cmpValue (FP.dcmp x640 (FP.ddiv (FP.i2d v4) (FP.i2d v3))) CmpOp.l) = 0 then
  some ((1 : Int32), gS')
  else
  some ((0 : Int32), gS'))
  else none)))
  else
  some ((0 : Int32), gS')))
  else
  ((mX4_count N st co ro cA cD su v7).bind fun x612 => Sum.elim (fun k => none) (fun y612 =>
  (if bad v7 9 then none else
  (if y612 = (fL2 v7.toNatClampNeg) then
  (mX5_isSame_602 N st co ro cA cD su wI hI Wn Hn gA gD n fL2 v3 v4 v5 (v7 + 1) gS')
  else
  some ((0 : Int32), gS')))) x612))
def mX5_isSame_550 (N : Nat) (st : RowI) (co : Int32) (ro : Int32) (cA : CS) (cD : CS) (su : RowJ) (wI : Int32) (hI : Int32) (Wn : Nat) (Hn : Nat) (gA : RowR) (gD : RowR) (K70 : RowI → Int32 → Int32 → Int32 → Int32 → Int32 → RowR → Option (Int32 × RowR)) (fL2 : RowI) (v3 : Int32) (v4 : Int32) (v5 : Int32) (v6 : Int32) (v7 : Int32) (v8 : Int32) (v9 : Int32) (v11 : Int32) (s0 : Int32) (s1 : Int32) (s2 : Int32) (gS' : RowR) : Option (Int32 × RowR) :=
  (if bad s2 9 then none else
  (if bad v9 Hn then none else
  (if bad v8 Wn then none else
  (if (gS' v9.toNatClampNeg v8.toNatClampNeg) = 0 then
  (if v6 ≤ v11 then
  (K70 (upd fL2 s2.toNatClampNeg (s1 + s0)) (v3 + 1) (v4 + v11) v5 v6 (v7 + 1) gS')
  else
  (K70 (upd fL2 s2.toNatClampNeg (s1 + s0)) (v3 + 1) (v4 + v11) v7 v11 (v7 + 1) gS'))
  else
  (K70 (upd fL2 s2.toNatClampNeg (s1 + s0)) v3 v4 v5 v6 (v7 + 1) gS')))))
def mX5_isSame_549 (N : Nat) (st : RowI) (co : Int32) (ro : Int32) (cA : CS) (cD : CS) (su : RowJ) (wI : Int32) (hI : Int32) (Wn : Nat) (Hn : Nat) (gA : RowR) (gD : RowR) (K70 : RowI → Int32 → Int32 → Int32 → Int32 → Int32 → RowR → Option (Int32 × RowR)) (fL2 : RowI) (v3 : Int32) (v4 : Int32) (v5 : Int32) (v6 : Int32) (v7 : Int32) (v8 : Int32) (v9 : Int32) (v11 : Int32) (s0 : Int32) (s1 : Int32) (gS' : RowR) : Option (Int32 × RowR) :=
  (mX5_isSame_550 N st co ro cA cD su wI hI Wn Hn gA gD K70 fL2 v3 v4 v5 v6 v7 v8 v9 v11 (0 : Int32) s0 s1 gS')
def mX5_isSame_520 (N : Nat) (st : RowI) (co : Int32) (ro : Int32) (cA : CS) (cD : CS) (su : RowJ) (wI : Int32) (hI : Int32) (Wn : Nat) (Hn : Nat) (gA : RowR) (gD : RowR) (K70 : RowI → Int32 → Int32 → Int32 → Int32 → Int32 → RowR → Option (Int32 × RowR)) (fL2 : RowI) (v3 : Int32) (v4 : Int32) (v5 : Int32) (v6 : Int32) (v7 : Int32) (v8 : Int32) (v9 : Int32) (v11 : Int32) (s0 : Int32) (s1 : Int32) (s2 : Int32) (gS' : RowR) : Option (Int32 × RowR) :=
  (if bad s2 9 then none else
  (if bad (8 : Int32) 9 then none else
  (if bad v9 Hn then none else
  (if bad v8 Wn then none else
  (if (gS' v9.toNatClampNeg v8.toNatClampNeg) = 0 then
  (if v11 = 0 then
  (mX5_isSame_550 N st co ro cA cD su wI hI Wn Hn gA gD K70 (upd fL2 s2.toNatClampNeg (s1 + s0)) v3 v4 v5 v6 v7 v8 v9 v11 (1 : Int32) ((upd fL2 s2.toNatClampNeg (s1 + s0)) (8 : Int32).toNatClampNeg) (8 : Int32) gS')
  else
  (mX5_isSame_549 N st co ro cA cD su wI hI Wn Hn gA gD K70 (upd fL2 s2.toNatClampNeg (s1 + s0)) v3 v4 v5 v6 v7 v8 v9 v11 ((upd fL2 s2.toNatClampNeg (s1 + s0)) (8 : Int32).toNatClampNeg) (8 : Int32) gS'))
  else
  (mX5_isSame_549 N st co ro cA cD su wI hI Wn Hn gA gD K70 (upd fL2 s2.toNatClampNeg (s1 + s0)) v3 v4 v5 v6 v7 v8 v9 v11 ((upd fL2 s2.toNatClampNeg (s1 + s0)) (8 : Int32).toNatClampNeg) (8 : Int32) gS'))))))
def mX5_isSame_502 (N : Nat) (st : RowI) (co : Int32) (ro : Int32) (cA : CS) (cD : CS) (su : RowJ) (wI : Int32) (hI : Int32) (Wn : Nat) (Hn : Nat) (gA : RowR) (gD : RowR) (K70 : RowI → Int32 → Int32 → Int32 → Int32 → Int32 → RowR → Option (Int32 × RowR)) (fL2 : RowI) (v3 : Int32) (v4 : Int32) (v5 : Int32) (v6 : Int32) (v7 : Int32) (v8 : Int32) (v9 : Int32) (v11 : Int32) (s0 : Int32) (s1 : Int32) (s2 : Int32) (gS' : RowR) : Option (Int32 × RowR) :=
  (if bad s2 9 then none else
  (if bad (7 : Int32) 9 then none else
  (if v11 = (1 : Int32) then
  (mX5_isSame_520 N st co ro cA cD su wI hI Wn Hn gA gD K70 (upd fL2 s2.toNatClampNeg (s1 + s0)) v3 v4 v5 v6 v7 v8 v9 v11 (1 : Int32) ((upd fL2 s2.toNatClampNeg (s1 + s0)) (7 : Int32).toNatClampNeg) (7 : Int32) gS')
  else
  (mX5_isSame_520 N st co ro cA cD su wI hI Wn Hn gA gD K70 (upd fL2 s2.toNatClampNeg (s1 + s0)) v3 v4 v5 v6 v7 v8 v9 v11 (0 : Int32) ((upd fL2 s2.toNatClampNeg (s1 + s0)) (7 : Int32).toNatClampNeg) (7 : Int32) gS'))))
def mX5_isSame_478 (N : Nat) (st : RowI) (co : Int32) (ro : Int32) (cA : CS) (cD : CS) (su : RowJ) (wI : Int32) (hI : Int32) (Wn : Nat) (Hn : Nat) (gA : RowR) (gD : RowR) (K70 : RowI → Int32 → Int32 → Int32 → Int32 → Int32 → RowR → Option (Int32 × RowR)) (fL2 : RowI) (v3 : Int32) (v4 : Int32) (v5 : Int32) (v6 : Int32) (v7 : Int32) (v8 : Int32) (v9 : Int32) (v11 : Int32) (s0 : Int32) (s1 : Int32) (s2 : Int32) (gS' : RowR) : Option (Int32 × RowR) :=
  (if bad s2 9 then none else
  (if bad (3 : Int32) 9 then none else
  (if bad v9 Hn then none else
  (if bad v8 Wn then none else
  (if (gS' v9.toNatClampNeg v8.toNatClampNeg) ≤ 0 then
  (mX5_isSame_502 N st co ro cA cD su wI hI Wn Hn gA gD K70 (upd fL2 s2.toNatClampNeg (s1 + s0)) v3 v4 v5 v6 v7 v8 v9 v11 (0 : Int32) ((upd fL2 s2.toNatClampNeg (s1 + s0)) (3 : Int32).toNatClampNeg) (3 : Int32) gS')
  else
  (mX5_isSame_502 N st co ro cA cD su wI hI Wn Hn gA gD K70 (upd fL2 s2.toNatClampNeg (s1 + s0)) v3 v4 v5 v6 v7 v8 v9 v11 (1 : Int32) ((upd fL2 s2.toNatClampNeg (s1 + s0)) (3 : Int32).toNatClampNeg) (3 : Int32) gS'))))))
def mX5_isSame_387 (N : Nat) (st : RowI) (co : Int32) (ro : Int32) (cA : CS) (cD : CS) (su : RowJ) (wI : Int32) (hI : Int32) (Wn : Nat) (Hn : Nat) (gA : RowR) (gD : RowR) (K70 : RowI → Int32 → Int32 → Int32 → Int32 → Int32 → RowR → Option (Int32 × RowR)) (K126 : RowI → Int32 → Int32 → Int32 → Int32 → Int32 → Int32 → Int32 → Int32 → RowR → Option (Int32 × RowR)) : Nat → RowI → RowI → Int32 → Int32 → Int32 → Int32 → Int32 → Int32 → Int32 → Int32 → Int32 → Int32 → RowR → Option (Int32 × RowR)
  | 0 => fun _ _ _ _ _ _ _ _ _ _ _ _ _ => none
  | n + 1 => fun fL12 fL2 v3 v4 v5 v6 v7 v8 v9 v10 v11 v13 gS' => (if (6 : Int32) ≤ v13 then
  (K126 fL2 v3 v4 v5 v6 v7 v8 v9 (v10 + 1) gS')
  else
  ((mX4_corridor N st co ro cA cD su v7 v11 v13).bind fun x401 => Sum.elim (fun k => none) (fun y401 =>
  (if bad v13 6 then none else
  (if y401 = (fL12 v13.toNatClampNeg) then
  (mX5_isSame_387 N st co ro cA cD su wI hI Wn Hn gA gD K70 K126 n fL12 fL2 v3 v4 v5 v6 v7 v8 v9 v10 v11 (v13 + 1) gS')
  else
  some ((0 : Int32), gS')))) x401))
def mX5_isSame_365 (N : Nat) (st : RowI) (co : Int32) (ro : Int32) (cA : CS) (cD : CS) (su : RowJ) (wI : Int32) (hI : Int32) (Wn : Nat) (Hn : Nat) (gA : RowR) (gD : RowR) (K70 : RowI → Int32 → Int32 → Int32 → Int32 → Int32 → RowR → Option (Int32 × RowR)) (K126 : RowI → Int32 → Int32 → Int32 → Int32 → Int32 → Int32 → Int32 → Int32 → RowR → Option (Int32 × RowR)) (fL12 : RowI) (fL2 : RowI) (v3 : Int32) (v4 : Int32) (v5 : Int32) (v6 : Int32) (v7 : Int32) (v8 : Int32) (v9 : Int32) (v10 : Int32) (v11 : Int32) (v16 : Int32) (s0 : Int32) (s1 : Int32) (s2 : Int32) (gS' : RowR) : Option (Int32 × RowR) :=
  (if bad s2 9 then none else
  (if bad (6 : Int32) 9 then none else
  (if v16 = 0 then
  (if bad (6 : Int32) 9 then none else
  (mX5_isSame_387 N st co ro cA cD su wI hI Wn Hn gA gD K70 K126 7 fL12 (upd (upd fL2 s2.toNatClampNeg (s1 + s0)) (6 : Int32).toNatClampNeg (((upd fL2 s2.toNatClampNeg (s1 + s0)) (6 : Int32).toNatClampNeg) + (0 : Int32))) v3 v4 v5 v6 v7 v8 v9 v10 v11 (0 : Int32) gS'))
  else
  (if bad (6 : Int32) 9 then none else
  (mX5_isSame_387 N st co ro cA cD su wI hI Wn Hn gA gD K70 K126 7 fL12 (upd (upd fL2 s2.toNatClampNeg (s1 + s0)) (6 : Int32).toNatClampNeg (((upd fL2 s2.toNatClampNeg (s1 + s0)) (6 : Int32).toNatClampNeg) + (1 : Int32))) v3 v4 v5 v6 v7 v8 v9 v10 v11 (0 : Int32) gS')))))
def mX5_isSame_248 (N : Nat) (st : RowI) (co : Int32) (ro : Int32) (cA : CS) (cD : CS) (su : RowJ) (wI : Int32) (hI : Int32) (Wn : Nat) (Hn : Nat) (gA : RowR) (gD : RowR) (K70 : RowI → Int32 → Int32 → Int32 → Int32 → Int32 → RowR → Option (Int32 × RowR)) (K126 : RowI → Int32 → Int32 → Int32 → Int32 → Int32 → Int32 → Int32 → Int32 → RowR → Option (Int32 × RowR)) (K218 : RowI → Nat → RowI → Int32 → Int32 → Int32 → Int32 → Int32 → Int32 → Int32 → Int32 → Int32 → Int32 → Int32 → Int32 → Int32 → RowR → Option (Int32 × RowR)) (fL13 : RowI) (nL13 : Nat) (fL2 : RowI) (v3 : Int32) (v4 : Int32) (v5 : Int32) (v6 : Int32) (v7 : Int32) (v8 : Int32) (v9 : Int32) (v10 : Int32) (v11 : Int32) (v15 : Int32) (v17 : Int32) (v18 : Int32) (v19 : Int32) (s0 : Int32) (s1 : Int32) (gS' : RowR) : Option (Int32 × RowR) :=
  ((mX5_at N wI Wn Hn gS' v19).bind fun x256 =>
  (K218 fL13 nL13 fL2 v3 v4 v5 v6 v7 v8 v9 v10 v11 (s1 + s0) (v15 + x256) v17 (v18 + 1) gS'))
def mX5_isSame_218 (N : Nat) (st : RowI) (co : Int32) (ro : Int32) (cA : CS) (cD : CS) (su : RowJ) (wI : Int32) (hI : Int32) (Wn : Nat) (Hn : Nat) (gA : RowR) (gD : RowR) (K70 : RowI → Int32 → Int32 → Int32 → Int32 → Int32 → RowR → Option (Int32 × RowR)) (K126 : RowI → Int32 → Int32 → Int32 → Int32 → Int32 → Int32 → Int32 → Int32 → RowR → Option (Int32 × RowR)) : Nat → RowI → Nat → RowI → Int32 → Int32 → Int32 → Int32 → Int32 → Int32 → Int32 → Int32 → Int32 → Int32 → Int32 → Int32 → Int32 → RowR → Option (Int32 × RowR)
  | 0 => fun _ _ _ _ _ _ _ _ _ _ _ _ _ _ _ _ _ => none
  | n + 1 => fun fL13 nL13 fL2 v3 v4 v5 v6 v7 v8 v9 v10 v11 v14 v15 v17 v18 gS' => (if v17 ≤ v18 then
  ((mX5_isWell N wI Wn Hn gS' gA gD nL13 fL13 v11).bind fun x273 =>
  (if bad (0 : Int32) nL13 then none else
  (if bad (0 : Int32) 6 then none else
  (if bad (1 : Int32) 6 then none else
  (if bad (0 : Int32) nL13 then none else
  ((mX5_sumAt N wI Wn Hn gA gD (fL13 (0 : Int32).toNatClampNeg) v11).bind fun x304 =>
  (if bad (2 : Int32) 6 then none else
  (if bad (3 : Int32) 6 then none else
  (if bad (4 : Int32) 6 then none else
  (if x273 = 0 then
  (if bad (5 : Int32) 6 then none else
  (if bad (0 : Int32) nL13 then none else
  (if (fL13 (0 : Int32).toNatClampNeg) = v7 then
  (if bad (4 : Int32) 9 then none else
  (if bad (4 : Int32) 9 then none else
  (if bad (5 : Int32) 9 then none else
  (if bad (2 : Int32) 6 then none else
  (if ((upd (upd (upd (upd (upd (upd (fun _ => 0) (0 : Int32).toNatClampNeg (fL13 (0 : Int32).toNatClampNeg)) (1 : Int32).toNatClampNeg (nI nL13)) (2 : Int32).toNatClampNeg x304) (3 : Int32).toNatClampNeg v14) (4 : Int32).toNatClampNeg v15) (5 : Int32).toNatClampNeg (0 : Int32)) (2 : Int32).toNatClampNeg) ≤ 0 then
  (mX5_isSame_365 N st co ro cA cD su wI hI Wn Hn gA gD K70 K126 (upd (upd (upd (upd (upd (upd (fun _ => 0) (0 : Int32).toNatClampNeg (fL13 (0 : Int32).toNatClampNeg)) (1 : Int32).toNatClampNeg (nI nL13)) (2 : Int32).toNatClampNeg x304) (3 : Int32).toNatClampNeg v14) (4 : Int32).toNatClampNeg v15) (5 : Int32).toNatClampNeg (0 : Int32)) (upd fL2 (4 : Int32).toNatClampNeg ((fL2 (4 : Int32).toNatClampNeg) + (1 : Int32))) v3 v4 v5 v6 v7 v8 v9 v10 v11 x273 (0 : Int32) ((upd fL2 (4 : Int32).toNatClampNeg ((fL2 (4 : Int32).toNatClampNeg) + (1 : Int32))) (5 : Int32).toNatClampNeg) (5 : Int32) gS')
  else
  (mX5_isSame_365 N st co ro cA cD su wI hI Wn Hn gA gD K70 K126 (upd (upd (upd (upd (upd (upd (fun _ => 0) (0 : Int32).toNatClampNeg (fL13 (0 : Int32).toNatClampNeg)) (1 : Int32).toNatClampNeg (nI nL13)) (2 : Int32).toNatClampNeg x304) (3 : Int32).toNatClampNeg v14) (4 : Int32).toNatClampNeg v15) (5 : Int32).toNatClampNeg (0 : Int32)) (upd fL2 (4 : Int32).toNatClampNeg ((fL2 (4 : Int32).toNatClampNeg) + (1 : Int32))) v3 v4 v5 v6 v7 v8 v9 v10 v11 x273 (1 : Int32) ((upd fL2 (4 : Int32).toNatClampNeg ((fL2 (4 : Int32).toNatClampNeg) + (1 : Int32))) (5 : Int32).toNatClampNeg) (5 : Int32) gS'))))))
  else
  (mX5_isSame_387 N st co ro cA cD su wI hI Wn Hn gA gD K70 K126 7 (upd (upd (upd (upd (upd (upd (fun _ => 0) (0 : Int32).toNatClampNeg (fL13 (0 : Int32).toNatClampNeg)) (1 : Int32).toNatClampNeg (nI nL13)) (2 : Int32).toNatClampNeg x304) (3 : Int32).toNatClampNeg v14) (4 : Int32).toNatClampNeg v15) (5 : Int32).toNatClampNeg (0 : Int32)) fL2 v3 v4 v5 v6 v7 v8 v9 v10 v11 (0 : Int32) gS'))))
  else
  (if bad (5 : Int32) 6 then none else
  (if bad (0 : Int32) nL13 then none else
  (if (fL13 (0 : Int32).toNatClampNeg) = v7 then
  (if bad (4 : Int32) 9 then none else
  (if bad (4 : Int32) 9 then none else
  (if bad (5 : Int32) 9 then none else
  (if bad (2 : Int32) 6 then none else
  (if ((upd (upd (upd (upd (upd (upd (fun _ => 0) (0 : Int32).toNatClampNeg (fL13 (0 : Int32).toNatClampNeg)) (1 : Int32).toNatClampNeg (nI nL13)) (2 : Int32).toNatClampNeg x304) (3 : Int32).toNatClampNeg v14) (4 : Int32).toNatClampNeg v15) (5 : Int32).toNatClampNeg (1 : Int32)) (2 : Int32).toNatClampNeg) ≤ 0 then
  (mX5_isSame_365 N st co ro cA cD su wI hI Wn Hn gA gD K70 K126 (upd (upd (upd (upd (upd (upd (fun _ => 0) (0 : Int32).toNatClampNeg (fL13 (0 : Int32).toNatClampNeg)) (1 : Int32).toNatClampNeg (nI nL13)) (2 : Int32).toNatClampNeg x304) (3 : Int32).toNatClampNeg v14) (4 : Int32).toNatClampNeg v15) (5 : Int32).toNatClampNeg (1 : Int32)) (upd fL2 (4 : Int32).toNatClampNeg ((fL2 (4 : Int32).toNatClampNeg) + (1 : Int32))) v3 v4 v5 v6 v7 v8 v9 v10 v11 x273 (0 : Int32) ((upd fL2 (4 : Int32).toNatClampNeg ((fL2 (4 : Int32).toNatClampNeg) + (1 : Int32))) (5 : Int32).toNatClampNeg) (5 : Int32) gS')
  else
  (mX5_isSame_365 N st co ro cA cD su wI hI Wn Hn gA gD K70 K126 (upd (upd (upd (upd (upd (upd (fun _ => 0) (0 : Int32).toNatClampNeg (fL13 (0 : Int32).toNatClampNeg)) (1 : Int32).toNatClampNeg (nI nL13)) (2 : Int32).toNatClampNeg x304) (3 : Int32).toNatClampNeg v14) (4 : Int32).toNatClampNeg v15) (5 : Int32).toNatClampNeg (1 : Int32)) (upd fL2 (4 : Int32).toNatClampNeg ((fL2 (4 : Int32).toNatClampNeg) + (1 : Int32))) v3 v4 v5 v6 v7 v8 v9 v10 v11 x273 (1 : Int32) ((upd fL2 (4 : Int32).toNatClampNeg ((fL2 (4 : Int32).toNatClampNeg) + (1 : Int32))) (5 : Int32).toNatClampNeg) (5 : Int32) gS'))))))
  else
  (mX5_isSame_387 N st co ro cA cD su wI hI Wn Hn gA gD K70 K126 7 (upd (upd (upd (upd (upd (upd (fun _ => 0) (0 : Int32).toNatClampNeg (fL13 (0 : Int32).toNatClampNeg)) (1 : Int32).toNatClampNeg (nI nL13)) (2 : Int32).toNatClampNeg x304) (3 : Int32).toNatClampNeg v14) (4 : Int32).toNatClampNeg v15) (5 : Int32).toNatClampNeg (1 : Int32)) fL2 v3 v4 v5 v6 v7 v8 v9 v10 v11 (0 : Int32) gS'))))))))))))))
  else
  (if bad v18 nL13 then none else
  ((mX5_at N wI Wn Hn gS' (fL13 v18.toNatClampNeg)).bind fun x237 =>
  (if x237 ≤ 0 then
  (mX5_isSame_248 N st co ro cA cD su wI hI Wn Hn gA gD K70 K126 (mX5_isSame_218 N st co ro cA cD su wI hI Wn Hn gA gD K70 K126 n) fL13 nL13 fL2 v3 v4 v5 v6 v7 v8 v9 v10 v11 v15 v17 v18 (fL13 v18.toNatClampNeg) (0 : Int32) v14 gS')
  else
  (mX5_isSame_248 N st co ro cA cD su wI hI Wn Hn gA gD K70 K126 (mX5_isSame_218 N st co ro cA cD su wI hI Wn Hn gA gD K70 K126 n) fL13 nL13 fL2 v3 v4 v5 v6 v7 v8 v9 v10 v11 v15 v17 v18 (fL13 v18.toNatClampNeg) (1 : Int32) v14 gS')))))
def mX5_isSame_143 (N : Nat) (st : RowI) (co : Int32) (ro : Int32) (cA : CS) (cD : CS) (su : RowJ) (wI : Int32) (hI : Int32) (Wn : Nat) (Hn : Nat) (gA : RowR) (gD : RowR) (K70 : RowI → Int32 → Int32 → Int32 → Int32 → Int32 → RowR → Option (Int32 × RowR)) (K126 : RowI → Int32 → Int32 → Int32 → Int32 → Int32 → Int32 → Int32 → Int32 → RowR → Option (Int32 × RowR)) (fL2 : RowI) (v3 : Int32) (v4 : Int32) (v5 : Int32) (v6 : Int32) (v7 : Int32) (v8 : Int32) (v9 : Int32) (v10 : Int32) (s0 : Int32) (gS' : RowR) : Option (Int32 × RowR) :=
  (if bad (0 : Int32) 6 then none else
  (if bad (1 : Int32) 6 then none else
  (if bad (2 : Int32) 6 then none else
  (if bad (3 : Int32) 6 then none else
  (if bad (4 : Int32) 6 then none else
  (if bad (5 : Int32) 6 then none else
  (if bad v9 Hn then none else
  (if bad v8 Wn then none else
  (if (gS' v9.toNatClampNeg v8.toNatClampNeg) < 0 then
  (mX5_isSame_387 N st co ro cA cD su wI hI Wn Hn gA gD K70 K126 7 (upd (upd (upd (upd (upd (upd (fun _ => 0) (0 : Int32).toNatClampNeg (-1 : Int32)) (1 : Int32).toNatClampNeg (-1 : Int32)) (2 : Int32).toNatClampNeg (-1 : Int32)) (3 : Int32).toNatClampNeg (-1 : Int32)) (4 : Int32).toNatClampNeg (-1 : Int32)) (5 : Int32).toNatClampNeg (-1 : Int32)) fL2 v3 v4 v5 v6 v7 v8 v9 v10 s0 (0 : Int32) gS')
  else
  ((mX5_corridor N wI hI Wn Hn gS' v8 v9 s0).bind fun x195 =>
  (mX5_isSame_218 N st co ro cA cD su wI hI Wn Hn gA gD K70 K126 N x195.2 x195.1 fL2 v3 v4 v5 v6 v7 v8 v9 v10 s0 (0 : Int32) (0 : Int32) (nI x195.1) (0 : Int32) gS')))))))))))
def mX5_isSame_126 (N : Nat) (st : RowI) (co : Int32) (ro : Int32) (cA : CS) (cD : CS) (su : RowJ) (wI : Int32) (hI : Int32) (Wn : Nat) (Hn : Nat) (gA : RowR) (gD : RowR) (K70 : RowI → Int32 → Int32 → Int32 → Int32 → Int32 → RowR → Option (Int32 × RowR)) : Nat → RowI → Int32 → Int32 → Int32 → Int32 → Int32 → Int32 → Int32 → Int32 → RowR → Option (Int32 × RowR)
  | 0 => fun _ _ _ _ _ _ _ _ _ _ => none
  | n + 1 => fun fL2 v3 v4 v5 v6 v7 v8 v9 v10 gS' => (if (2 : Int32) ≤ v10 then
  ((mX5_can N wI hI Wn Hn gS' gA gD v8 v9).bind fun x431 =>
  ((mX5_many N x431.1).bind fun x438 =>
  ((mX4_can N st co ro cA cD su v7).bind fun x446 => Sum.elim (fun k => none) (fun y446 =>
  (if y446 = x431.1 then
  (if bad (2 : Int32) 9 then none else
  (if bad v9 Hn then none else
  (if bad v8 Wn then none else
  (if (x431.2 v9.toNatClampNeg v8.toNatClampNeg) < 0 then
  (mX5_isSame_478 N st co ro cA cD su wI hI Wn Hn gA gD K70 fL2 v3 v4 v5 v6 v7 v8 v9 x438 (0 : Int32) (fL2 (2 : Int32).toNatClampNeg) (2 : Int32) x431.2)
  else
  (mX5_isSame_478 N st co ro cA cD su wI hI Wn Hn gA gD K70 fL2 v3 v4 v5 v6 v7 v8 v9 x438 (1 : Int32) (fL2 (2 : Int32).toNatClampNeg) (2 : Int32) x431.2)))))
  else
  some ((0 : Int32), x431.2))) x446)))
  else
  (if v10 = (1 : Int32) then
  (mX5_isSame_143 N st co ro cA cD su wI hI Wn Hn gA gD K70 (mX5_isSame_126 N st co ro cA cD su wI hI Wn Hn gA gD K70 n) fL2 v3 v4 v5 v6 v7 v8 v9 v10 (1 : Int32) gS')
  else
  (mX5_isSame_143 N st co ro cA cD su wI hI Wn Hn gA gD K70 (mX5_isSame_126 N st co ro cA cD su wI hI Wn Hn gA gD K70 n) fL2 v3 v4 v5 v6 v7 v8 v9 v10 (0 : Int32) gS')))
def mX5_isSame_70 (N : Nat) (st : RowI) (co : Int32) (ro : Int32) (cA : CS) (cD : CS) (su : RowJ) (wI : Int32) (hI : Int32) (Wn : Nat) (Hn : Nat) (gA : RowR) (gD : RowR) : Nat → RowI → Int32 → Int32 → Int32 → Int32 → Int32 → RowR → Option (Int32 × RowR)
  | 0 => fun _ _ _ _ _ _ _ => none
  | n + 1 => fun fL2 v3 v4 v5 v6 v7 gS' => (if (wI * hI) ≤ v7 then
  (mX5_isSame_602 N st co ro cA cD su wI hI Wn Hn gA gD 10 fL2 v3 v4 v5 (0 : Int32) gS')
  else
  (if wI = 0 then none else
  (if wI = 0 then none else
  ((mX4_stone N st co ro v7).bind fun x105 => Sum.elim (fun k => none) (fun y105 =>
  (if bad (v7 / wI) Hn then none else
  (if bad (v7 - v7 / wI * wI) Wn then none else
  (if y105 = (gS' ((v7 / wI).toNatClampNeg) (v7 - v7 / wI * wI).toNatClampNeg) then
  (mX5_isSame_126 N st co ro cA cD su wI hI Wn Hn gA gD (mX5_isSame_70 N st co ro cA cD su wI hI Wn Hn gA gD n) 3 fL2 v3 v4 v5 v6 v7 (v7 - v7 / wI * wI) (v7 / wI) (0 : Int32) gS')
  else
  some ((0 : Int32), gS'))))) x105))))
def mX5_isSame (N : Nat) (st : RowI) (co : Int32) (ro : Int32) (cA : CS) (cD : CS) (su : RowJ) (wI : Int32) (hI : Int32) (Wn : Nat) (Hn : Nat) (gS : RowR) (gA : RowR) (gD : RowR) : Option (Int32 × RowR) :=
  (if bad (0 : Int32) 9 then none else
  (if bad (1 : Int32) 9 then none else
  (if bad (2 : Int32) 9 then none else
  (if bad (3 : Int32) 9 then none else
  (if bad (4 : Int32) 9 then none else
  (if bad (5 : Int32) 9 then none else
  (if bad (6 : Int32) 9 then none else
  (if bad (7 : Int32) 9 then none else
  (if bad (8 : Int32) 9 then none else
  (mX5_isSame_70 N st co ro cA cD su wI hI Wn Hn gA gD 37 (upd (upd (upd (upd (upd (upd (upd (upd (upd (fun _ => 0) (0 : Int32).toNatClampNeg (wI * hI)) (1 : Int32).toNatClampNeg wI) (2 : Int32).toNatClampNeg (0 : Int32)) (3 : Int32).toNatClampNeg (0 : Int32)) (4 : Int32).toNatClampNeg (0 : Int32)) (5 : Int32).toNatClampNeg (0 : Int32)) (6 : Int32).toNatClampNeg (0 : Int32)) (7 : Int32).toNatClampNeg (0 : Int32)) (8 : Int32).toNatClampNeg (0 : Int32)) (0 : Int32) (0 : Int32) (-1 : Int32) (99 : Int32) (0 : Int32) gS))))))))))
abbrev rmX5_isSame : Room := { frames := 16, cells := 9767, slots := 62975, locals := 381 }
set_option maxHeartbeats 4000000 in
set_option maxRecDepth 100000 in
theorem kX5_isSame_c602 {p : Program} {l : Launch} {D : va_G} {cI cJ cB cM : ClassId} (hlt : l.stackTraces = false) (N : Nat) (a : Nat → Nat) (c : Nat → Nat) (r : Nat → Nat → Nat) {ho : RowI} {ke : RowI} {hc : Int32} {tr : Int32} {fo : Int32} {fr : Int32} {st : RowI} {co : Int32} {ro : Int32} {cA : CS} {cD : CS} {su : RowJ} {jA : JT} {jD : JT} {wI : Int32} {hI : Int32} {Wn : Nat} {Hn : Nat} {gS : RowR} {gA : RowR} {gD : RowR} {o : (Int32 × RowR)} (sz : Nat) {e : Env} {s : State} {m : MethodId} {args : Array Value} {below : List Frame} {meth : Method} {c0 : Code} {Q : State → Prop} {A : Nat → Prop} (hQ : Q = MQD lw_cs below (va_Qi (fun (r0 : Int32) (u : JT × JT) => r0 = o.1 ∧ bz r0) (aft D ((xw a cI cJ ho ke hc tr fo fr st co ro cA cD su jA jD ++ (z4 c cM wI hI Hn r)) ++ (zpl cI Wn Hn r gS gA gD)) sz (fun (u : JT × JT) => ((xw a cI cJ ho ke hc tr fo fr st co ro cA cD su u.1 u.2 ++ (z4 c cM wI hI Hn r)) ++ (zpl cI Wn Hn r o.2 gA gD)))) (va_A ((xw a cI cJ ho ke hc tr fo fr st co ro cA cD su jA jD ++ (z4 c cM wI hI Hn r)) ++ (zpl cI Wn Hn r gS gA gD)) sz)) args s 9767 62975 (va_A ((xw a cI cJ ho ke hc tr fo fr st co ro cA cD su jA jD ++ (z4 c cM wI hI Hn r)) ++ (zpl cI Wn Hn r gS gA gD)) sz)) (hAe : A = (va_A ((xw a cI cJ ho ke hc tr fo fr st co ro cA cD su jA jD ++ (z4 c cM wI hI Hn r)) ++ (zpl cI Wn Hn r gS gA gD)) sz)) (hx : p.tables.exec = Jvm.exec) (hb : c0.code = cX5_isSame) (hr : meth.sig.returnType = (some .boolean)) (hml : c0.maxLocals = 20) (hown : s.vm.findClass RX5 = some m.cls) (hts : ∀ w ∈ wsX5_isSame, w.before args s = true) (hlocks : meth.locks = false) (hTX : TX A s s.heap) (hN : NZ s) (hK : va_K D vwCl (tysZ cI cJ cB cM) s) (hA : ∀ q : Nat, s.heap.size ≤ q → A q) (iX5 : ∀ w ∈ wsX50, w ∈ wsX5_isSame) (f13 : (Cond.fieldLink RX5 13 "CryptSumsLaw$Sim" "h" "I").before args s = true) (f18 : (Cond.fieldLink RX5 18 "CryptSumsLaw$Sim" "stones" "[[I").before args s = true) (f7 : (Cond.fieldLink RX5 7 "CryptSumsLaw$Sim" "w" "I").before args s = true) : ∀ (n : Nat), ∀ (fL2 : RowI) (v3 : Int32) (v4 : Int32) (v5 : Int32) (v7 : Int32) (gS' : RowR), mX5_isSame_602 N st co ro cA cD su wI hI Wn Hn gA gD n fL2 v3 v4 v5 v7 gS' = some o → ∀ (qL2 : Nat) (jA' : JT) (jD' : JT), ∀ (kc ks : Nat), kc + (n * 1 + 1) ≤ 9767 → ks + (n * 6 + 6) ≤ 62975 → ∀ (Hq : Heap) (locs : List Loc) (ls : Array Slot), va_P D vwCl ((xw a cI cJ ho ke hc tr fo fr st co ro cA cD su jA' jD' ++ (z4 c cM wI hI Hn r ++ [(qL2, .inl (cI, 9, .inl fL2))])) ++ (zpl cI Wn Hn r gS' gA gD)) Hq → va_D A ((xw a cI cJ ho ke hc tr fo fr st co ro cA cD su jA' jD' ++ (z4 c cM wI hI Hn r ++ [(qL2, .inl (cI, 9, .inl fL2))])) ++ (zpl cI Wn Hn r gS' gA gD)) → va_S A s.heap Hq locs → lv_has ls 20 [(1, .ref (a 15)), (2, .ref qL2), (3, .int v3), (4, .int v4), (5, .int v5), (7, .int v7)] → W p l e rmX5_isSame s m args below meth c0 Hq locs kc ks Q (F0 m 602 ls []) := by
  intro n
  induction n with
  | zero =>
    intro fL2 v3 v4 v5 v7 gS' hM
    rw [mX5_isSame_602] at hM
    cases hM
  | succ n ih =>
    intro fL2 v3 v4 v5 v7 gS' hM qL2 jA' jD' kc ks hkc hks Hq locs ls hP hD hS hl
    rw [mX5_isSame_602] at hM
    refine lv_iload hx hb dX5_isSame_602 (lv_at hl 5 rfl) ?_
    refine lv_bipush (v := 9) hx hb dX5_isSame_604 (by decide) ?_
    refine lv_icmp_ge (tgt := 630) hx hb dX5_isSame_606 (by decide) (fun hcc => ?_) (fun hcc => ?_)
    · replace hM := it_p hcc hM
      refine lv_aload_n hx hb dX5_isSame_630 rfl (lv_at hl 0 rfl) ?_
      obtain ⟨x631, hC, hM⟩ := bd_s hM
      refine cQ_i [0, 1, 2, 3, 4, 5, 6, 7, 8, 9, 10, 11, 12, 13, 14, 15] [16, 17, 18, 19, 20] (va_runV (As := []) (rest := []) ⟨hx, hb, hml, hown, hts⟩ (kX4_next (l := l) (D := D) (cI := cI) (cJ := cJ) N a (ho := ho) (ke := ke) (hc := hc) (tr := tr) (fo := fo) (fr := fr) (st := st) (co := co) (ro := ro) (cA := cA) (cD := cD) (su := su) (jA := jA') (jD := jD') hC Hq.size) (cwV 0 hts gX5_isSame_X4_next rfl rfl rfl (by decide +kernel) ⟨Nat.le_of_ble_eq_true rfl, Nat.le_of_ble_eq_true rfl⟩) (preV [] hN.1 (KX hK) (subQ (cx := (xw a cI cJ ho ke hc tr fo fr st co ro cA cD su jA' jD')) hP [0, 1, 2, 3, 4, 5, 6, 7, 8, 9, 10, 11, 12, 13, 14, 15] rfl) (subQD (cx := (xw a cI cJ ho ke hc tr fo fr st co ro cA cD su jA' jD')) hD [0, 1, 2, 3, 4, 5, 6, 7, 8, 9, 10, 11, 12, 13, 14, 15] (by decide) rfl) (ci := 4) (q0 := 3) rfl rfl) rfl rfl hl.1 rfl (lv_room (Nat.le_of_ble_eq_true rfl)) dX5_isSame_631 ⟨by show _ + 0 ≤ 9767; omega, by show _ + 0 ≤ 62975; omega⟩) hP hD hS hA rfl (wr := (z4 c cM wI hI Hn r ++ [(qL2, .inl (cI, 9, .inl fL2))])) rfl (by decide) (by decide) (fun r0 u631 Hq locs hw hP hD hS => ?_)
      replace hP : va_P D vwCl ((xw a cI cJ ho ke hc tr fo fr st co ro cA cD su u631.1 u631.2 ++ (z4 c cM wI hI Hn r ++ [(qL2, .inl (cI, 9, .inl fL2))])) ++ (zpl cI Wn Hn r gS' gA gD)) Hq := va_P.part (cx := (xw a cI cJ ho ke hc tr fo fr st co ro cA cD su u631.1 u631.2 ++ (z4 c cM wI hI Hn r ++ [(qL2, .inl (cI, 9, .inl fL2))]))) (pl := (zpl cI Wn Hn r gS' gA gD)) hP [5, 6, 7, 8, 9, 10, 11, 12, 13, 14, 15, 16, 17, 18, 19, 20, 0, 1, 2, 3, 4] rfl
      replace hD : va_D A ((xw a cI cJ ho ke hc tr fo fr st co ro cA cD su u631.1 u631.2 ++ (z4 c cM wI hI Hn r ++ [(qL2, .inl (cI, 9, .inl fL2))])) ++ (zpl cI Wn Hn r gS' gA gD)) := va_D.part (cx := (xw a cI cJ ho ke hc tr fo fr st co ro cA cD su u631.1 u631.2 ++ (z4 c cM wI hI Hn r ++ [(qL2, .inl (cI, 9, .inl fL2))]))) (pl := (zpl cI Wn Hn r gS' gA gD)) hD [5, 6, 7, 8, 9, 10, 11, 12, 13, 14, 15, 16, 17, 18, 19, 20, 0, 1, 2, 3, 4] (by decide) rfl
      rw [hw]
      refine lv_iload hx hb dX5_isSame_634 (lv_at hl 4 rfl) ?_
      refine lv_icmp_ne (tgt := 665) hx hb dX5_isSame_636 (by decide) (fun hcc => ?_) (fun hcc => ?_)
      · replace hM := it_n hcc hM
        refine lv_iconst (v := 0) hx hb dX5_isSame_665 (by decide) ?_
        obtain rfl := Option.some.inj hM
        replace hP := va_P.part (cx := (xw a cI cJ ho ke hc tr fo fr st co ro cA cD su u631.1 u631.2 ++ (z4 c cM wI hI Hn r))) hP [0, 1, 2, 3, 4, 5, 6, 7, 8, 9, 10, 11, 12, 13, 14, 15, 16, 17, 18, 19] rfl
        replace hD := va_D.part (cx := (xw a cI cJ ho ke hc tr fo fr st co ro cA cD su u631.1 u631.2 ++ (z4 c cM wI hI Hn r))) hD [0, 1, 2, 3, 4, 5, 6, 7, 8, 9, 10, 11, 12, 13, 14, 15, 16, 17, 18, 19] (by decide) rfl
        refine W.widen (k := 9767) (n := 62975) (by omega) (by omega) ?_
        subst hQ hAe
        refine W.base ?_
        refine W.endD (Drawn.sameBut.refl s.drawn lw_cs) ?_
        exact W.zret (ty := .boolean) (v := (0 : Int32)) hx hb hr (nb_z (Or.inl rfl)) (fun t ht hW => ⟨⟨(0 : Int32), (u631.1, u631.2), rfl, ⟨rfl, Or.inl rfl⟩, ⟨by rw [ht]; exact hP, hD⟩⟩, hS.F ht⟩) hS.2.2 dX5_isSame_666
      · replace hM := it_p hcc hM
        refine lv_aload_n hx hb dX5_isSame_639 rfl (lv_at hl 0 rfl) ?_
        obtain ⟨x640, hC, hM⟩ := bd_s hM
        refine W.base ?_
        refine cQ_d (Drawn.sameBut.refl s.drawn lw_cs) [0, 1, 2, 3, 4, 5, 6, 7, 8, 9, 10, 11, 12, 13, 14, 15] [16, 17, 18, 19, 20] (va_runV_D (As := []) (rest := []) ⟨hx, hb, hml, hown, hts⟩ (kX4_mean (l := l) (D := D) (cI := cI) (cJ := cJ) N a (ho := ho) (ke := ke) (hc := hc) (tr := tr) (fo := fo) (fr := fr) (st := st) (co := co) (ro := ro) (cA := cA) (cD := cD) (su := su) (jA := u631.1) (jD := u631.2) hC Hq.size) (cwV 0 hts gX5_isSame_X4_mean rfl rfl rfl (by decide +kernel) ⟨Nat.le_of_ble_eq_true rfl, Nat.le_of_ble_eq_true rfl⟩) (preV [] hN.1 (KX hK) (subQ (cx := (xw a cI cJ ho ke hc tr fo fr st co ro cA cD su u631.1 u631.2)) hP [0, 1, 2, 3, 4, 5, 6, 7, 8, 9, 10, 11, 12, 13, 14, 15] rfl) (subQD (cx := (xw a cI cJ ho ke hc tr fo fr st co ro cA cD su u631.1 u631.2)) hD [0, 1, 2, 3, 4, 5, 6, 7, 8, 9, 10, 11, 12, 13, 14, 15] (by decide) rfl) (ci := 4) (q0 := 3) rfl rfl) rfl rfl hl.1 rfl (lv_room (Nat.le_of_ble_eq_true rfl)) dX5_isSame_640 ⟨by show _ + 0 ≤ 9767; omega, by show _ + 0 ≤ 62975; omega⟩) hP hD hS hA rfl (wr := (z4 c cM wI hI Hn r ++ [(qL2, .inl (cI, 9, .inl fL2))])) rfl (by decide) (by decide) (fun r9 u640 Hq locs hal9 hP hD hS d9 hd9 => ?_)
        replace hP : va_P D vwCl ((xw a cI cJ ho ke hc tr fo fr st co ro cA cD su u640.1 u640.2 ++ (z4 c cM wI hI Hn r ++ [(qL2, .inl (cI, 9, .inl fL2))])) ++ (zpl cI Wn Hn r gS' gA gD)) Hq := va_P.part (cx := (xw a cI cJ ho ke hc tr fo fr st co ro cA cD su u640.1 u640.2 ++ (z4 c cM wI hI Hn r ++ [(qL2, .inl (cI, 9, .inl fL2))]))) (pl := (zpl cI Wn Hn r gS' gA gD)) hP [5, 6, 7, 8, 9, 10, 11, 12, 13, 14, 15, 16, 17, 18, 19, 20, 0, 1, 2, 3, 4] rfl
        replace hD : va_D A ((xw a cI cJ ho ke hc tr fo fr st co ro cA cD su u640.1 u640.2 ++ (z4 c cM wI hI Hn r ++ [(qL2, .inl (cI, 9, .inl fL2))])) ++ (zpl cI Wn Hn r gS' gA gD)) := va_D.part (cx := (xw a cI cJ ho ke hc tr fo fr st co ro cA cD su u640.1 u640.2 ++ (z4 c cM wI hI Hn r ++ [(qL2, .inl (cI, 9, .inl fL2))]))) (pl := (zpl cI Wn Hn r gS' gA gD)) hD [5, 6, 7, 8, 9, 10, 11, 12, 13, 14, 15, 16, 17, 18, 19, 20, 0, 1, 2, 3, 4] (by decide) rfl
        refine lv_iload_n hx hb dX5_isSame_643 rfl (lv_at hl 2 rfl) ?_
        refine lv_if_ne (tgt := 651) hx hb dX5_isSame_644 (by decide) (fun hcc => ?_) (fun hcc => ?_)
        · replace hM := it_n hcc hM
          refine lv_iload hx hb dX5_isSame_651 (lv_at hl 3 rfl) ?_
          refine lv_i2d hx hb dX5_isSame_653 ?_
          refine lv_iload_n hx hb dX5_isSame_654 rfl (lv_at hl 2 rfl) ?_
          refine lv_i2d hx hb dX5_isSame_655 ?_
          refine lv_ddiv_any hd9 lw_bits hx hb dX5_isSame_656 (fun r8 d8 hal8 hd8 => ?_)
          refine lv_dcmp hx hb dX5_isSame_657 ?_
          obtain ⟨hnn, hM⟩ := it_g hM
          obtain rfl : r8 = (FP.ddiv (FP.i2d v4) (FP.i2d v3)) := al_eq hal8 hnn.2
          obtain rfl : r9 = x640 := al_eq hal9 hnn.1
          refine lv_if_ne (tgt := 665) hx hb dX5_isSame_658 (by decide) (fun hcc => ?_) (fun hcc => ?_)
          · replace hM := it_n hcc hM
            refine lv_iconst (v := 0) hx hb dX5_isSame_665 (by decide) ?_
            obtain rfl := Option.some.inj hM
            replace hP := va_P.part (cx := (xw a cI cJ ho ke hc tr fo fr st co ro cA cD su u640.1 u640.2 ++ (z4 c cM wI hI Hn r))) hP [0, 1, 2, 3, 4, 5, 6, 7, 8, 9, 10, 11, 12, 13, 14, 15, 16, 17, 18, 19] rfl
            replace hD := va_D.part (cx := (xw a cI cJ ho ke hc tr fo fr st co ro cA cD su u640.1 u640.2 ++ (z4 c cM wI hI Hn r))) hD [0, 1, 2, 3, 4, 5, 6, 7, 8, 9, 10, 11, 12, 13, 14, 15, 16, 17, 18, 19] (by decide) rfl
            refine W.widen (k := 9767) (n := 62975) (by omega) (by omega) ?_
            subst hQ hAe
            refine W.endD hd8 ?_
            exact W.zret (ty := .boolean) (v := (0 : Int32)) hx hb hr (nb_z (Or.inl rfl)) (fun t ht hW => ⟨⟨(0 : Int32), (u640.1, u640.2), rfl, ⟨rfl, Or.inl rfl⟩, ⟨by rw [ht]; exact hP, hD⟩⟩, hS.F ht⟩) hS.2.2 dX5_isSame_666
          · replace hM := it_p hcc hM
            refine lv_iconst (v := 1) hx hb dX5_isSame_661 (by decide) ?_
            refine lv_goto (tgt := 666) hx hb dX5_isSame_662 (by decide) ?_
            obtain rfl := Option.some.inj hM
            replace hP := va_P.part (cx := (xw a cI cJ ho ke hc tr fo fr st co ro cA cD su u640.1 u640.2 ++ (z4 c cM wI hI Hn r))) hP [0, 1, 2, 3, 4, 5, 6, 7, 8, 9, 10, 11, 12, 13, 14, 15, 16, 17, 18, 19] rfl
            replace hD := va_D.part (cx := (xw a cI cJ ho ke hc tr fo fr st co ro cA cD su u640.1 u640.2 ++ (z4 c cM wI hI Hn r))) hD [0, 1, 2, 3, 4, 5, 6, 7, 8, 9, 10, 11, 12, 13, 14, 15, 16, 17, 18, 19] (by decide) rfl
            refine W.widen (k := 9767) (n := 62975) (by omega) (by omega) ?_
            subst hQ hAe
            refine W.endD hd8 ?_
            exact W.zret (ty := .boolean) (v := (1 : Int32)) hx hb hr (nb_z (Or.inr rfl)) (fun t ht hW => ⟨⟨(1 : Int32), (u640.1, u640.2), rfl, ⟨rfl, Or.inr rfl⟩, ⟨by rw [ht]; exact hP, hD⟩⟩, hS.F ht⟩) hS.2.2 dX5_isSame_666
        · replace hM := it_p hcc hM
          refine lv_dconst0 hx hb dX5_isSame_647 ?_
          refine lv_goto (tgt := 657) hx hb dX5_isSame_648 (by decide) ?_
          refine lv_dcmp hx hb dX5_isSame_657 ?_
          obtain ⟨hnn, hM⟩ := it_g hM
          obtain rfl : r9 = x640 := al_eq hal9 hnn.1
          refine lv_if_ne (tgt := 665) hx hb dX5_isSame_658 (by decide) (fun hcc => ?_) (fun hcc => ?_)
          · replace hM := it_n hcc hM
            refine lv_iconst (v := 0) hx hb dX5_isSame_665 (by decide) ?_
            obtain rfl := Option.some.inj hM
            replace hP := va_P.part (cx := (xw a cI cJ ho ke hc tr fo fr st co ro cA cD su u640.1 u640.2 ++ (z4 c cM wI hI Hn r))) hP [0, 1, 2, 3, 4, 5, 6, 7, 8, 9, 10, 11, 12, 13, 14, 15, 16, 17, 18, 19] rfl
            replace hD := va_D.part (cx := (xw a cI cJ ho ke hc tr fo fr st co ro cA cD su u640.1 u640.2 ++ (z4 c cM wI hI Hn r))) hD [0, 1, 2, 3, 4, 5, 6, 7, 8, 9, 10, 11, 12, 13, 14, 15, 16, 17, 18, 19] (by decide) rfl
            refine W.widen (k := 9767) (n := 62975) (by omega) (by omega) ?_
            subst hQ hAe
            refine W.endD hd9 ?_
            exact W.zret (ty := .boolean) (v := (0 : Int32)) hx hb hr (nb_z (Or.inl rfl)) (fun t ht hW => ⟨⟨(0 : Int32), (u640.1, u640.2), rfl, ⟨rfl, Or.inl rfl⟩, ⟨by rw [ht]; exact hP, hD⟩⟩, hS.F ht⟩) hS.2.2 dX5_isSame_666
          · replace hM := it_p hcc hM
            refine lv_iconst (v := 1) hx hb dX5_isSame_661 (by decide) ?_
            refine lv_goto (tgt := 666) hx hb dX5_isSame_662 (by decide) ?_
            obtain rfl := Option.some.inj hM
            replace hP := va_P.part (cx := (xw a cI cJ ho ke hc tr fo fr st co ro cA cD su u640.1 u640.2 ++ (z4 c cM wI hI Hn r))) hP [0, 1, 2, 3, 4, 5, 6, 7, 8, 9, 10, 11, 12, 13, 14, 15, 16, 17, 18, 19] rfl
            replace hD := va_D.part (cx := (xw a cI cJ ho ke hc tr fo fr st co ro cA cD su u640.1 u640.2 ++ (z4 c cM wI hI Hn r))) hD [0, 1, 2, 3, 4, 5, 6, 7, 8, 9, 10, 11, 12, 13, 14, 15, 16, 17, 18, 19] (by decide) rfl
            refine W.widen (k := 9767) (n := 62975) (by omega) (by omega) ?_
            subst hQ hAe
            refine W.endD hd9 ?_
            exact W.zret (ty := .boolean) (v := (1 : Int32)) hx hb hr (nb_z (Or.inr rfl)) (fun t ht hW => ⟨⟨(1 : Int32), (u640.1, u640.2), rfl, ⟨rfl, Or.inr rfl⟩, ⟨by rw [ht]; exact hP, hD⟩⟩, hS.F ht⟩) hS.2.2 dX5_isSame_666
    · replace hM := it_n hcc hM
      refine lv_aload_n hx hb dX5_isSame_609 rfl (lv_at hl 0 rfl) ?_
      refine lv_iload hx hb dX5_isSame_610 (lv_at hl 5 rfl) ?_
      obtain ⟨x612, hC, hM⟩ := bd_s hM
      refine cTQ_i [0, 1, 2, 3, 4, 5, 6, 7, 8, 9, 10, 11, 12, 13, 14, 15] [16, 17, 18, 19, 20] (vx_runV (As := [.int v7]) (rest := []) ⟨hx, hb, hml, hown, hts⟩ (kX4_count (l := l) (D := D) (cI := cI) (cJ := cJ) hlt N a (ho := ho) (ke := ke) (hc := hc) (tr := tr) (fo := fo) (fr := fr) (st := st) (co := co) (ro := ro) (cA := cA) (cD := cD) (su := su) (jA := jA') (jD := jD') (p1 := v7) hC Hq.size) (cwV 1 hts gX5_isSame_X4_count rfl rfl rfl (by decide +kernel) ⟨Nat.le_of_ble_eq_true rfl, Nat.le_of_ble_eq_true rfl⟩) (preVT [.int v7] hTX hS (freeQ (cx := (xw a cI cJ ho ke hc tr fo fr st co ro cA cD su jA' jD')) hD hS hA [0, 1, 2, 3, 4, 5, 6, 7, 8, 9, 10, 11, 12, 13, 14, 15] rfl) hN.1 (KX hK) (subQ (cx := (xw a cI cJ ho ke hc tr fo fr st co ro cA cD su jA' jD')) hP [0, 1, 2, 3, 4, 5, 6, 7, 8, 9, 10, 11, 12, 13, 14, 15] rfl) (subQD (cx := (xw a cI cJ ho ke hc tr fo fr st co ro cA cD su jA' jD')) hD [0, 1, 2, 3, 4, 5, 6, 7, 8, 9, 10, 11, 12, 13, 14, 15] (by decide) rfl) (ci := 4) (q0 := 3) rfl rfl) rfl rfl hl.1 rfl (lv_room (Nat.le_of_ble_eq_true rfl)) dX5_isSame_612 ⟨by show _ + 1 ≤ 9767; omega, by show _ + 6 ≤ 62975; omega⟩) hP hD hS hA rfl (wr := (z4 c cM wI hI Hn r ++ [(qL2, .inl (cI, 9, .inl fL2))])) rfl (by decide) (by decide) (fun E ce q9 Hq locs hE hP hD hS h1 h2 h3 => ?_) (fun r0 u612 Hq locs hw hP hD hS => ?_)
      · obtain ⟨k, hk, hE⟩ := hE
        subst hk
        cases hM
      obtain ⟨hxx, hw⟩ := hw
      subst hxx
      dsimp only [Sum.elim] at hM
      replace hP : va_P D vwCl ((xw a cI cJ ho ke hc tr fo fr st co ro cA cD su u612.2.1 u612.2.2 ++ (z4 c cM wI hI Hn r ++ [(qL2, .inl (cI, 9, .inl fL2))])) ++ (zpl cI Wn Hn r gS' gA gD)) Hq := va_P.part (cx := (xw a cI cJ ho ke hc tr fo fr st co ro cA cD su u612.2.1 u612.2.2 ++ (z4 c cM wI hI Hn r ++ [(qL2, .inl (cI, 9, .inl fL2))]))) (pl := (zpl cI Wn Hn r gS' gA gD)) hP [5, 6, 7, 8, 9, 10, 11, 12, 13, 14, 15, 16, 17, 18, 19, 20, 0, 1, 2, 3, 4] rfl
      replace hD : va_D A ((xw a cI cJ ho ke hc tr fo fr st co ro cA cD su u612.2.1 u612.2.2 ++ (z4 c cM wI hI Hn r ++ [(qL2, .inl (cI, 9, .inl fL2))])) ++ (zpl cI Wn Hn r gS' gA gD)) := va_D.part (cx := (xw a cI cJ ho ke hc tr fo fr st co ro cA cD su u612.2.1 u612.2.2 ++ (z4 c cM wI hI Hn r ++ [(qL2, .inl (cI, 9, .inl fL2))]))) (pl := (zpl cI Wn Hn r gS' gA gD)) hD [5, 6, 7, 8, 9, 10, 11, 12, 13, 14, 15, 16, 17, 18, 19, 20, 0, 1, 2, 3, 4] (by decide) rfl
      rw [hw]
      refine W.widen (k := kc + 1) (n := ks + 6) (by omega) (by omega) ?_
      refine lv_aload_n hx hb dX5_isSame_615 rfl (lv_at hl 1 rfl) ?_
      refine lv_iload hx hb dX5_isSame_616 (lv_at hl 5 rfl) ?_
      obtain ⟨hb618, hM⟩ := it_x hM
      refine va_iald (D := D) hx hb hK hP 20 0 rfl rfl hb618 dX5_isSame_618 ?_
      refine lv_icmp_eq (tgt := 624) hx hb dX5_isSame_619 (by decide) (fun hcc => ?_) (fun hcc => ?_)
      · replace hM := it_p hcc hM
        refine lv_iinc (v := (v7 + 1)) (lv' := [(7, .int (v7 + 1)), (1, .ref (a 15)), (2, .ref qL2), (3, .int v3), (4, .int v4), (5, .int v5)]) hx hb dX5_isSame_624 hl (k := 5) rfl (by rfl) (by decide) rfl (fun ls hl => ?_)
        refine lv_goto (tgt := 602) hx hb dX5_isSame_627 (by decide) ?_
        exact ih fL2 v3 v4 v5 (v7 + 1) gS' hM qL2 u612.2.1 u612.2.2 (kc + 1) (ks + 6) (by omega) (by omega) Hq locs ls hP hD hS (lv_sub hl [1, 2, 3, 4, 5, 0] rfl)
      · replace hM := it_n hcc hM
        refine lv_iconst (v := 0) hx hb dX5_isSame_622 (by decide) ?_
        obtain rfl := Option.some.inj hM
        replace hP := va_P.part (cx := (xw a cI cJ ho ke hc tr fo fr st co ro cA cD su u612.2.1 u612.2.2 ++ (z4 c cM wI hI Hn r))) hP [0, 1, 2, 3, 4, 5, 6, 7, 8, 9, 10, 11, 12, 13, 14, 15, 16, 17, 18, 19] rfl
        replace hD := va_D.part (cx := (xw a cI cJ ho ke hc tr fo fr st co ro cA cD su u612.2.1 u612.2.2 ++ (z4 c cM wI hI Hn r))) hD [0, 1, 2, 3, 4, 5, 6, 7, 8, 9, 10, 11, 12, 13, 14, 15, 16, 17, 18, 19] (by decide) rfl
        refine W.widen (k := 9767) (n := 62975) (by omega) (by omega) ?_
        subst hQ hAe
        refine W.base ?_
        refine W.endD (Drawn.sameBut.refl s.drawn lw_cs) ?_
        exact W.zret (ty := .boolean) (v := (0 : Int32)) hx hb hr (nb_z (Or.inl rfl)) (fun t ht hW => ⟨⟨(0 : Int32), (u612.2.1, u612.2.2), rfl, ⟨rfl, Or.inl rfl⟩, ⟨by rw [ht]; exact hP, hD⟩⟩, hS.F ht⟩) hS.2.2 dX5_isSame_623
set_option maxHeartbeats 4000000 in
set_option maxRecDepth 100000 in
theorem kX5_isSame_c550 {p : Program} {l : Launch} {D : va_G} {cI cJ cB cM : ClassId} (hlt : l.stackTraces = false) (N : Nat) (a : Nat → Nat) (c : Nat → Nat) (r : Nat → Nat → Nat) {ho : RowI} {ke : RowI} {hc : Int32} {tr : Int32} {fo : Int32} {fr : Int32} {st : RowI} {co : Int32} {ro : Int32} {cA : CS} {cD : CS} {su : RowJ} {jA : JT} {jD : JT} {wI : Int32} {hI : Int32} {Wn : Nat} {Hn : Nat} {gS : RowR} {gA : RowR} {gD : RowR} {o : (Int32 × RowR)} (sz : Nat) {e : Env} {s : State} {m : MethodId} {args : Array Value} {below : List Frame} {meth : Method} {c0 : Code} {Q : State → Prop} {A : Nat → Prop} (hQ : Q = MQD lw_cs below (va_Qi (fun (r0 : Int32) (u : JT × JT) => r0 = o.1 ∧ bz r0) (aft D ((xw a cI cJ ho ke hc tr fo fr st co ro cA cD su jA jD ++ (z4 c cM wI hI Hn r)) ++ (zpl cI Wn Hn r gS gA gD)) sz (fun (u : JT × JT) => ((xw a cI cJ ho ke hc tr fo fr st co ro cA cD su u.1 u.2 ++ (z4 c cM wI hI Hn r)) ++ (zpl cI Wn Hn r o.2 gA gD)))) (va_A ((xw a cI cJ ho ke hc tr fo fr st co ro cA cD su jA jD ++ (z4 c cM wI hI Hn r)) ++ (zpl cI Wn Hn r gS gA gD)) sz)) args s 9767 62975 (va_A ((xw a cI cJ ho ke hc tr fo fr st co ro cA cD su jA jD ++ (z4 c cM wI hI Hn r)) ++ (zpl cI Wn Hn r gS gA gD)) sz)) (hAe : A = (va_A ((xw a cI cJ ho ke hc tr fo fr st co ro cA cD su jA jD ++ (z4 c cM wI hI Hn r)) ++ (zpl cI Wn Hn r gS gA gD)) sz)) (hx : p.tables.exec = Jvm.exec) (hb : c0.code = cX5_isSame) (hr : meth.sig.returnType = (some .boolean)) (hml : c0.maxLocals = 20) (hown : s.vm.findClass RX5 = some m.cls) (hts : ∀ w ∈ wsX5_isSame, w.before args s = true) (hlocks : meth.locks = false) (hTX : TX A s s.heap) (hN : NZ s) (hK : va_K D vwCl (tysZ cI cJ cB cM) s) (hA : ∀ q : Nat, s.heap.size ≤ q → A q) (iX5 : ∀ w ∈ wsX50, w ∈ wsX5_isSame) (f13 : (Cond.fieldLink RX5 13 "CryptSumsLaw$Sim" "h" "I").before args s = true) (f18 : (Cond.fieldLink RX5 18 "CryptSumsLaw$Sim" "stones" "[[I").before args s = true) (f7 : (Cond.fieldLink RX5 7 "CryptSumsLaw$Sim" "w" "I").before args s = true) : ∀ (K70 : RowI → Int32 → Int32 → Int32 → Int32 → Int32 → RowR → Option (Int32 × RowR)) (nK70 nS70 : Nat) (hK70 : ∀ (fL2 : RowI) (v3 : Int32) (v4 : Int32) (v5 : Int32) (v6 : Int32) (v7 : Int32) (gS' : RowR), K70 fL2 v3 v4 v5 v6 v7 gS' = some o → ∀ (qL2 : Nat) (jA' : JT) (jD' : JT), ∀ (kc ks : Nat), kc + (nK70) ≤ 9767 → ks + (nS70) ≤ 62975 → ∀ (Hq : Heap) (locs : List Loc) (ls : Array Slot), va_P D vwCl ((xw a cI cJ ho ke hc tr fo fr st co ro cA cD su jA' jD' ++ (z4 c cM wI hI Hn r ++ [(qL2, .inl (cI, 9, .inl fL2))])) ++ (zpl cI Wn Hn r gS' gA gD)) Hq → va_D A ((xw a cI cJ ho ke hc tr fo fr st co ro cA cD su jA' jD' ++ (z4 c cM wI hI Hn r ++ [(qL2, .inl (cI, 9, .inl fL2))])) ++ (zpl cI Wn Hn r gS' gA gD)) → va_S A s.heap Hq locs → lv_has ls 20 [(0, .ref (c 0)), (1, .ref (a 15)), (2, .ref qL2), (3, .int v3), (4, .int v4), (5, .int v5), (6, .int v6), (7, .int v7)] → W p l e rmX5_isSame s m args below meth c0 Hq locs kc ks Q (F0 m 70 ls [])) , 257 ≤ nK70 → 1657 ≤ nS70 → ∀ (fL2 : RowI) (v3 : Int32) (v4 : Int32) (v5 : Int32) (v6 : Int32) (v7 : Int32) (v8 : Int32) (v9 : Int32) (v11 : Int32) (s0 : Int32) (s1 : Int32) (s2 : Int32) (gS' : RowR), mX5_isSame_550 N st co ro cA cD su wI hI Wn Hn gA gD K70 fL2 v3 v4 v5 v6 v7 v8 v9 v11 s0 s1 s2 gS' = some o → ∀ (qL2 : Nat) (jA' : JT) (jD' : JT), ∀ (kc ks : Nat), kc + (nK70) ≤ 9767 → ks + (nS70) ≤ 62975 → ∀ (Hq : Heap) (locs : List Loc) (ls : Array Slot), va_P D vwCl ((xw a cI cJ ho ke hc tr fo fr st co ro cA cD su jA' jD' ++ (z4 c cM wI hI Hn r ++ [(qL2, .inl (cI, 9, .inl fL2))])) ++ (zpl cI Wn Hn r gS' gA gD)) Hq → va_D A ((xw a cI cJ ho ke hc tr fo fr st co ro cA cD su jA' jD' ++ (z4 c cM wI hI Hn r ++ [(qL2, .inl (cI, 9, .inl fL2))])) ++ (zpl cI Wn Hn r gS' gA gD)) → va_S A s.heap Hq locs → lv_has ls 20 [(0, .ref (c 0)), (1, .ref (a 15)), (2, .ref qL2), (3, .int v3), (4, .int v4), (5, .int v5), (6, .int v6), (7, .int v7), (8, .int v8), (9, .int v9), (11, .int v11)] → W p l e rmX5_isSame s m args below meth c0 Hq locs kc ks Q (F0 m 550 ls [.int s0, .int s1, .int s2, .ref qL2]) := by
  intro K70 nK70 nS70 hK70 hp0 hp1 fL2 v3 v4 v5 v6 v7 v8 v9 v11 s0 s1 s2 gS' hM qL2 jA' jD' kc ks hkc hks Hq locs ls hP hD hS hl
  rw [mX5_isSame_550] at hM
  refine lv_iadd hx hb dX5_isSame_550 ?_
  obtain ⟨hb551, hM⟩ := it_x hM
  refine va_iast (D := D) hx hb hK hP hD hS 20 0 rfl rfl hb551 dX5_isSame_551 (fun Hq locs hP hD hS => ?_)
  replace hP : va_P D vwCl ((xw a cI cJ ho ke hc tr fo fr st co ro cA cD su jA' jD' ++ (z4 c cM wI hI Hn r ++ [(qL2, .inl (cI, 9, .inl (upd fL2 s2.toNatClampNeg (s1 + s0))))])) ++ (zpl cI Wn Hn r gS' gA gD)) Hq := hP
  replace hD : va_D A ((xw a cI cJ ho ke hc tr fo fr st co ro cA cD su jA' jD' ++ (z4 c cM wI hI Hn r ++ [(qL2, .inl (cI, 9, .inl (upd fL2 s2.toNatClampNeg (s1 + s0))))])) ++ (zpl cI Wn Hn r gS' gA gD)) := hD
  refine lv_aload_n hx hb dX5_isSame_552 rfl (lv_at hl 0 rfl) ?_
  refine va_get (D := D) (ci := 5) (v := .ref (c 1)) (C := RX5) (T := TX5) (N := 8) hx hb hts iX5 hown hK hP 16 rfl rfl 2 (by decide) f18 (fun _ h9 => h9) rfl dX5_isSame_553 ?_
  refine lv_iload hx hb dX5_isSame_556 (lv_at hl 9 rfl) ?_
  obtain ⟨hb558, hM⟩ := it_x hM
  refine z_aald (D := D) hx hb hK hP 17 rfl hb558 dX5_isSame_558 ?_
  refine lv_iload hx hb dX5_isSame_559 (lv_at hl 8 rfl) ?_
  obtain ⟨hb561, hM⟩ := it_x hM
  refine va_iald (D := D) hx hb hK hP _ 0 (row0 (xw a cI cJ ho ke hc tr fo fr st co ro cA cD su jA' jD' ++ (z4 c cM wI hI Hn r ++ [(qL2, .inl (cI, 9, .inl (upd fL2 s2.toNatClampNeg (s1 + s0))))])) (lt_in hb558)) rfl hb561 dX5_isSame_561 ?_
  refine lv_if_eq (tgt := 568) hx hb dX5_isSame_562 (by decide) (fun hcc => ?_) (fun hcc => ?_)
  · replace hM := it_p hcc hM
    refine lv_iinc (v := (v3 + 1)) (lv' := [(3, .int (v3 + 1)), (0, .ref (c 0)), (1, .ref (a 15)), (2, .ref qL2), (4, .int v4), (5, .int v5), (6, .int v6), (7, .int v7), (8, .int v8), (9, .int v9), (11, .int v11)]) hx hb dX5_isSame_568 hl (k := 3) rfl (by rfl) (by decide) rfl (fun ls hl => ?_)
    refine lv_iload hx hb dX5_isSame_571 (lv_at hl 4 rfl) ?_
    refine lv_iload hx hb dX5_isSame_573 (lv_at hl 10 rfl) ?_
    refine lv_iadd hx hb dX5_isSame_575 ?_
    refine lv_istore (lv' := [(4, .int (v4 + v11)), (3, .int (v3 + 1)), (0, .ref (c 0)), (1, .ref (a 15)), (2, .ref qL2), (5, .int v5), (6, .int v6), (7, .int v7), (8, .int v8), (9, .int v9), (11, .int v11)]) hx hb dX5_isSame_576 hl (by decide) rfl (fun ls hl => ?_)
    refine lv_iload hx hb dX5_isSame_578 (lv_at hl 10 rfl) ?_
    refine lv_iload hx hb dX5_isSame_580 (lv_at hl 6 rfl) ?_
    refine lv_icmp_ge (tgt := 593) hx hb dX5_isSame_582 (by decide) (fun hcc => ?_) (fun hcc => ?_)
    · replace hM := it_p hcc hM
      refine lv_iinc (v := (v7 + 1)) (lv' := [(7, .int (v7 + 1)), (4, .int (v4 + v11)), (3, .int (v3 + 1)), (0, .ref (c 0)), (1, .ref (a 15)), (2, .ref qL2), (5, .int v5), (6, .int v6), (8, .int v8), (9, .int v9), (11, .int v11)]) hx hb dX5_isSame_593 hl (k := 7) rfl (by rfl) (by decide) rfl (fun ls hl => ?_)
      refine lv_goto (tgt := 70) hx hb dX5_isSame_596 (by decide) ?_
      exact hK70 (upd fL2 s2.toNatClampNeg (s1 + s0)) (v3 + 1) (v4 + v11) v5 v6 (v7 + 1) gS' hM qL2 jA' jD' kc ks (by omega) (by omega) Hq locs ls hP hD hS (lv_sub hl [3, 4, 5, 2, 1, 6, 7, 0] rfl)
    · replace hM := it_n hcc hM
      refine lv_iload hx hb dX5_isSame_585 (lv_at hl 10 rfl) ?_
      refine lv_istore (lv' := [(6, .int v11), (4, .int (v4 + v11)), (3, .int (v3 + 1)), (0, .ref (c 0)), (1, .ref (a 15)), (2, .ref qL2), (5, .int v5), (7, .int v7), (8, .int v8), (9, .int v9), (11, .int v11)]) hx hb dX5_isSame_587 hl (by decide) rfl (fun ls hl => ?_)
      refine lv_iload hx hb dX5_isSame_589 (lv_at hl 7 rfl) ?_
      refine lv_istore (lv' := [(5, .int v7), (6, .int v11), (4, .int (v4 + v11)), (3, .int (v3 + 1)), (0, .ref (c 0)), (1, .ref (a 15)), (2, .ref qL2), (7, .int v7), (8, .int v8), (9, .int v9), (11, .int v11)]) hx hb dX5_isSame_591 hl (by decide) rfl (fun ls hl => ?_)
      refine lv_iinc (v := (v7 + 1)) (lv' := [(7, .int (v7 + 1)), (5, .int v7), (6, .int v11), (4, .int (v4 + v11)), (3, .int (v3 + 1)), (0, .ref (c 0)), (1, .ref (a 15)), (2, .ref qL2), (8, .int v8), (9, .int v9), (11, .int v11)]) hx hb dX5_isSame_593 hl (k := 7) rfl (by rfl) (by decide) rfl (fun ls hl => ?_)
      refine lv_goto (tgt := 70) hx hb dX5_isSame_596 (by decide) ?_
      exact hK70 (upd fL2 s2.toNatClampNeg (s1 + s0)) (v3 + 1) (v4 + v11) v7 v11 (v7 + 1) gS' hM qL2 jA' jD' kc ks (by omega) (by omega) Hq locs ls hP hD hS (lv_sub hl [5, 6, 7, 4, 3, 1, 2, 0] rfl)
  · replace hM := it_n hcc hM
    refine lv_goto (tgt := 593) hx hb dX5_isSame_565 (by decide) ?_
    refine lv_iinc (v := (v7 + 1)) (lv' := [(7, .int (v7 + 1)), (0, .ref (c 0)), (1, .ref (a 15)), (2, .ref qL2), (3, .int v3), (4, .int v4), (5, .int v5), (6, .int v6), (8, .int v8), (9, .int v9), (11, .int v11)]) hx hb dX5_isSame_593 hl (k := 7) rfl (by rfl) (by decide) rfl (fun ls hl => ?_)
    refine lv_goto (tgt := 70) hx hb dX5_isSame_596 (by decide) ?_
    exact hK70 (upd fL2 s2.toNatClampNeg (s1 + s0)) v3 v4 v5 v6 (v7 + 1) gS' hM qL2 jA' jD' kc ks (by omega) (by omega) Hq locs ls hP hD hS (lv_sub hl [1, 2, 3, 4, 5, 6, 7, 0] rfl)
set_option maxHeartbeats 4000000 in
set_option maxRecDepth 100000 in
theorem kX5_isSame_c549 {p : Program} {l : Launch} {D : va_G} {cI cJ cB cM : ClassId} (hlt : l.stackTraces = false) (N : Nat) (a : Nat → Nat) (c : Nat → Nat) (r : Nat → Nat → Nat) {ho : RowI} {ke : RowI} {hc : Int32} {tr : Int32} {fo : Int32} {fr : Int32} {st : RowI} {co : Int32} {ro : Int32} {cA : CS} {cD : CS} {su : RowJ} {jA : JT} {jD : JT} {wI : Int32} {hI : Int32} {Wn : Nat} {Hn : Nat} {gS : RowR} {gA : RowR} {gD : RowR} {o : (Int32 × RowR)} (sz : Nat) {e : Env} {s : State} {m : MethodId} {args : Array Value} {below : List Frame} {meth : Method} {c0 : Code} {Q : State → Prop} {A : Nat → Prop} (hQ : Q = MQD lw_cs below (va_Qi (fun (r0 : Int32) (u : JT × JT) => r0 = o.1 ∧ bz r0) (aft D ((xw a cI cJ ho ke hc tr fo fr st co ro cA cD su jA jD ++ (z4 c cM wI hI Hn r)) ++ (zpl cI Wn Hn r gS gA gD)) sz (fun (u : JT × JT) => ((xw a cI cJ ho ke hc tr fo fr st co ro cA cD su u.1 u.2 ++ (z4 c cM wI hI Hn r)) ++ (zpl cI Wn Hn r o.2 gA gD)))) (va_A ((xw a cI cJ ho ke hc tr fo fr st co ro cA cD su jA jD ++ (z4 c cM wI hI Hn r)) ++ (zpl cI Wn Hn r gS gA gD)) sz)) args s 9767 62975 (va_A ((xw a cI cJ ho ke hc tr fo fr st co ro cA cD su jA jD ++ (z4 c cM wI hI Hn r)) ++ (zpl cI Wn Hn r gS gA gD)) sz)) (hAe : A = (va_A ((xw a cI cJ ho ke hc tr fo fr st co ro cA cD su jA jD ++ (z4 c cM wI hI Hn r)) ++ (zpl cI Wn Hn r gS gA gD)) sz)) (hx : p.tables.exec = Jvm.exec) (hb : c0.code = cX5_isSame) (hr : meth.sig.returnType = (some .boolean)) (hml : c0.maxLocals = 20) (hown : s.vm.findClass RX5 = some m.cls) (hts : ∀ w ∈ wsX5_isSame, w.before args s = true) (hlocks : meth.locks = false) (hTX : TX A s s.heap) (hN : NZ s) (hK : va_K D vwCl (tysZ cI cJ cB cM) s) (hA : ∀ q : Nat, s.heap.size ≤ q → A q) (iX5 : ∀ w ∈ wsX50, w ∈ wsX5_isSame) (f13 : (Cond.fieldLink RX5 13 "CryptSumsLaw$Sim" "h" "I").before args s = true) (f18 : (Cond.fieldLink RX5 18 "CryptSumsLaw$Sim" "stones" "[[I").before args s = true) (f7 : (Cond.fieldLink RX5 7 "CryptSumsLaw$Sim" "w" "I").before args s = true) : ∀ (K70 : RowI → Int32 → Int32 → Int32 → Int32 → Int32 → RowR → Option (Int32 × RowR)) (nK70 nS70 : Nat) (hK70 : ∀ (fL2 : RowI) (v3 : Int32) (v4 : Int32) (v5 : Int32) (v6 : Int32) (v7 : Int32) (gS' : RowR), K70 fL2 v3 v4 v5 v6 v7 gS' = some o → ∀ (qL2 : Nat) (jA' : JT) (jD' : JT), ∀ (kc ks : Nat), kc + (nK70) ≤ 9767 → ks + (nS70) ≤ 62975 → ∀ (Hq : Heap) (locs : List Loc) (ls : Array Slot), va_P D vwCl ((xw a cI cJ ho ke hc tr fo fr st co ro cA cD su jA' jD' ++ (z4 c cM wI hI Hn r ++ [(qL2, .inl (cI, 9, .inl fL2))])) ++ (zpl cI Wn Hn r gS' gA gD)) Hq → va_D A ((xw a cI cJ ho ke hc tr fo fr st co ro cA cD su jA' jD' ++ (z4 c cM wI hI Hn r ++ [(qL2, .inl (cI, 9, .inl fL2))])) ++ (zpl cI Wn Hn r gS' gA gD)) → va_S A s.heap Hq locs → lv_has ls 20 [(0, .ref (c 0)), (1, .ref (a 15)), (2, .ref qL2), (3, .int v3), (4, .int v4), (5, .int v5), (6, .int v6), (7, .int v7)] → W p l e rmX5_isSame s m args below meth c0 Hq locs kc ks Q (F0 m 70 ls [])) , 257 ≤ nK70 → 1657 ≤ nS70 → ∀ (fL2 : RowI) (v3 : Int32) (v4 : Int32) (v5 : Int32) (v6 : Int32) (v7 : Int32) (v8 : Int32) (v9 : Int32) (v11 : Int32) (s0 : Int32) (s1 : Int32) (gS' : RowR), mX5_isSame_549 N st co ro cA cD su wI hI Wn Hn gA gD K70 fL2 v3 v4 v5 v6 v7 v8 v9 v11 s0 s1 gS' = some o → ∀ (qL2 : Nat) (jA' : JT) (jD' : JT), ∀ (kc ks : Nat), kc + (nK70) ≤ 9767 → ks + (nS70) ≤ 62975 → ∀ (Hq : Heap) (locs : List Loc) (ls : Array Slot), va_P D vwCl ((xw a cI cJ ho ke hc tr fo fr st co ro cA cD su jA' jD' ++ (z4 c cM wI hI Hn r ++ [(qL2, .inl (cI, 9, .inl fL2))])) ++ (zpl cI Wn Hn r gS' gA gD)) Hq → va_D A ((xw a cI cJ ho ke hc tr fo fr st co ro cA cD su jA' jD' ++ (z4 c cM wI hI Hn r ++ [(qL2, .inl (cI, 9, .inl fL2))])) ++ (zpl cI Wn Hn r gS' gA gD)) → va_S A s.heap Hq locs → lv_has ls 20 [(0, .ref (c 0)), (1, .ref (a 15)), (2, .ref qL2), (3, .int v3), (4, .int v4), (5, .int v5), (6, .int v6), (7, .int v7), (8, .int v8), (9, .int v9), (11, .int v11)] → W p l e rmX5_isSame s m args below meth c0 Hq locs kc ks Q (F0 m 549 ls [.int s0, .int s1, .ref qL2]) := by
  have c550 := kX5_isSame_c550 (p := p) (l := l) (D := D) (cI := cI) (cJ := cJ) (cB := cB) (cM := cM) (hlt := hlt) (N := N) (a := a) (c := c) (r := r) (ho := ho) (ke := ke) (hc := hc) (tr := tr) (fo := fo) (fr := fr) (st := st) (co := co) (ro := ro) (cA := cA) (cD := cD) (su := su) (jA := jA) (jD := jD) (wI := wI) (hI := hI) (Wn := Wn) (Hn := Hn) (gS := gS) (gA := gA) (gD := gD) (o := o) (sz := sz) (e := e) (s := s) (m := m) (args := args) (below := below) (meth := meth) (c0 := c0) (Q := Q) (A := A) (hQ := hQ) (hAe := hAe) (hx := hx) (hb := hb) (hr := hr) (hml := hml) (hown := hown) (hts := hts) (hlocks := hlocks) (hTX := hTX) (hN := hN) (hK := hK) (hA := hA) (iX5 := iX5) (f13 := f13) (f18 := f18) (f7 := f7)
  intro K70 nK70 nS70 hK70 hp0 hp1 fL2 v3 v4 v5 v6 v7 v8 v9 v11 s0 s1 gS' hM qL2 jA' jD' kc ks hkc hks Hq locs ls hP hD hS hl
  rw [mX5_isSame_549] at hM
  refine lv_iconst (v := 0) hx hb dX5_isSame_549 (by decide) ?_
  exact c550 K70 nK70 nS70 hK70 (by omega) (by omega) fL2 v3 v4 v5 v6 v7 v8 v9 v11 (0 : Int32) s0 s1 gS' hM qL2 jA' jD' kc ks (by omega) (by omega) Hq locs ls hP hD hS (lv_sub hl [0, 1, 2, 3, 4, 5, 6, 7, 8, 9, 10] rfl)
set_option maxHeartbeats 4000000 in
set_option maxRecDepth 100000 in
theorem kX5_isSame_c520 {p : Program} {l : Launch} {D : va_G} {cI cJ cB cM : ClassId} (hlt : l.stackTraces = false) (N : Nat) (a : Nat → Nat) (c : Nat → Nat) (r : Nat → Nat → Nat) {ho : RowI} {ke : RowI} {hc : Int32} {tr : Int32} {fo : Int32} {fr : Int32} {st : RowI} {co : Int32} {ro : Int32} {cA : CS} {cD : CS} {su : RowJ} {jA : JT} {jD : JT} {wI : Int32} {hI : Int32} {Wn : Nat} {Hn : Nat} {gS : RowR} {gA : RowR} {gD : RowR} {o : (Int32 × RowR)} (sz : Nat) {e : Env} {s : State} {m : MethodId} {args : Array Value} {below : List Frame} {meth : Method} {c0 : Code} {Q : State → Prop} {A : Nat → Prop} (hQ : Q = MQD lw_cs below (va_Qi (fun (r0 : Int32) (u : JT × JT) => r0 = o.1 ∧ bz r0) (aft D ((xw a cI cJ ho ke hc tr fo fr st co ro cA cD su jA jD ++ (z4 c cM wI hI Hn r)) ++ (zpl cI Wn Hn r gS gA gD)) sz (fun (u : JT × JT) => ((xw a cI cJ ho ke hc tr fo fr st co ro cA cD su u.1 u.2 ++ (z4 c cM wI hI Hn r)) ++ (zpl cI Wn Hn r o.2 gA gD)))) (va_A ((xw a cI cJ ho ke hc tr fo fr st co ro cA cD su jA jD ++ (z4 c cM wI hI Hn r)) ++ (zpl cI Wn Hn r gS gA gD)) sz)) args s 9767 62975 (va_A ((xw a cI cJ ho ke hc tr fo fr st co ro cA cD su jA jD ++ (z4 c cM wI hI Hn r)) ++ (zpl cI Wn Hn r gS gA gD)) sz)) (hAe : A = (va_A ((xw a cI cJ ho ke hc tr fo fr st co ro cA cD su jA jD ++ (z4 c cM wI hI Hn r)) ++ (zpl cI Wn Hn r gS gA gD)) sz)) (hx : p.tables.exec = Jvm.exec) (hb : c0.code = cX5_isSame) (hr : meth.sig.returnType = (some .boolean)) (hml : c0.maxLocals = 20) (hown : s.vm.findClass RX5 = some m.cls) (hts : ∀ w ∈ wsX5_isSame, w.before args s = true) (hlocks : meth.locks = false) (hTX : TX A s s.heap) (hN : NZ s) (hK : va_K D vwCl (tysZ cI cJ cB cM) s) (hA : ∀ q : Nat, s.heap.size ≤ q → A q) (iX5 : ∀ w ∈ wsX50, w ∈ wsX5_isSame) (f13 : (Cond.fieldLink RX5 13 "CryptSumsLaw$Sim" "h" "I").before args s = true) (f18 : (Cond.fieldLink RX5 18 "CryptSumsLaw$Sim" "stones" "[[I").before args s = true) (f7 : (Cond.fieldLink RX5 7 "CryptSumsLaw$Sim" "w" "I").before args s = true) : ∀ (K70 : RowI → Int32 → Int32 → Int32 → Int32 → Int32 → RowR → Option (Int32 × RowR)) (nK70 nS70 : Nat) (hK70 : ∀ (fL2 : RowI) (v3 : Int32) (v4 : Int32) (v5 : Int32) (v6 : Int32) (v7 : Int32) (gS' : RowR), K70 fL2 v3 v4 v5 v6 v7 gS' = some o → ∀ (qL2 : Nat) (jA' : JT) (jD' : JT), ∀ (kc ks : Nat), kc + (nK70) ≤ 9767 → ks + (nS70) ≤ 62975 → ∀ (Hq : Heap) (locs : List Loc) (ls : Array Slot), va_P D vwCl ((xw a cI cJ ho ke hc tr fo fr st co ro cA cD su jA' jD' ++ (z4 c cM wI hI Hn r ++ [(qL2, .inl (cI, 9, .inl fL2))])) ++ (zpl cI Wn Hn r gS' gA gD)) Hq → va_D A ((xw a cI cJ ho ke hc tr fo fr st co ro cA cD su jA' jD' ++ (z4 c cM wI hI Hn r ++ [(qL2, .inl (cI, 9, .inl fL2))])) ++ (zpl cI Wn Hn r gS' gA gD)) → va_S A s.heap Hq locs → lv_has ls 20 [(0, .ref (c 0)), (1, .ref (a 15)), (2, .ref qL2), (3, .int v3), (4, .int v4), (5, .int v5), (6, .int v6), (7, .int v7)] → W p l e rmX5_isSame s m args below meth c0 Hq locs kc ks Q (F0 m 70 ls [])) , 257 ≤ nK70 → 1657 ≤ nS70 → ∀ (fL2 : RowI) (v3 : Int32) (v4 : Int32) (v5 : Int32) (v6 : Int32) (v7 : Int32) (v8 : Int32) (v9 : Int32) (v11 : Int32) (s0 : Int32) (s1 : Int32) (s2 : Int32) (gS' : RowR), mX5_isSame_520 N st co ro cA cD su wI hI Wn Hn gA gD K70 fL2 v3 v4 v5 v6 v7 v8 v9 v11 s0 s1 s2 gS' = some o → ∀ (qL2 : Nat) (jA' : JT) (jD' : JT), ∀ (kc ks : Nat), kc + (nK70) ≤ 9767 → ks + (nS70) ≤ 62975 → ∀ (Hq : Heap) (locs : List Loc) (ls : Array Slot), va_P D vwCl ((xw a cI cJ ho ke hc tr fo fr st co ro cA cD su jA' jD' ++ (z4 c cM wI hI Hn r ++ [(qL2, .inl (cI, 9, .inl fL2))])) ++ (zpl cI Wn Hn r gS' gA gD)) Hq → va_D A ((xw a cI cJ ho ke hc tr fo fr st co ro cA cD su jA' jD' ++ (z4 c cM wI hI Hn r ++ [(qL2, .inl (cI, 9, .inl fL2))])) ++ (zpl cI Wn Hn r gS' gA gD)) → va_S A s.heap Hq locs → lv_has ls 20 [(0, .ref (c 0)), (1, .ref (a 15)), (2, .ref qL2), (3, .int v3), (4, .int v4), (5, .int v5), (6, .int v6), (7, .int v7), (8, .int v8), (9, .int v9), (11, .int v11)] → W p l e rmX5_isSame s m args below meth c0 Hq locs kc ks Q (F0 m 520 ls [.int s0, .int s1, .int s2, .ref qL2]) := by
  have c550 := kX5_isSame_c550 (p := p) (l := l) (D := D) (cI := cI) (cJ := cJ) (cB := cB) (cM := cM) (hlt := hlt) (N := N) (a := a) (c := c) (r := r) (ho := ho) (ke := ke) (hc := hc) (tr := tr) (fo := fo) (fr := fr) (st := st) (co := co) (ro := ro) (cA := cA) (cD := cD) (su := su) (jA := jA) (jD := jD) (wI := wI) (hI := hI) (Wn := Wn) (Hn := Hn) (gS := gS) (gA := gA) (gD := gD) (o := o) (sz := sz) (e := e) (s := s) (m := m) (args := args) (below := below) (meth := meth) (c0 := c0) (Q := Q) (A := A) (hQ := hQ) (hAe := hAe) (hx := hx) (hb := hb) (hr := hr) (hml := hml) (hown := hown) (hts := hts) (hlocks := hlocks) (hTX := hTX) (hN := hN) (hK := hK) (hA := hA) (iX5 := iX5) (f13 := f13) (f18 := f18) (f7 := f7)
  have c549 := kX5_isSame_c549 (p := p) (l := l) (D := D) (cI := cI) (cJ := cJ) (cB := cB) (cM := cM) (hlt := hlt) (N := N) (a := a) (c := c) (r := r) (ho := ho) (ke := ke) (hc := hc) (tr := tr) (fo := fo) (fr := fr) (st := st) (co := co) (ro := ro) (cA := cA) (cD := cD) (su := su) (jA := jA) (jD := jD) (wI := wI) (hI := hI) (Wn := Wn) (Hn := Hn) (gS := gS) (gA := gA) (gD := gD) (o := o) (sz := sz) (e := e) (s := s) (m := m) (args := args) (below := below) (meth := meth) (c0 := c0) (Q := Q) (A := A) (hQ := hQ) (hAe := hAe) (hx := hx) (hb := hb) (hr := hr) (hml := hml) (hown := hown) (hts := hts) (hlocks := hlocks) (hTX := hTX) (hN := hN) (hK := hK) (hA := hA) (iX5 := iX5) (f13 := f13) (f18 := f18) (f7 := f7)
  intro K70 nK70 nS70 hK70 hp0 hp1 fL2 v3 v4 v5 v6 v7 v8 v9 v11 s0 s1 s2 gS' hM qL2 jA' jD' kc ks hkc hks Hq locs ls hP hD hS hl
  rw [mX5_isSame_520] at hM
  refine lv_iadd hx hb dX5_isSame_520 ?_
  obtain ⟨hb521, hM⟩ := it_x hM
  refine va_iast (D := D) hx hb hK hP hD hS 20 0 rfl rfl hb521 dX5_isSame_521 (fun Hq locs hP hD hS => ?_)
  replace hP : va_P D vwCl ((xw a cI cJ ho ke hc tr fo fr st co ro cA cD su jA' jD' ++ (z4 c cM wI hI Hn r ++ [(qL2, .inl (cI, 9, .inl (upd fL2 s2.toNatClampNeg (s1 + s0))))])) ++ (zpl cI Wn Hn r gS' gA gD)) Hq := hP
  replace hD : va_D A ((xw a cI cJ ho ke hc tr fo fr st co ro cA cD su jA' jD' ++ (z4 c cM wI hI Hn r ++ [(qL2, .inl (cI, 9, .inl (upd fL2 s2.toNatClampNeg (s1 + s0))))])) ++ (zpl cI Wn Hn r gS' gA gD)) := hD
  refine lv_aload_n hx hb dX5_isSame_522 rfl (lv_at hl 2 rfl) ?_
  refine lv_bipush (v := 8) hx hb dX5_isSame_523 (by decide) ?_
  refine lv_dup2_11 hx hb dX5_isSame_525 rfl rfl ?_
  obtain ⟨hb526, hM⟩ := it_x hM
  refine va_iald (D := D) hx hb hK hP 20 0 rfl rfl hb526 dX5_isSame_526 ?_
  refine lv_aload_n hx hb dX5_isSame_527 rfl (lv_at hl 0 rfl) ?_
  refine va_get (D := D) (ci := 5) (v := .ref (c 1)) (C := RX5) (T := TX5) (N := 8) hx hb hts iX5 hown hK hP 16 rfl rfl 2 (by decide) f18 (fun _ h9 => h9) rfl dX5_isSame_528 ?_
  refine lv_iload hx hb dX5_isSame_531 (lv_at hl 9 rfl) ?_
  obtain ⟨hb533, hM⟩ := it_x hM
  refine z_aald (D := D) hx hb hK hP 17 rfl hb533 dX5_isSame_533 ?_
  refine lv_iload hx hb dX5_isSame_534 (lv_at hl 8 rfl) ?_
  obtain ⟨hb536, hM⟩ := it_x hM
  refine va_iald (D := D) hx hb hK hP _ 0 (row0 (xw a cI cJ ho ke hc tr fo fr st co ro cA cD su jA' jD' ++ (z4 c cM wI hI Hn r ++ [(qL2, .inl (cI, 9, .inl (upd fL2 s2.toNatClampNeg (s1 + s0))))])) (lt_in hb533)) rfl hb536 dX5_isSame_536 ?_
  refine lv_if_ne (tgt := 549) hx hb dX5_isSame_537 (by decide) (fun hcc => ?_) (fun hcc => ?_)
  · replace hM := it_n hcc hM
    exact c549 K70 nK70 nS70 hK70 (by omega) (by omega) (upd fL2 s2.toNatClampNeg (s1 + s0)) v3 v4 v5 v6 v7 v8 v9 v11 ((upd fL2 s2.toNatClampNeg (s1 + s0)) (8 : Int32).toNatClampNeg) (8 : Int32) gS' hM qL2 jA' jD' kc ks (by omega) (by omega) Hq locs ls hP hD hS (lv_sub hl [0, 1, 2, 3, 4, 5, 6, 7, 8, 9, 10] rfl)
  · replace hM := it_p hcc hM
    refine lv_iload hx hb dX5_isSame_540 (lv_at hl 10 rfl) ?_
    refine lv_if_ne (tgt := 549) hx hb dX5_isSame_542 (by decide) (fun hcc => ?_) (fun hcc => ?_)
    · replace hM := it_n hcc hM
      exact c549 K70 nK70 nS70 hK70 (by omega) (by omega) (upd fL2 s2.toNatClampNeg (s1 + s0)) v3 v4 v5 v6 v7 v8 v9 v11 ((upd fL2 s2.toNatClampNeg (s1 + s0)) (8 : Int32).toNatClampNeg) (8 : Int32) gS' hM qL2 jA' jD' kc ks (by omega) (by omega) Hq locs ls hP hD hS (lv_sub hl [0, 1, 2, 3, 4, 5, 6, 7, 8, 9, 10] rfl)
    · replace hM := it_p hcc hM
      refine lv_iconst (v := 1) hx hb dX5_isSame_545 (by decide) ?_
      refine lv_goto (tgt := 550) hx hb dX5_isSame_546 (by decide) ?_
      exact c550 K70 nK70 nS70 hK70 (by omega) (by omega) (upd fL2 s2.toNatClampNeg (s1 + s0)) v3 v4 v5 v6 v7 v8 v9 v11 (1 : Int32) ((upd fL2 s2.toNatClampNeg (s1 + s0)) (8 : Int32).toNatClampNeg) (8 : Int32) gS' hM qL2 jA' jD' kc ks (by omega) (by omega) Hq locs ls hP hD hS (lv_sub hl [0, 1, 2, 3, 4, 5, 6, 7, 8, 9, 10] rfl)
set_option maxHeartbeats 4000000 in
set_option maxRecDepth 100000 in
theorem kX5_isSame_c502 {p : Program} {l : Launch} {D : va_G} {cI cJ cB cM : ClassId} (hlt : l.stackTraces = false) (N : Nat) (a : Nat → Nat) (c : Nat → Nat) (r : Nat → Nat → Nat) {ho : RowI} {ke : RowI} {hc : Int32} {tr : Int32} {fo : Int32} {fr : Int32} {st : RowI} {co : Int32} {ro : Int32} {cA : CS} {cD : CS} {su : RowJ} {jA : JT} {jD : JT} {wI : Int32} {hI : Int32} {Wn : Nat} {Hn : Nat} {gS : RowR} {gA : RowR} {gD : RowR} {o : (Int32 × RowR)} (sz : Nat) {e : Env} {s : State} {m : MethodId} {args : Array Value} {below : List Frame} {meth : Method} {c0 : Code} {Q : State → Prop} {A : Nat → Prop} (hQ : Q = MQD lw_cs below (va_Qi (fun (r0 : Int32) (u : JT × JT) => r0 = o.1 ∧ bz r0) (aft D ((xw a cI cJ ho ke hc tr fo fr st co ro cA cD su jA jD ++ (z4 c cM wI hI Hn r)) ++ (zpl cI Wn Hn r gS gA gD)) sz (fun (u : JT × JT) => ((xw a cI cJ ho ke hc tr fo fr st co ro cA cD su u.1 u.2 ++ (z4 c cM wI hI Hn r)) ++ (zpl cI Wn Hn r o.2 gA gD)))) (va_A ((xw a cI cJ ho ke hc tr fo fr st co ro cA cD su jA jD ++ (z4 c cM wI hI Hn r)) ++ (zpl cI Wn Hn r gS gA gD)) sz)) args s 9767 62975 (va_A ((xw a cI cJ ho ke hc tr fo fr st co ro cA cD su jA jD ++ (z4 c cM wI hI Hn r)) ++ (zpl cI Wn Hn r gS gA gD)) sz)) (hAe : A = (va_A ((xw a cI cJ ho ke hc tr fo fr st co ro cA cD su jA jD ++ (z4 c cM wI hI Hn r)) ++ (zpl cI Wn Hn r gS gA gD)) sz)) (hx : p.tables.exec = Jvm.exec) (hb : c0.code = cX5_isSame) (hr : meth.sig.returnType = (some .boolean)) (hml : c0.maxLocals = 20) (hown : s.vm.findClass RX5 = some m.cls) (hts : ∀ w ∈ wsX5_isSame, w.before args s = true) (hlocks : meth.locks = false) (hTX : TX A s s.heap) (hN : NZ s) (hK : va_K D vwCl (tysZ cI cJ cB cM) s) (hA : ∀ q : Nat, s.heap.size ≤ q → A q) (iX5 : ∀ w ∈ wsX50, w ∈ wsX5_isSame) (f13 : (Cond.fieldLink RX5 13 "CryptSumsLaw$Sim" "h" "I").before args s = true) (f18 : (Cond.fieldLink RX5 18 "CryptSumsLaw$Sim" "stones" "[[I").before args s = true) (f7 : (Cond.fieldLink RX5 7 "CryptSumsLaw$Sim" "w" "I").before args s = true) : ∀ (K70 : RowI → Int32 → Int32 → Int32 → Int32 → Int32 → RowR → Option (Int32 × RowR)) (nK70 nS70 : Nat) (hK70 : ∀ (fL2 : RowI) (v3 : Int32) (v4 : Int32) (v5 : Int32) (v6 : Int32) (v7 : Int32) (gS' : RowR), K70 fL2 v3 v4 v5 v6 v7 gS' = some o → ∀ (qL2 : Nat) (jA' : JT) (jD' : JT), ∀ (kc ks : Nat), kc + (nK70) ≤ 9767 → ks + (nS70) ≤ 62975 → ∀ (Hq : Heap) (locs : List Loc) (ls : Array Slot), va_P D vwCl ((xw a cI cJ ho ke hc tr fo fr st co ro cA cD su jA' jD' ++ (z4 c cM wI hI Hn r ++ [(qL2, .inl (cI, 9, .inl fL2))])) ++ (zpl cI Wn Hn r gS' gA gD)) Hq → va_D A ((xw a cI cJ ho ke hc tr fo fr st co ro cA cD su jA' jD' ++ (z4 c cM wI hI Hn r ++ [(qL2, .inl (cI, 9, .inl fL2))])) ++ (zpl cI Wn Hn r gS' gA gD)) → va_S A s.heap Hq locs → lv_has ls 20 [(0, .ref (c 0)), (1, .ref (a 15)), (2, .ref qL2), (3, .int v3), (4, .int v4), (5, .int v5), (6, .int v6), (7, .int v7)] → W p l e rmX5_isSame s m args below meth c0 Hq locs kc ks Q (F0 m 70 ls [])) , 257 ≤ nK70 → 1657 ≤ nS70 → ∀ (fL2 : RowI) (v3 : Int32) (v4 : Int32) (v5 : Int32) (v6 : Int32) (v7 : Int32) (v8 : Int32) (v9 : Int32) (v11 : Int32) (s0 : Int32) (s1 : Int32) (s2 : Int32) (gS' : RowR), mX5_isSame_502 N st co ro cA cD su wI hI Wn Hn gA gD K70 fL2 v3 v4 v5 v6 v7 v8 v9 v11 s0 s1 s2 gS' = some o → ∀ (qL2 : Nat) (jA' : JT) (jD' : JT), ∀ (kc ks : Nat), kc + (nK70) ≤ 9767 → ks + (nS70) ≤ 62975 → ∀ (Hq : Heap) (locs : List Loc) (ls : Array Slot), va_P D vwCl ((xw a cI cJ ho ke hc tr fo fr st co ro cA cD su jA' jD' ++ (z4 c cM wI hI Hn r ++ [(qL2, .inl (cI, 9, .inl fL2))])) ++ (zpl cI Wn Hn r gS' gA gD)) Hq → va_D A ((xw a cI cJ ho ke hc tr fo fr st co ro cA cD su jA' jD' ++ (z4 c cM wI hI Hn r ++ [(qL2, .inl (cI, 9, .inl fL2))])) ++ (zpl cI Wn Hn r gS' gA gD)) → va_S A s.heap Hq locs → lv_has ls 20 [(0, .ref (c 0)), (1, .ref (a 15)), (2, .ref qL2), (3, .int v3), (4, .int v4), (5, .int v5), (6, .int v6), (7, .int v7), (8, .int v8), (9, .int v9), (11, .int v11)] → W p l e rmX5_isSame s m args below meth c0 Hq locs kc ks Q (F0 m 502 ls [.int s0, .int s1, .int s2, .ref qL2]) := by
  have c520 := kX5_isSame_c520 (p := p) (l := l) (D := D) (cI := cI) (cJ := cJ) (cB := cB) (cM := cM) (hlt := hlt) (N := N) (a := a) (c := c) (r := r) (ho := ho) (ke := ke) (hc := hc) (tr := tr) (fo := fo) (fr := fr) (st := st) (co := co) (ro := ro) (cA := cA) (cD := cD) (su := su) (jA := jA) (jD := jD) (wI := wI) (hI := hI) (Wn := Wn) (Hn := Hn) (gS := gS) (gA := gA) (gD := gD) (o := o) (sz := sz) (e := e) (s := s) (m := m) (args := args) (below := below) (meth := meth) (c0 := c0) (Q := Q) (A := A) (hQ := hQ) (hAe := hAe) (hx := hx) (hb := hb) (hr := hr) (hml := hml) (hown := hown) (hts := hts) (hlocks := hlocks) (hTX := hTX) (hN := hN) (hK := hK) (hA := hA) (iX5 := iX5) (f13 := f13) (f18 := f18) (f7 := f7)
  intro K70 nK70 nS70 hK70 hp0 hp1 fL2 v3 v4 v5 v6 v7 v8 v9 v11 s0 s1 s2 gS' hM qL2 jA' jD' kc ks hkc hks Hq locs ls hP hD hS hl
  rw [mX5_isSame_502] at hM
  refine lv_iadd hx hb dX5_isSame_502 ?_
  obtain ⟨hb503, hM⟩ := it_x hM
  refine va_iast (D := D) hx hb hK hP hD hS 20 0 rfl rfl hb503 dX5_isSame_503 (fun Hq locs hP hD hS => ?_)
  replace hP : va_P D vwCl ((xw a cI cJ ho ke hc tr fo fr st co ro cA cD su jA' jD' ++ (z4 c cM wI hI Hn r ++ [(qL2, .inl (cI, 9, .inl (upd fL2 s2.toNatClampNeg (s1 + s0))))])) ++ (zpl cI Wn Hn r gS' gA gD)) Hq := hP
  replace hD : va_D A ((xw a cI cJ ho ke hc tr fo fr st co ro cA cD su jA' jD' ++ (z4 c cM wI hI Hn r ++ [(qL2, .inl (cI, 9, .inl (upd fL2 s2.toNatClampNeg (s1 + s0))))])) ++ (zpl cI Wn Hn r gS' gA gD)) := hD
  refine lv_aload_n hx hb dX5_isSame_504 rfl (lv_at hl 2 rfl) ?_
  refine lv_bipush (v := 7) hx hb dX5_isSame_505 (by decide) ?_
  refine lv_dup2_11 hx hb dX5_isSame_507 rfl rfl ?_
  obtain ⟨hb508, hM⟩ := it_x hM
  refine va_iald (D := D) hx hb hK hP 20 0 rfl rfl hb508 dX5_isSame_508 ?_
  refine lv_iload hx hb dX5_isSame_509 (lv_at hl 10 rfl) ?_
  refine lv_iconst (v := 1) hx hb dX5_isSame_511 (by decide) ?_
  refine lv_icmp_ne (tgt := 519) hx hb dX5_isSame_512 (by decide) (fun hcc => ?_) (fun hcc => ?_)
  · replace hM := it_n hcc hM
    refine lv_iconst (v := 0) hx hb dX5_isSame_519 (by decide) ?_
    exact c520 K70 nK70 nS70 hK70 (by omega) (by omega) (upd fL2 s2.toNatClampNeg (s1 + s0)) v3 v4 v5 v6 v7 v8 v9 v11 (0 : Int32) ((upd fL2 s2.toNatClampNeg (s1 + s0)) (7 : Int32).toNatClampNeg) (7 : Int32) gS' hM qL2 jA' jD' kc ks (by omega) (by omega) Hq locs ls hP hD hS (lv_sub hl [0, 1, 2, 3, 4, 5, 6, 7, 8, 9, 10] rfl)
  · replace hM := it_p hcc hM
    refine lv_iconst (v := 1) hx hb dX5_isSame_515 (by decide) ?_
    refine lv_goto (tgt := 520) hx hb dX5_isSame_516 (by decide) ?_
    exact c520 K70 nK70 nS70 hK70 (by omega) (by omega) (upd fL2 s2.toNatClampNeg (s1 + s0)) v3 v4 v5 v6 v7 v8 v9 v11 (1 : Int32) ((upd fL2 s2.toNatClampNeg (s1 + s0)) (7 : Int32).toNatClampNeg) (7 : Int32) gS' hM qL2 jA' jD' kc ks (by omega) (by omega) Hq locs ls hP hD hS (lv_sub hl [0, 1, 2, 3, 4, 5, 6, 7, 8, 9, 10] rfl)
set_option maxHeartbeats 4000000 in
set_option maxRecDepth 100000 in
theorem kX5_isSame_c478 {p : Program} {l : Launch} {D : va_G} {cI cJ cB cM : ClassId} (hlt : l.stackTraces = false) (N : Nat) (a : Nat → Nat) (c : Nat → Nat) (r : Nat → Nat → Nat) {ho : RowI} {ke : RowI} {hc : Int32} {tr : Int32} {fo : Int32} {fr : Int32} {st : RowI} {co : Int32} {ro : Int32} {cA : CS} {cD : CS} {su : RowJ} {jA : JT} {jD : JT} {wI : Int32} {hI : Int32} {Wn : Nat} {Hn : Nat} {gS : RowR} {gA : RowR} {gD : RowR} {o : (Int32 × RowR)} (sz : Nat) {e : Env} {s : State} {m : MethodId} {args : Array Value} {below : List Frame} {meth : Method} {c0 : Code} {Q : State → Prop} {A : Nat → Prop} (hQ : Q = MQD lw_cs below (va_Qi (fun (r0 : Int32) (u : JT × JT) => r0 = o.1 ∧ bz r0) (aft D ((xw a cI cJ ho ke hc tr fo fr st co ro cA cD su jA jD ++ (z4 c cM wI hI Hn r)) ++ (zpl cI Wn Hn r gS gA gD)) sz (fun (u : JT × JT) => ((xw a cI cJ ho ke hc tr fo fr st co ro cA cD su u.1 u.2 ++ (z4 c cM wI hI Hn r)) ++ (zpl cI Wn Hn r o.2 gA gD)))) (va_A ((xw a cI cJ ho ke hc tr fo fr st co ro cA cD su jA jD ++ (z4 c cM wI hI Hn r)) ++ (zpl cI Wn Hn r gS gA gD)) sz)) args s 9767 62975 (va_A ((xw a cI cJ ho ke hc tr fo fr st co ro cA cD su jA jD ++ (z4 c cM wI hI Hn r)) ++ (zpl cI Wn Hn r gS gA gD)) sz)) (hAe : A = (va_A ((xw a cI cJ ho ke hc tr fo fr st co ro cA cD su jA jD ++ (z4 c cM wI hI Hn r)) ++ (zpl cI Wn Hn r gS gA gD)) sz)) (hx : p.tables.exec = Jvm.exec) (hb : c0.code = cX5_isSame) (hr : meth.sig.returnType = (some .boolean)) (hml : c0.maxLocals = 20) (hown : s.vm.findClass RX5 = some m.cls) (hts : ∀ w ∈ wsX5_isSame, w.before args s = true) (hlocks : meth.locks = false) (hTX : TX A s s.heap) (hN : NZ s) (hK : va_K D vwCl (tysZ cI cJ cB cM) s) (hA : ∀ q : Nat, s.heap.size ≤ q → A q) (iX5 : ∀ w ∈ wsX50, w ∈ wsX5_isSame) (f13 : (Cond.fieldLink RX5 13 "CryptSumsLaw$Sim" "h" "I").before args s = true) (f18 : (Cond.fieldLink RX5 18 "CryptSumsLaw$Sim" "stones" "[[I").before args s = true) (f7 : (Cond.fieldLink RX5 7 "CryptSumsLaw$Sim" "w" "I").before args s = true) : ∀ (K70 : RowI → Int32 → Int32 → Int32 → Int32 → Int32 → RowR → Option (Int32 × RowR)) (nK70 nS70 : Nat) (hK70 : ∀ (fL2 : RowI) (v3 : Int32) (v4 : Int32) (v5 : Int32) (v6 : Int32) (v7 : Int32) (gS' : RowR), K70 fL2 v3 v4 v5 v6 v7 gS' = some o → ∀ (qL2 : Nat) (jA' : JT) (jD' : JT), ∀ (kc ks : Nat), kc + (nK70) ≤ 9767 → ks + (nS70) ≤ 62975 → ∀ (Hq : Heap) (locs : List Loc) (ls : Array Slot), va_P D vwCl ((xw a cI cJ ho ke hc tr fo fr st co ro cA cD su jA' jD' ++ (z4 c cM wI hI Hn r ++ [(qL2, .inl (cI, 9, .inl fL2))])) ++ (zpl cI Wn Hn r gS' gA gD)) Hq → va_D A ((xw a cI cJ ho ke hc tr fo fr st co ro cA cD su jA' jD' ++ (z4 c cM wI hI Hn r ++ [(qL2, .inl (cI, 9, .inl fL2))])) ++ (zpl cI Wn Hn r gS' gA gD)) → va_S A s.heap Hq locs → lv_has ls 20 [(0, .ref (c 0)), (1, .ref (a 15)), (2, .ref qL2), (3, .int v3), (4, .int v4), (5, .int v5), (6, .int v6), (7, .int v7)] → W p l e rmX5_isSame s m args below meth c0 Hq locs kc ks Q (F0 m 70 ls [])) , 257 ≤ nK70 → 1657 ≤ nS70 → ∀ (fL2 : RowI) (v3 : Int32) (v4 : Int32) (v5 : Int32) (v6 : Int32) (v7 : Int32) (v8 : Int32) (v9 : Int32) (v11 : Int32) (s0 : Int32) (s1 : Int32) (s2 : Int32) (gS' : RowR), mX5_isSame_478 N st co ro cA cD su wI hI Wn Hn gA gD K70 fL2 v3 v4 v5 v6 v7 v8 v9 v11 s0 s1 s2 gS' = some o → ∀ (qL2 : Nat) (jA' : JT) (jD' : JT), ∀ (kc ks : Nat), kc + (nK70) ≤ 9767 → ks + (nS70) ≤ 62975 → ∀ (Hq : Heap) (locs : List Loc) (ls : Array Slot), va_P D vwCl ((xw a cI cJ ho ke hc tr fo fr st co ro cA cD su jA' jD' ++ (z4 c cM wI hI Hn r ++ [(qL2, .inl (cI, 9, .inl fL2))])) ++ (zpl cI Wn Hn r gS' gA gD)) Hq → va_D A ((xw a cI cJ ho ke hc tr fo fr st co ro cA cD su jA' jD' ++ (z4 c cM wI hI Hn r ++ [(qL2, .inl (cI, 9, .inl fL2))])) ++ (zpl cI Wn Hn r gS' gA gD)) → va_S A s.heap Hq locs → lv_has ls 20 [(0, .ref (c 0)), (1, .ref (a 15)), (2, .ref qL2), (3, .int v3), (4, .int v4), (5, .int v5), (6, .int v6), (7, .int v7), (8, .int v8), (9, .int v9), (11, .int v11)] → W p l e rmX5_isSame s m args below meth c0 Hq locs kc ks Q (F0 m 478 ls [.int s0, .int s1, .int s2, .ref qL2]) := by
  have c502 := kX5_isSame_c502 (p := p) (l := l) (D := D) (cI := cI) (cJ := cJ) (cB := cB) (cM := cM) (hlt := hlt) (N := N) (a := a) (c := c) (r := r) (ho := ho) (ke := ke) (hc := hc) (tr := tr) (fo := fo) (fr := fr) (st := st) (co := co) (ro := ro) (cA := cA) (cD := cD) (su := su) (jA := jA) (jD := jD) (wI := wI) (hI := hI) (Wn := Wn) (Hn := Hn) (gS := gS) (gA := gA) (gD := gD) (o := o) (sz := sz) (e := e) (s := s) (m := m) (args := args) (below := below) (meth := meth) (c0 := c0) (Q := Q) (A := A) (hQ := hQ) (hAe := hAe) (hx := hx) (hb := hb) (hr := hr) (hml := hml) (hown := hown) (hts := hts) (hlocks := hlocks) (hTX := hTX) (hN := hN) (hK := hK) (hA := hA) (iX5 := iX5) (f13 := f13) (f18 := f18) (f7 := f7)
  intro K70 nK70 nS70 hK70 hp0 hp1 fL2 v3 v4 v5 v6 v7 v8 v9 v11 s0 s1 s2 gS' hM qL2 jA' jD' kc ks hkc hks Hq locs ls hP hD hS hl
  rw [mX5_isSame_478] at hM
  refine lv_iadd hx hb dX5_isSame_478 ?_
  obtain ⟨hb479, hM⟩ := it_x hM
  refine va_iast (D := D) hx hb hK hP hD hS 20 0 rfl rfl hb479 dX5_isSame_479 (fun Hq locs hP hD hS => ?_)
  replace hP : va_P D vwCl ((xw a cI cJ ho ke hc tr fo fr st co ro cA cD su jA' jD' ++ (z4 c cM wI hI Hn r ++ [(qL2, .inl (cI, 9, .inl (upd fL2 s2.toNatClampNeg (s1 + s0))))])) ++ (zpl cI Wn Hn r gS' gA gD)) Hq := hP
  replace hD : va_D A ((xw a cI cJ ho ke hc tr fo fr st co ro cA cD su jA' jD' ++ (z4 c cM wI hI Hn r ++ [(qL2, .inl (cI, 9, .inl (upd fL2 s2.toNatClampNeg (s1 + s0))))])) ++ (zpl cI Wn Hn r gS' gA gD)) := hD
  refine lv_aload_n hx hb dX5_isSame_480 rfl (lv_at hl 2 rfl) ?_
  refine lv_iconst (v := 3) hx hb dX5_isSame_481 (by decide) ?_
  refine lv_dup2_11 hx hb dX5_isSame_482 rfl rfl ?_
  obtain ⟨hb483, hM⟩ := it_x hM
  refine va_iald (D := D) hx hb hK hP 20 0 rfl rfl hb483 dX5_isSame_483 ?_
  refine lv_aload_n hx hb dX5_isSame_484 rfl (lv_at hl 0 rfl) ?_
  refine va_get (D := D) (ci := 5) (v := .ref (c 1)) (C := RX5) (T := TX5) (N := 8) hx hb hts iX5 hown hK hP 16 rfl rfl 2 (by decide) f18 (fun _ h9 => h9) rfl dX5_isSame_485 ?_
  refine lv_iload hx hb dX5_isSame_488 (lv_at hl 9 rfl) ?_
  obtain ⟨hb490, hM⟩ := it_x hM
  refine z_aald (D := D) hx hb hK hP 17 rfl hb490 dX5_isSame_490 ?_
  refine lv_iload hx hb dX5_isSame_491 (lv_at hl 8 rfl) ?_
  obtain ⟨hb493, hM⟩ := it_x hM
  refine va_iald (D := D) hx hb hK hP _ 0 (row0 (xw a cI cJ ho ke hc tr fo fr st co ro cA cD su jA' jD' ++ (z4 c cM wI hI Hn r ++ [(qL2, .inl (cI, 9, .inl (upd fL2 s2.toNatClampNeg (s1 + s0))))])) (lt_in hb490)) rfl hb493 dX5_isSame_493 ?_
  refine lv_if_le (tgt := 501) hx hb dX5_isSame_494 (by decide) (fun hcc => ?_) (fun hcc => ?_)
  · replace hM := it_p hcc hM
    refine lv_iconst (v := 0) hx hb dX5_isSame_501 (by decide) ?_
    exact c502 K70 nK70 nS70 hK70 (by omega) (by omega) (upd fL2 s2.toNatClampNeg (s1 + s0)) v3 v4 v5 v6 v7 v8 v9 v11 (0 : Int32) ((upd fL2 s2.toNatClampNeg (s1 + s0)) (3 : Int32).toNatClampNeg) (3 : Int32) gS' hM qL2 jA' jD' kc ks (by omega) (by omega) Hq locs ls hP hD hS (lv_sub hl [0, 1, 2, 3, 4, 5, 6, 7, 8, 9, 10] rfl)
  · replace hM := it_n hcc hM
    refine lv_iconst (v := 1) hx hb dX5_isSame_497 (by decide) ?_
    refine lv_goto (tgt := 502) hx hb dX5_isSame_498 (by decide) ?_
    exact c502 K70 nK70 nS70 hK70 (by omega) (by omega) (upd fL2 s2.toNatClampNeg (s1 + s0)) v3 v4 v5 v6 v7 v8 v9 v11 (1 : Int32) ((upd fL2 s2.toNatClampNeg (s1 + s0)) (3 : Int32).toNatClampNeg) (3 : Int32) gS' hM qL2 jA' jD' kc ks (by omega) (by omega) Hq locs ls hP hD hS (lv_sub hl [0, 1, 2, 3, 4, 5, 6, 7, 8, 9, 10] rfl)
set_option maxHeartbeats 4000000 in
set_option maxRecDepth 100000 in
theorem kX5_isSame_c387 {p : Program} {l : Launch} {D : va_G} {cI cJ cB cM : ClassId} (hlt : l.stackTraces = false) (N : Nat) (a : Nat → Nat) (c : Nat → Nat) (r : Nat → Nat → Nat) {ho : RowI} {ke : RowI} {hc : Int32} {tr : Int32} {fo : Int32} {fr : Int32} {st : RowI} {co : Int32} {ro : Int32} {cA : CS} {cD : CS} {su : RowJ} {jA : JT} {jD : JT} {wI : Int32} {hI : Int32} {Wn : Nat} {Hn : Nat} {gS : RowR} {gA : RowR} {gD : RowR} {o : (Int32 × RowR)} (sz : Nat) {e : Env} {s : State} {m : MethodId} {args : Array Value} {below : List Frame} {meth : Method} {c0 : Code} {Q : State → Prop} {A : Nat → Prop} (hQ : Q = MQD lw_cs below (va_Qi (fun (r0 : Int32) (u : JT × JT) => r0 = o.1 ∧ bz r0) (aft D ((xw a cI cJ ho ke hc tr fo fr st co ro cA cD su jA jD ++ (z4 c cM wI hI Hn r)) ++ (zpl cI Wn Hn r gS gA gD)) sz (fun (u : JT × JT) => ((xw a cI cJ ho ke hc tr fo fr st co ro cA cD su u.1 u.2 ++ (z4 c cM wI hI Hn r)) ++ (zpl cI Wn Hn r o.2 gA gD)))) (va_A ((xw a cI cJ ho ke hc tr fo fr st co ro cA cD su jA jD ++ (z4 c cM wI hI Hn r)) ++ (zpl cI Wn Hn r gS gA gD)) sz)) args s 9767 62975 (va_A ((xw a cI cJ ho ke hc tr fo fr st co ro cA cD su jA jD ++ (z4 c cM wI hI Hn r)) ++ (zpl cI Wn Hn r gS gA gD)) sz)) (hAe : A = (va_A ((xw a cI cJ ho ke hc tr fo fr st co ro cA cD su jA jD ++ (z4 c cM wI hI Hn r)) ++ (zpl cI Wn Hn r gS gA gD)) sz)) (hx : p.tables.exec = Jvm.exec) (hb : c0.code = cX5_isSame) (hr : meth.sig.returnType = (some .boolean)) (hml : c0.maxLocals = 20) (hown : s.vm.findClass RX5 = some m.cls) (hts : ∀ w ∈ wsX5_isSame, w.before args s = true) (hlocks : meth.locks = false) (hTX : TX A s s.heap) (hN : NZ s) (hK : va_K D vwCl (tysZ cI cJ cB cM) s) (hA : ∀ q : Nat, s.heap.size ≤ q → A q) (iX5 : ∀ w ∈ wsX50, w ∈ wsX5_isSame) (f13 : (Cond.fieldLink RX5 13 "CryptSumsLaw$Sim" "h" "I").before args s = true) (f18 : (Cond.fieldLink RX5 18 "CryptSumsLaw$Sim" "stones" "[[I").before args s = true) (f7 : (Cond.fieldLink RX5 7 "CryptSumsLaw$Sim" "w" "I").before args s = true) : ∀ (K70 : RowI → Int32 → Int32 → Int32 → Int32 → Int32 → RowR → Option (Int32 × RowR)) (nK70 nS70 : Nat) (hK70 : ∀ (fL2 : RowI) (v3 : Int32) (v4 : Int32) (v5 : Int32) (v6 : Int32) (v7 : Int32) (gS' : RowR), K70 fL2 v3 v4 v5 v6 v7 gS' = some o → ∀ (qL2 : Nat) (jA' : JT) (jD' : JT), ∀ (kc ks : Nat), kc + (nK70) ≤ 9767 → ks + (nS70) ≤ 62975 → ∀ (Hq : Heap) (locs : List Loc) (ls : Array Slot), va_P D vwCl ((xw a cI cJ ho ke hc tr fo fr st co ro cA cD su jA' jD' ++ (z4 c cM wI hI Hn r ++ [(qL2, .inl (cI, 9, .inl fL2))])) ++ (zpl cI Wn Hn r gS' gA gD)) Hq → va_D A ((xw a cI cJ ho ke hc tr fo fr st co ro cA cD su jA' jD' ++ (z4 c cM wI hI Hn r ++ [(qL2, .inl (cI, 9, .inl fL2))])) ++ (zpl cI Wn Hn r gS' gA gD)) → va_S A s.heap Hq locs → lv_has ls 20 [(0, .ref (c 0)), (1, .ref (a 15)), (2, .ref qL2), (3, .int v3), (4, .int v4), (5, .int v5), (6, .int v6), (7, .int v7)] → W p l e rmX5_isSame s m args below meth c0 Hq locs kc ks Q (F0 m 70 ls [])) (K126 : RowI → Int32 → Int32 → Int32 → Int32 → Int32 → Int32 → Int32 → Int32 → RowR → Option (Int32 × RowR)) (nK126 nS126 : Nat) (hK126 : ∀ (fL2 : RowI) (v3 : Int32) (v4 : Int32) (v5 : Int32) (v6 : Int32) (v7 : Int32) (v8 : Int32) (v9 : Int32) (v10 : Int32) (gS' : RowR), K126 fL2 v3 v4 v5 v6 v7 v8 v9 v10 gS' = some o → ∀ (qL2 : Nat) (jA' : JT) (jD' : JT), ∀ (kc ks : Nat), kc + (nK126) ≤ 9767 → ks + (nS126) ≤ 62975 → ∀ (Hq : Heap) (locs : List Loc) (ls : Array Slot), va_P D vwCl ((xw a cI cJ ho ke hc tr fo fr st co ro cA cD su jA' jD' ++ (z4 c cM wI hI Hn r ++ [(qL2, .inl (cI, 9, .inl fL2))])) ++ (zpl cI Wn Hn r gS' gA gD)) Hq → va_D A ((xw a cI cJ ho ke hc tr fo fr st co ro cA cD su jA' jD' ++ (z4 c cM wI hI Hn r ++ [(qL2, .inl (cI, 9, .inl fL2))])) ++ (zpl cI Wn Hn r gS' gA gD)) → va_S A s.heap Hq locs → lv_has ls 20 [(0, .ref (c 0)), (1, .ref (a 15)), (2, .ref qL2), (3, .int v3), (4, .int v4), (5, .int v5), (6, .int v6), (7, .int v7), (8, .int v8), (9, .int v9), (10, .int v10)] → W p l e rmX5_isSame s m args below meth c0 Hq locs kc ks Q (F0 m 126 ls [])) , 257 ≤ nK70 → 1657 ≤ nS70 → 181 + nK70 ≤ nK126 → 1186 + nS70 ≤ nS126 → 181 ≤ nK126 → 1186 ≤ nS126 → ∀ (n : Nat), ∀ (fL12 : RowI) (fL2 : RowI) (v3 : Int32) (v4 : Int32) (v5 : Int32) (v6 : Int32) (v7 : Int32) (v8 : Int32) (v9 : Int32) (v10 : Int32) (v11 : Int32) (v13 : Int32) (gS' : RowR), mX5_isSame_387 N st co ro cA cD su wI hI Wn Hn gA gD K70 K126 n fL12 fL2 v3 v4 v5 v6 v7 v8 v9 v10 v11 v13 gS' = some o → ∀ (qL12 : Nat) (qL2 : Nat) (jA' : JT) (jD' : JT), ∀ (kc ks : Nat), kc + (n * 2 + nK126) ≤ 9767 → ks + (n * 12 + nS126) ≤ 62975 → ∀ (Hq : Heap) (locs : List Loc) (ls : Array Slot), va_P D vwCl ((xw a cI cJ ho ke hc tr fo fr st co ro cA cD su jA' jD' ++ (z4 c cM wI hI Hn r ++ [(qL12, .inl (cI, 6, .inl fL12)), (qL2, .inl (cI, 9, .inl fL2))])) ++ (zpl cI Wn Hn r gS' gA gD)) Hq → va_D A ((xw a cI cJ ho ke hc tr fo fr st co ro cA cD su jA' jD' ++ (z4 c cM wI hI Hn r ++ [(qL12, .inl (cI, 6, .inl fL12)), (qL2, .inl (cI, 9, .inl fL2))])) ++ (zpl cI Wn Hn r gS' gA gD)) → va_S A s.heap Hq locs → lv_has ls 20 [(0, .ref (c 0)), (1, .ref (a 15)), (2, .ref qL2), (3, .int v3), (4, .int v4), (5, .int v5), (6, .int v6), (7, .int v7), (8, .int v8), (9, .int v9), (10, .int v10), (11, .int v11), (12, .ref qL12), (13, .int v13)] → W p l e rmX5_isSame s m args below meth c0 Hq locs kc ks Q (F0 m 387 ls []) := by
  intro K70 nK70 nS70 hK70 K126 nK126 nS126 hK126 hp0 hp1 hp2 hp3 hp4 hp5 n
  induction n with
  | zero =>
    intro fL12 fL2 v3 v4 v5 v6 v7 v8 v9 v10 v11 v13 gS' hM
    rw [mX5_isSame_387] at hM
    cases hM
  | succ n ih =>
    intro fL12 fL2 v3 v4 v5 v6 v7 v8 v9 v10 v11 v13 gS' hM qL12 qL2 jA' jD' kc ks hkc hks Hq locs ls hP hD hS hl
    rw [mX5_isSame_387] at hM
    refine lv_iload hx hb dX5_isSame_387 (lv_at hl 13 rfl) ?_
    refine lv_bipush (v := 6) hx hb dX5_isSame_389 (by decide) ?_
    refine lv_icmp_ge (tgt := 420) hx hb dX5_isSame_391 (by decide) (fun hcc => ?_) (fun hcc => ?_)
    · replace hM := it_p hcc hM
      refine lv_iinc (v := (v10 + 1)) (lv' := [(10, .int (v10 + 1)), (0, .ref (c 0)), (1, .ref (a 15)), (2, .ref qL2), (3, .int v3), (4, .int v4), (5, .int v5), (6, .int v6), (7, .int v7), (8, .int v8), (9, .int v9), (11, .int v11), (12, .ref qL12), (13, .int v13)]) hx hb dX5_isSame_420 hl (k := 10) rfl (by rfl) (by decide) rfl (fun ls hl => ?_)
      refine lv_goto (tgt := 126) hx hb dX5_isSame_423 (by decide) ?_
      replace hP := va_P.part (cx := (xw a cI cJ ho ke hc tr fo fr st co ro cA cD su jA' jD' ++ (z4 c cM wI hI Hn r ++ [(qL2, .inl (cI, 9, .inl fL2))]))) hP [0, 1, 2, 3, 4, 5, 6, 7, 8, 9, 10, 11, 12, 13, 14, 15, 16, 17, 18, 19, 21] rfl
      replace hD := va_D.part (cx := (xw a cI cJ ho ke hc tr fo fr st co ro cA cD su jA' jD' ++ (z4 c cM wI hI Hn r ++ [(qL2, .inl (cI, 9, .inl fL2))]))) hD [0, 1, 2, 3, 4, 5, 6, 7, 8, 9, 10, 11, 12, 13, 14, 15, 16, 17, 18, 19, 21] (by decide) rfl
      exact hK126 fL2 v3 v4 v5 v6 v7 v8 v9 (v10 + 1) gS' hM qL2 jA' jD' kc ks (by omega) (by omega) Hq locs ls hP hD hS (lv_sub hl [1, 2, 3, 4, 5, 6, 7, 8, 9, 10, 0] rfl)
    · replace hM := it_n hcc hM
      refine lv_aload_n hx hb dX5_isSame_394 rfl (lv_at hl 1 rfl) ?_
      refine lv_iload hx hb dX5_isSame_395 (lv_at hl 7 rfl) ?_
      refine lv_iload hx hb dX5_isSame_397 (lv_at hl 11 rfl) ?_
      refine lv_iload hx hb dX5_isSame_399 (lv_at hl 13 rfl) ?_
      obtain ⟨x401, hC, hM⟩ := bd_s hM
      refine cTQ_i [0, 1, 2, 3, 4, 5, 6, 7, 8, 9, 10, 11, 12, 13, 14, 15] [16, 17, 18, 19, 20, 21] (vx_runV (As := [.int v7, .int v11, .int v13]) (rest := []) ⟨hx, hb, hml, hown, hts⟩ (kX4_corridor (l := l) (D := D) (cI := cI) (cJ := cJ) hlt N a (ho := ho) (ke := ke) (hc := hc) (tr := tr) (fo := fo) (fr := fr) (st := st) (co := co) (ro := ro) (cA := cA) (cD := cD) (su := su) (jA := jA') (jD := jD') (p1 := v7) (p2 := v11) (p3 := v13) hC Hq.size) (cwV 3 hts gX5_isSame_X4_corridor rfl rfl rfl (by decide +kernel) ⟨Nat.le_of_ble_eq_true rfl, Nat.le_of_ble_eq_true rfl⟩) (preVT [.int v7, .int v11, .int v13] hTX hS (freeQ (cx := (xw a cI cJ ho ke hc tr fo fr st co ro cA cD su jA' jD')) hD hS hA [0, 1, 2, 3, 4, 5, 6, 7, 8, 9, 10, 11, 12, 13, 14, 15] rfl) hN.1 (KX hK) (subQ (cx := (xw a cI cJ ho ke hc tr fo fr st co ro cA cD su jA' jD')) hP [0, 1, 2, 3, 4, 5, 6, 7, 8, 9, 10, 11, 12, 13, 14, 15] rfl) (subQD (cx := (xw a cI cJ ho ke hc tr fo fr st co ro cA cD su jA' jD')) hD [0, 1, 2, 3, 4, 5, 6, 7, 8, 9, 10, 11, 12, 13, 14, 15] (by decide) rfl) (ci := 4) (q0 := 3) rfl rfl) rfl rfl hl.1 rfl (lv_room (Nat.le_of_ble_eq_true rfl)) dX5_isSame_401 ⟨by show _ + 2 ≤ 9767; omega, by show _ + 12 ≤ 62975; omega⟩) hP hD hS hA rfl (wr := (z4 c cM wI hI Hn r ++ [(qL12, .inl (cI, 6, .inl fL12)), (qL2, .inl (cI, 9, .inl fL2))])) rfl (by decide) (by decide) (fun E ce q9 Hq locs hE hP hD hS h1 h2 h3 => ?_) (fun r0 u401 Hq locs hw hP hD hS => ?_)
      · obtain ⟨k, hk, hE⟩ := hE
        subst hk
        cases hM
      obtain ⟨hxx, hw⟩ := hw
      subst hxx
      dsimp only [Sum.elim] at hM
      replace hP : va_P D vwCl ((xw a cI cJ ho ke hc tr fo fr st co ro cA cD su u401.2.1 u401.2.2 ++ (z4 c cM wI hI Hn r ++ [(qL12, .inl (cI, 6, .inl fL12)), (qL2, .inl (cI, 9, .inl fL2))])) ++ (zpl cI Wn Hn r gS' gA gD)) Hq := va_P.part (cx := (xw a cI cJ ho ke hc tr fo fr st co ro cA cD su u401.2.1 u401.2.2 ++ (z4 c cM wI hI Hn r ++ [(qL12, .inl (cI, 6, .inl fL12)), (qL2, .inl (cI, 9, .inl fL2))]))) (pl := (zpl cI Wn Hn r gS' gA gD)) hP [6, 7, 8, 9, 10, 11, 12, 13, 14, 15, 16, 17, 18, 19, 20, 21, 0, 1, 2, 3, 4, 5] rfl
      replace hD : va_D A ((xw a cI cJ ho ke hc tr fo fr st co ro cA cD su u401.2.1 u401.2.2 ++ (z4 c cM wI hI Hn r ++ [(qL12, .inl (cI, 6, .inl fL12)), (qL2, .inl (cI, 9, .inl fL2))])) ++ (zpl cI Wn Hn r gS' gA gD)) := va_D.part (cx := (xw a cI cJ ho ke hc tr fo fr st co ro cA cD su u401.2.1 u401.2.2 ++ (z4 c cM wI hI Hn r ++ [(qL12, .inl (cI, 6, .inl fL12)), (qL2, .inl (cI, 9, .inl fL2))]))) (pl := (zpl cI Wn Hn r gS' gA gD)) hD [6, 7, 8, 9, 10, 11, 12, 13, 14, 15, 16, 17, 18, 19, 20, 21, 0, 1, 2, 3, 4, 5] (by decide) rfl
      rw [hw]
      refine W.widen (k := kc + 2) (n := ks + 12) (by omega) (by omega) ?_
      refine lv_aload hx hb dX5_isSame_404 (lv_at hl 12 rfl) ?_
      refine lv_iload hx hb dX5_isSame_406 (lv_at hl 13 rfl) ?_
      obtain ⟨hb408, hM⟩ := it_x hM
      refine va_iald (D := D) hx hb hK hP 20 0 rfl rfl hb408 dX5_isSame_408 ?_
      refine lv_icmp_eq (tgt := 414) hx hb dX5_isSame_409 (by decide) (fun hcc => ?_) (fun hcc => ?_)
      · replace hM := it_p hcc hM
        refine lv_iinc (v := (v13 + 1)) (lv' := [(13, .int (v13 + 1)), (0, .ref (c 0)), (1, .ref (a 15)), (2, .ref qL2), (3, .int v3), (4, .int v4), (5, .int v5), (6, .int v6), (7, .int v7), (8, .int v8), (9, .int v9), (10, .int v10), (11, .int v11), (12, .ref qL12)]) hx hb dX5_isSame_414 hl (k := 13) rfl (by rfl) (by decide) rfl (fun ls hl => ?_)
        refine lv_goto (tgt := 387) hx hb dX5_isSame_417 (by decide) ?_
        exact ih fL12 fL2 v3 v4 v5 v6 v7 v8 v9 v10 v11 (v13 + 1) gS' hM qL12 qL2 u401.2.1 u401.2.2 (kc + 2) (ks + 12) (by omega) (by omega) Hq locs ls hP hD hS (lv_sub hl [1, 2, 3, 4, 5, 6, 7, 8, 9, 10, 11, 12, 13, 0] rfl)
      · replace hM := it_n hcc hM
        refine lv_iconst (v := 0) hx hb dX5_isSame_412 (by decide) ?_
        obtain rfl := Option.some.inj hM
        replace hP := va_P.part (cx := (xw a cI cJ ho ke hc tr fo fr st co ro cA cD su u401.2.1 u401.2.2 ++ (z4 c cM wI hI Hn r))) hP [0, 1, 2, 3, 4, 5, 6, 7, 8, 9, 10, 11, 12, 13, 14, 15, 16, 17, 18, 19] rfl
        replace hD := va_D.part (cx := (xw a cI cJ ho ke hc tr fo fr st co ro cA cD su u401.2.1 u401.2.2 ++ (z4 c cM wI hI Hn r))) hD [0, 1, 2, 3, 4, 5, 6, 7, 8, 9, 10, 11, 12, 13, 14, 15, 16, 17, 18, 19] (by decide) rfl
        refine W.widen (k := 9767) (n := 62975) (by omega) (by omega) ?_
        subst hQ hAe
        refine W.base ?_
        refine W.endD (Drawn.sameBut.refl s.drawn lw_cs) ?_
        exact W.zret (ty := .boolean) (v := (0 : Int32)) hx hb hr (nb_z (Or.inl rfl)) (fun t ht hW => ⟨⟨(0 : Int32), (u401.2.1, u401.2.2), rfl, ⟨rfl, Or.inl rfl⟩, ⟨by rw [ht]; exact hP, hD⟩⟩, hS.F ht⟩) hS.2.2 dX5_isSame_413
set_option maxHeartbeats 4000000 in
set_option maxRecDepth 100000 in
theorem kX5_isSame_c365 {p : Program} {l : Launch} {D : va_G} {cI cJ cB cM : ClassId} (hlt : l.stackTraces = false) (N : Nat) (a : Nat → Nat) (c : Nat → Nat) (r : Nat → Nat → Nat) {ho : RowI} {ke : RowI} {hc : Int32} {tr : Int32} {fo : Int32} {fr : Int32} {st : RowI} {co : Int32} {ro : Int32} {cA : CS} {cD : CS} {su : RowJ} {jA : JT} {jD : JT} {wI : Int32} {hI : Int32} {Wn : Nat} {Hn : Nat} {gS : RowR} {gA : RowR} {gD : RowR} {o : (Int32 × RowR)} (sz : Nat) {e : Env} {s : State} {m : MethodId} {args : Array Value} {below : List Frame} {meth : Method} {c0 : Code} {Q : State → Prop} {A : Nat → Prop} (hQ : Q = MQD lw_cs below (va_Qi (fun (r0 : Int32) (u : JT × JT) => r0 = o.1 ∧ bz r0) (aft D ((xw a cI cJ ho ke hc tr fo fr st co ro cA cD su jA jD ++ (z4 c cM wI hI Hn r)) ++ (zpl cI Wn Hn r gS gA gD)) sz (fun (u : JT × JT) => ((xw a cI cJ ho ke hc tr fo fr st co ro cA cD su u.1 u.2 ++ (z4 c cM wI hI Hn r)) ++ (zpl cI Wn Hn r o.2 gA gD)))) (va_A ((xw a cI cJ ho ke hc tr fo fr st co ro cA cD su jA jD ++ (z4 c cM wI hI Hn r)) ++ (zpl cI Wn Hn r gS gA gD)) sz)) args s 9767 62975 (va_A ((xw a cI cJ ho ke hc tr fo fr st co ro cA cD su jA jD ++ (z4 c cM wI hI Hn r)) ++ (zpl cI Wn Hn r gS gA gD)) sz)) (hAe : A = (va_A ((xw a cI cJ ho ke hc tr fo fr st co ro cA cD su jA jD ++ (z4 c cM wI hI Hn r)) ++ (zpl cI Wn Hn r gS gA gD)) sz)) (hx : p.tables.exec = Jvm.exec) (hb : c0.code = cX5_isSame) (hr : meth.sig.returnType = (some .boolean)) (hml : c0.maxLocals = 20) (hown : s.vm.findClass RX5 = some m.cls) (hts : ∀ w ∈ wsX5_isSame, w.before args s = true) (hlocks : meth.locks = false) (hTX : TX A s s.heap) (hN : NZ s) (hK : va_K D vwCl (tysZ cI cJ cB cM) s) (hA : ∀ q : Nat, s.heap.size ≤ q → A q) (iX5 : ∀ w ∈ wsX50, w ∈ wsX5_isSame) (f13 : (Cond.fieldLink RX5 13 "CryptSumsLaw$Sim" "h" "I").before args s = true) (f18 : (Cond.fieldLink RX5 18 "CryptSumsLaw$Sim" "stones" "[[I").before args s = true) (f7 : (Cond.fieldLink RX5 7 "CryptSumsLaw$Sim" "w" "I").before args s = true) : ∀ (K70 : RowI → Int32 → Int32 → Int32 → Int32 → Int32 → RowR → Option (Int32 × RowR)) (nK70 nS70 : Nat) (hK70 : ∀ (fL2 : RowI) (v3 : Int32) (v4 : Int32) (v5 : Int32) (v6 : Int32) (v7 : Int32) (gS' : RowR), K70 fL2 v3 v4 v5 v6 v7 gS' = some o → ∀ (qL2 : Nat) (jA' : JT) (jD' : JT), ∀ (kc ks : Nat), kc + (nK70) ≤ 9767 → ks + (nS70) ≤ 62975 → ∀ (Hq : Heap) (locs : List Loc) (ls : Array Slot), va_P D vwCl ((xw a cI cJ ho ke hc tr fo fr st co ro cA cD su jA' jD' ++ (z4 c cM wI hI Hn r ++ [(qL2, .inl (cI, 9, .inl fL2))])) ++ (zpl cI Wn Hn r gS' gA gD)) Hq → va_D A ((xw a cI cJ ho ke hc tr fo fr st co ro cA cD su jA' jD' ++ (z4 c cM wI hI Hn r ++ [(qL2, .inl (cI, 9, .inl fL2))])) ++ (zpl cI Wn Hn r gS' gA gD)) → va_S A s.heap Hq locs → lv_has ls 20 [(0, .ref (c 0)), (1, .ref (a 15)), (2, .ref qL2), (3, .int v3), (4, .int v4), (5, .int v5), (6, .int v6), (7, .int v7)] → W p l e rmX5_isSame s m args below meth c0 Hq locs kc ks Q (F0 m 70 ls [])) (K126 : RowI → Int32 → Int32 → Int32 → Int32 → Int32 → Int32 → Int32 → Int32 → RowR → Option (Int32 × RowR)) (nK126 nS126 : Nat) (hK126 : ∀ (fL2 : RowI) (v3 : Int32) (v4 : Int32) (v5 : Int32) (v6 : Int32) (v7 : Int32) (v8 : Int32) (v9 : Int32) (v10 : Int32) (gS' : RowR), K126 fL2 v3 v4 v5 v6 v7 v8 v9 v10 gS' = some o → ∀ (qL2 : Nat) (jA' : JT) (jD' : JT), ∀ (kc ks : Nat), kc + (nK126) ≤ 9767 → ks + (nS126) ≤ 62975 → ∀ (Hq : Heap) (locs : List Loc) (ls : Array Slot), va_P D vwCl ((xw a cI cJ ho ke hc tr fo fr st co ro cA cD su jA' jD' ++ (z4 c cM wI hI Hn r ++ [(qL2, .inl (cI, 9, .inl fL2))])) ++ (zpl cI Wn Hn r gS' gA gD)) Hq → va_D A ((xw a cI cJ ho ke hc tr fo fr st co ro cA cD su jA' jD' ++ (z4 c cM wI hI Hn r ++ [(qL2, .inl (cI, 9, .inl fL2))])) ++ (zpl cI Wn Hn r gS' gA gD)) → va_S A s.heap Hq locs → lv_has ls 20 [(0, .ref (c 0)), (1, .ref (a 15)), (2, .ref qL2), (3, .int v3), (4, .int v4), (5, .int v5), (6, .int v6), (7, .int v7), (8, .int v8), (9, .int v9), (10, .int v10)] → W p l e rmX5_isSame s m args below meth c0 Hq locs kc ks Q (F0 m 126 ls [])) , 257 ≤ nK70 → 1657 ≤ nS70 → 181 + nK70 ≤ nK126 → 1186 + nS70 ≤ nS126 → 181 ≤ nK126 → 1186 ≤ nS126 → ∀ (fL12 : RowI) (fL2 : RowI) (v3 : Int32) (v4 : Int32) (v5 : Int32) (v6 : Int32) (v7 : Int32) (v8 : Int32) (v9 : Int32) (v10 : Int32) (v11 : Int32) (v16 : Int32) (s0 : Int32) (s1 : Int32) (s2 : Int32) (gS' : RowR), mX5_isSame_365 N st co ro cA cD su wI hI Wn Hn gA gD K70 K126 fL12 fL2 v3 v4 v5 v6 v7 v8 v9 v10 v11 v16 s0 s1 s2 gS' = some o → ∀ (qL12 : Nat) (qL2 : Nat) (jA' : JT) (jD' : JT), ∀ (kc ks : Nat), kc + (14 + nK126) ≤ 9767 → ks + (84 + nS126) ≤ 62975 → ∀ (Hq : Heap) (locs : List Loc) (ls : Array Slot), va_P D vwCl ((xw a cI cJ ho ke hc tr fo fr st co ro cA cD su jA' jD' ++ (z4 c cM wI hI Hn r ++ [(qL12, .inl (cI, 6, .inl fL12)), (qL2, .inl (cI, 9, .inl fL2))])) ++ (zpl cI Wn Hn r gS' gA gD)) Hq → va_D A ((xw a cI cJ ho ke hc tr fo fr st co ro cA cD su jA' jD' ++ (z4 c cM wI hI Hn r ++ [(qL12, .inl (cI, 6, .inl fL12)), (qL2, .inl (cI, 9, .inl fL2))])) ++ (zpl cI Wn Hn r gS' gA gD)) → va_S A s.heap Hq locs → lv_has ls 20 [(0, .ref (c 0)), (1, .ref (a 15)), (2, .ref qL2), (3, .int v3), (4, .int v4), (5, .int v5), (6, .int v6), (7, .int v7), (8, .int v8), (9, .int v9), (10, .int v10), (11, .int v11), (12, .ref qL12), (16, .int v16)] → W p l e rmX5_isSame s m args below meth c0 Hq locs kc ks Q (F0 m 365 ls [.int s0, .int s1, .int s2, .ref qL2]) := by
  have c387 := kX5_isSame_c387 (p := p) (l := l) (D := D) (cI := cI) (cJ := cJ) (cB := cB) (cM := cM) (hlt := hlt) (N := N) (a := a) (c := c) (r := r) (ho := ho) (ke := ke) (hc := hc) (tr := tr) (fo := fo) (fr := fr) (st := st) (co := co) (ro := ro) (cA := cA) (cD := cD) (su := su) (jA := jA) (jD := jD) (wI := wI) (hI := hI) (Wn := Wn) (Hn := Hn) (gS := gS) (gA := gA) (gD := gD) (o := o) (sz := sz) (e := e) (s := s) (m := m) (args := args) (below := below) (meth := meth) (c0 := c0) (Q := Q) (A := A) (hQ := hQ) (hAe := hAe) (hx := hx) (hb := hb) (hr := hr) (hml := hml) (hown := hown) (hts := hts) (hlocks := hlocks) (hTX := hTX) (hN := hN) (hK := hK) (hA := hA) (iX5 := iX5) (f13 := f13) (f18 := f18) (f7 := f7)
  intro K70 nK70 nS70 hK70 K126 nK126 nS126 hK126 hp0 hp1 hp2 hp3 hp4 hp5 fL12 fL2 v3 v4 v5 v6 v7 v8 v9 v10 v11 v16 s0 s1 s2 gS' hM qL12 qL2 jA' jD' kc ks hkc hks Hq locs ls hP hD hS hl
  rw [mX5_isSame_365] at hM
  refine lv_iadd hx hb dX5_isSame_365 ?_
  obtain ⟨hb366, hM⟩ := it_x hM
  refine va_iast (D := D) hx hb hK hP hD hS 21 0 rfl rfl hb366 dX5_isSame_366 (fun Hq locs hP hD hS => ?_)
  replace hP : va_P D vwCl ((xw a cI cJ ho ke hc tr fo fr st co ro cA cD su jA' jD' ++ (z4 c cM wI hI Hn r ++ [(qL12, .inl (cI, 6, .inl fL12)), (qL2, .inl (cI, 9, .inl (upd fL2 s2.toNatClampNeg (s1 + s0))))])) ++ (zpl cI Wn Hn r gS' gA gD)) Hq := hP
  replace hD : va_D A ((xw a cI cJ ho ke hc tr fo fr st co ro cA cD su jA' jD' ++ (z4 c cM wI hI Hn r ++ [(qL12, .inl (cI, 6, .inl fL12)), (qL2, .inl (cI, 9, .inl (upd fL2 s2.toNatClampNeg (s1 + s0))))])) ++ (zpl cI Wn Hn r gS' gA gD)) := hD
  refine lv_aload_n hx hb dX5_isSame_367 rfl (lv_at hl 2 rfl) ?_
  refine lv_bipush (v := 6) hx hb dX5_isSame_368 (by decide) ?_
  refine lv_dup2_11 hx hb dX5_isSame_370 rfl rfl ?_
  obtain ⟨hb371, hM⟩ := it_x hM
  refine va_iald (D := D) hx hb hK hP 21 0 rfl rfl hb371 dX5_isSame_371 ?_
  refine lv_iload hx hb dX5_isSame_372 (lv_at hl 13 rfl) ?_
  refine lv_if_eq (tgt := 381) hx hb dX5_isSame_374 (by decide) (fun hcc => ?_) (fun hcc => ?_)
  · replace hM := it_p hcc hM
    refine lv_iconst (v := 0) hx hb dX5_isSame_381 (by decide) ?_
    refine lv_iadd hx hb dX5_isSame_382 ?_
    obtain ⟨hb383, hM⟩ := it_x hM
    refine va_iast (D := D) hx hb hK hP hD hS 21 0 rfl rfl hb383 dX5_isSame_383 (fun Hq locs hP hD hS => ?_)
    replace hP : va_P D vwCl ((xw a cI cJ ho ke hc tr fo fr st co ro cA cD su jA' jD' ++ (z4 c cM wI hI Hn r ++ [(qL12, .inl (cI, 6, .inl fL12)), (qL2, .inl (cI, 9, .inl (upd (upd fL2 s2.toNatClampNeg (s1 + s0)) (6 : Int32).toNatClampNeg (((upd fL2 s2.toNatClampNeg (s1 + s0)) (6 : Int32).toNatClampNeg) + (0 : Int32)))))])) ++ (zpl cI Wn Hn r gS' gA gD)) Hq := hP
    replace hD : va_D A ((xw a cI cJ ho ke hc tr fo fr st co ro cA cD su jA' jD' ++ (z4 c cM wI hI Hn r ++ [(qL12, .inl (cI, 6, .inl fL12)), (qL2, .inl (cI, 9, .inl (upd (upd fL2 s2.toNatClampNeg (s1 + s0)) (6 : Int32).toNatClampNeg (((upd fL2 s2.toNatClampNeg (s1 + s0)) (6 : Int32).toNatClampNeg) + (0 : Int32)))))])) ++ (zpl cI Wn Hn r gS' gA gD)) := hD
    refine lv_iconst (v := 0) hx hb dX5_isSame_384 (by decide) ?_
    refine lv_istore (lv' := [(13, .int (0 : Int32)), (0, .ref (c 0)), (1, .ref (a 15)), (2, .ref qL2), (3, .int v3), (4, .int v4), (5, .int v5), (6, .int v6), (7, .int v7), (8, .int v8), (9, .int v9), (10, .int v10), (11, .int v11), (12, .ref qL12), (16, .int v16)]) hx hb dX5_isSame_385 hl (by decide) rfl (fun ls hl => ?_)
    exact c387 K70 nK70 nS70 hK70 K126 nK126 nS126 hK126 (by omega) (by omega) (by omega) (by omega) (by omega) (by omega) 7 fL12 (upd (upd fL2 s2.toNatClampNeg (s1 + s0)) (6 : Int32).toNatClampNeg (((upd fL2 s2.toNatClampNeg (s1 + s0)) (6 : Int32).toNatClampNeg) + (0 : Int32))) v3 v4 v5 v6 v7 v8 v9 v10 v11 (0 : Int32) gS' hM qL12 qL2 jA' jD' kc ks (by omega) (by omega) Hq locs ls hP hD hS (lv_sub hl [1, 2, 3, 4, 5, 6, 7, 8, 9, 10, 11, 12, 13, 0] rfl)
  · replace hM := it_n hcc hM
    refine lv_iconst (v := 1) hx hb dX5_isSame_377 (by decide) ?_
    refine lv_goto (tgt := 382) hx hb dX5_isSame_378 (by decide) ?_
    refine lv_iadd hx hb dX5_isSame_382 ?_
    obtain ⟨hb383, hM⟩ := it_x hM
    refine va_iast (D := D) hx hb hK hP hD hS 21 0 rfl rfl hb383 dX5_isSame_383 (fun Hq locs hP hD hS => ?_)
    replace hP : va_P D vwCl ((xw a cI cJ ho ke hc tr fo fr st co ro cA cD su jA' jD' ++ (z4 c cM wI hI Hn r ++ [(qL12, .inl (cI, 6, .inl fL12)), (qL2, .inl (cI, 9, .inl (upd (upd fL2 s2.toNatClampNeg (s1 + s0)) (6 : Int32).toNatClampNeg (((upd fL2 s2.toNatClampNeg (s1 + s0)) (6 : Int32).toNatClampNeg) + (1 : Int32)))))])) ++ (zpl cI Wn Hn r gS' gA gD)) Hq := hP
    replace hD : va_D A ((xw a cI cJ ho ke hc tr fo fr st co ro cA cD su jA' jD' ++ (z4 c cM wI hI Hn r ++ [(qL12, .inl (cI, 6, .inl fL12)), (qL2, .inl (cI, 9, .inl (upd (upd fL2 s2.toNatClampNeg (s1 + s0)) (6 : Int32).toNatClampNeg (((upd fL2 s2.toNatClampNeg (s1 + s0)) (6 : Int32).toNatClampNeg) + (1 : Int32)))))])) ++ (zpl cI Wn Hn r gS' gA gD)) := hD
    refine lv_iconst (v := 0) hx hb dX5_isSame_384 (by decide) ?_
    refine lv_istore (lv' := [(13, .int (0 : Int32)), (0, .ref (c 0)), (1, .ref (a 15)), (2, .ref qL2), (3, .int v3), (4, .int v4), (5, .int v5), (6, .int v6), (7, .int v7), (8, .int v8), (9, .int v9), (10, .int v10), (11, .int v11), (12, .ref qL12), (16, .int v16)]) hx hb dX5_isSame_385 hl (by decide) rfl (fun ls hl => ?_)
    exact c387 K70 nK70 nS70 hK70 K126 nK126 nS126 hK126 (by omega) (by omega) (by omega) (by omega) (by omega) (by omega) 7 fL12 (upd (upd fL2 s2.toNatClampNeg (s1 + s0)) (6 : Int32).toNatClampNeg (((upd fL2 s2.toNatClampNeg (s1 + s0)) (6 : Int32).toNatClampNeg) + (1 : Int32))) v3 v4 v5 v6 v7 v8 v9 v10 v11 (0 : Int32) gS' hM qL12 qL2 jA' jD' kc ks (by omega) (by omega) Hq locs ls hP hD hS (lv_sub hl [1, 2, 3, 4, 5, 6, 7, 8, 9, 10, 11, 12, 13, 0] rfl)
set_option maxHeartbeats 4000000 in
set_option maxRecDepth 100000 in
theorem kX5_isSame_c248 {p : Program} {l : Launch} {D : va_G} {cI cJ cB cM : ClassId} (hlt : l.stackTraces = false) (N : Nat) (a : Nat → Nat) (c : Nat → Nat) (r : Nat → Nat → Nat) {ho : RowI} {ke : RowI} {hc : Int32} {tr : Int32} {fo : Int32} {fr : Int32} {st : RowI} {co : Int32} {ro : Int32} {cA : CS} {cD : CS} {su : RowJ} {jA : JT} {jD : JT} {wI : Int32} {hI : Int32} {Wn : Nat} {Hn : Nat} {gS : RowR} {gA : RowR} {gD : RowR} {o : (Int32 × RowR)} (sz : Nat) {e : Env} {s : State} {m : MethodId} {args : Array Value} {below : List Frame} {meth : Method} {c0 : Code} {Q : State → Prop} {A : Nat → Prop} (hQ : Q = MQD lw_cs below (va_Qi (fun (r0 : Int32) (u : JT × JT) => r0 = o.1 ∧ bz r0) (aft D ((xw a cI cJ ho ke hc tr fo fr st co ro cA cD su jA jD ++ (z4 c cM wI hI Hn r)) ++ (zpl cI Wn Hn r gS gA gD)) sz (fun (u : JT × JT) => ((xw a cI cJ ho ke hc tr fo fr st co ro cA cD su u.1 u.2 ++ (z4 c cM wI hI Hn r)) ++ (zpl cI Wn Hn r o.2 gA gD)))) (va_A ((xw a cI cJ ho ke hc tr fo fr st co ro cA cD su jA jD ++ (z4 c cM wI hI Hn r)) ++ (zpl cI Wn Hn r gS gA gD)) sz)) args s 9767 62975 (va_A ((xw a cI cJ ho ke hc tr fo fr st co ro cA cD su jA jD ++ (z4 c cM wI hI Hn r)) ++ (zpl cI Wn Hn r gS gA gD)) sz)) (hAe : A = (va_A ((xw a cI cJ ho ke hc tr fo fr st co ro cA cD su jA jD ++ (z4 c cM wI hI Hn r)) ++ (zpl cI Wn Hn r gS gA gD)) sz)) (hx : p.tables.exec = Jvm.exec) (hb : c0.code = cX5_isSame) (hr : meth.sig.returnType = (some .boolean)) (hml : c0.maxLocals = 20) (hown : s.vm.findClass RX5 = some m.cls) (hts : ∀ w ∈ wsX5_isSame, w.before args s = true) (hlocks : meth.locks = false) (hTX : TX A s s.heap) (hN : NZ s) (hK : va_K D vwCl (tysZ cI cJ cB cM) s) (hA : ∀ q : Nat, s.heap.size ≤ q → A q) (iX5 : ∀ w ∈ wsX50, w ∈ wsX5_isSame) (f13 : (Cond.fieldLink RX5 13 "CryptSumsLaw$Sim" "h" "I").before args s = true) (f18 : (Cond.fieldLink RX5 18 "CryptSumsLaw$Sim" "stones" "[[I").before args s = true) (f7 : (Cond.fieldLink RX5 7 "CryptSumsLaw$Sim" "w" "I").before args s = true) : ∀ (K70 : RowI → Int32 → Int32 → Int32 → Int32 → Int32 → RowR → Option (Int32 × RowR)) (nK70 nS70 : Nat) (hK70 : ∀ (fL2 : RowI) (v3 : Int32) (v4 : Int32) (v5 : Int32) (v6 : Int32) (v7 : Int32) (gS' : RowR), K70 fL2 v3 v4 v5 v6 v7 gS' = some o → ∀ (qL2 : Nat) (jA' : JT) (jD' : JT), ∀ (kc ks : Nat), kc + (nK70) ≤ 9767 → ks + (nS70) ≤ 62975 → ∀ (Hq : Heap) (locs : List Loc) (ls : Array Slot), va_P D vwCl ((xw a cI cJ ho ke hc tr fo fr st co ro cA cD su jA' jD' ++ (z4 c cM wI hI Hn r ++ [(qL2, .inl (cI, 9, .inl fL2))])) ++ (zpl cI Wn Hn r gS' gA gD)) Hq → va_D A ((xw a cI cJ ho ke hc tr fo fr st co ro cA cD su jA' jD' ++ (z4 c cM wI hI Hn r ++ [(qL2, .inl (cI, 9, .inl fL2))])) ++ (zpl cI Wn Hn r gS' gA gD)) → va_S A s.heap Hq locs → lv_has ls 20 [(0, .ref (c 0)), (1, .ref (a 15)), (2, .ref qL2), (3, .int v3), (4, .int v4), (5, .int v5), (6, .int v6), (7, .int v7)] → W p l e rmX5_isSame s m args below meth c0 Hq locs kc ks Q (F0 m 70 ls [])) (K126 : RowI → Int32 → Int32 → Int32 → Int32 → Int32 → Int32 → Int32 → Int32 → RowR → Option (Int32 × RowR)) (nK126 nS126 : Nat) (hK126 : ∀ (fL2 : RowI) (v3 : Int32) (v4 : Int32) (v5 : Int32) (v6 : Int32) (v7 : Int32) (v8 : Int32) (v9 : Int32) (v10 : Int32) (gS' : RowR), K126 fL2 v3 v4 v5 v6 v7 v8 v9 v10 gS' = some o → ∀ (qL2 : Nat) (jA' : JT) (jD' : JT), ∀ (kc ks : Nat), kc + (nK126) ≤ 9767 → ks + (nS126) ≤ 62975 → ∀ (Hq : Heap) (locs : List Loc) (ls : Array Slot), va_P D vwCl ((xw a cI cJ ho ke hc tr fo fr st co ro cA cD su jA' jD' ++ (z4 c cM wI hI Hn r ++ [(qL2, .inl (cI, 9, .inl fL2))])) ++ (zpl cI Wn Hn r gS' gA gD)) Hq → va_D A ((xw a cI cJ ho ke hc tr fo fr st co ro cA cD su jA' jD' ++ (z4 c cM wI hI Hn r ++ [(qL2, .inl (cI, 9, .inl fL2))])) ++ (zpl cI Wn Hn r gS' gA gD)) → va_S A s.heap Hq locs → lv_has ls 20 [(0, .ref (c 0)), (1, .ref (a 15)), (2, .ref qL2), (3, .int v3), (4, .int v4), (5, .int v5), (6, .int v6), (7, .int v7), (8, .int v8), (9, .int v9), (10, .int v10)] → W p l e rmX5_isSame s m args below meth c0 Hq locs kc ks Q (F0 m 126 ls [])) (K218 : RowI → Nat → RowI → Int32 → Int32 → Int32 → Int32 → Int32 → Int32 → Int32 → Int32 → Int32 → Int32 → Int32 → Int32 → Int32 → RowR → Option (Int32 × RowR)) (nK218 nS218 : Nat) (hK218 : ∀ (fL13 : RowI) (nL13 : Nat) (fL2 : RowI) (v3 : Int32) (v4 : Int32) (v5 : Int32) (v6 : Int32) (v7 : Int32) (v8 : Int32) (v9 : Int32) (v10 : Int32) (v11 : Int32) (v14 : Int32) (v15 : Int32) (v17 : Int32) (v18 : Int32) (gS' : RowR), K218 fL13 nL13 fL2 v3 v4 v5 v6 v7 v8 v9 v10 v11 v14 v15 v17 v18 gS' = some o → ∀ (qL13 : Nat) (qL2 : Nat) (jA' : JT) (jD' : JT), ∀ (kc ks : Nat), kc + (nK218) ≤ 9767 → ks + (nS218) ≤ 62975 → ∀ (Hq : Heap) (locs : List Loc) (ls : Array Slot), va_P D vwCl ((xw a cI cJ ho ke hc tr fo fr st co ro cA cD su jA' jD' ++ (z4 c cM wI hI Hn r ++ [(qL13, .inl (cI, nL13, .inl fL13)), (qL2, .inl (cI, 9, .inl fL2))])) ++ (zpl cI Wn Hn r gS' gA gD)) Hq → va_D A ((xw a cI cJ ho ke hc tr fo fr st co ro cA cD su jA' jD' ++ (z4 c cM wI hI Hn r ++ [(qL13, .inl (cI, nL13, .inl fL13)), (qL2, .inl (cI, 9, .inl fL2))])) ++ (zpl cI Wn Hn r gS' gA gD)) → va_S A s.heap Hq locs → lv_has ls 20 [(0, .ref (c 0)), (1, .ref (a 15)), (2, .ref qL2), (3, .int v3), (4, .int v4), (5, .int v5), (6, .int v6), (7, .int v7), (8, .int v8), (9, .int v9), (10, .int v10), (11, .int v11), (13, .ref qL13), (14, .int v14), (15, .int v15), (16, .ref qL13), (17, .int v17), (18, .int v18)] → W p l e rmX5_isSame s m args below meth c0 Hq locs kc ks Q (F0 m 218 ls [])) , 257 ≤ nK70 → 1657 ≤ nS70 → 181 + nK70 ≤ nK126 → 1186 + nS70 ≤ nS126 → 181 ≤ nK126 → 1186 ≤ nS126 → 16 + nK126 ≤ nK218 → 100 + nS126 ≤ nS218 → 18 ≤ nK218 → 112 ≤ nS218 → ∀ (fL13 : RowI) (nL13 : Nat) (fL2 : RowI) (v3 : Int32) (v4 : Int32) (v5 : Int32) (v6 : Int32) (v7 : Int32) (v8 : Int32) (v9 : Int32) (v10 : Int32) (v11 : Int32) (v15 : Int32) (v17 : Int32) (v18 : Int32) (v19 : Int32) (s0 : Int32) (s1 : Int32) (gS' : RowR), mX5_isSame_248 N st co ro cA cD su wI hI Wn Hn gA gD K70 K126 K218 fL13 nL13 fL2 v3 v4 v5 v6 v7 v8 v9 v10 v11 v15 v17 v18 v19 s0 s1 gS' = some o → ∀ (qL13 : Nat) (qL2 : Nat) (jA' : JT) (jD' : JT), ∀ (kc ks : Nat), kc + (nK218) ≤ 9767 → ks + (nS218) ≤ 62975 → ∀ (Hq : Heap) (locs : List Loc) (ls : Array Slot), va_P D vwCl ((xw a cI cJ ho ke hc tr fo fr st co ro cA cD su jA' jD' ++ (z4 c cM wI hI Hn r ++ [(qL13, .inl (cI, nL13, .inl fL13)), (qL2, .inl (cI, 9, .inl fL2))])) ++ (zpl cI Wn Hn r gS' gA gD)) Hq → va_D A ((xw a cI cJ ho ke hc tr fo fr st co ro cA cD su jA' jD' ++ (z4 c cM wI hI Hn r ++ [(qL13, .inl (cI, nL13, .inl fL13)), (qL2, .inl (cI, 9, .inl fL2))])) ++ (zpl cI Wn Hn r gS' gA gD)) → va_S A s.heap Hq locs → lv_has ls 20 [(0, .ref (c 0)), (1, .ref (a 15)), (2, .ref qL2), (3, .int v3), (4, .int v4), (5, .int v5), (6, .int v6), (7, .int v7), (8, .int v8), (9, .int v9), (10, .int v10), (11, .int v11), (13, .ref qL13), (15, .int v15), (16, .ref qL13), (17, .int v17), (18, .int v18), (19, .int v19)] → W p l e rmX5_isSame s m args below meth c0 Hq locs kc ks Q (F0 m 248 ls [.int s0, .int s1]) := by
  intro K70 nK70 nS70 hK70 K126 nK126 nS126 hK126 K218 nK218 nS218 hK218 hp0 hp1 hp2 hp3 hp4 hp5 hp6 hp7 hp8 hp9 fL13 nL13 fL2 v3 v4 v5 v6 v7 v8 v9 v10 v11 v15 v17 v18 v19 s0 s1 gS' hM qL13 qL2 jA' jD' kc ks hkc hks Hq locs ls hP hD hS hl
  rw [mX5_isSame_248] at hM
  refine lv_iadd hx hb dX5_isSame_248 ?_
  refine lv_istore (lv' := [(14, .int (s1 + s0)), (0, .ref (c 0)), (1, .ref (a 15)), (2, .ref qL2), (3, .int v3), (4, .int v4), (5, .int v5), (6, .int v6), (7, .int v7), (8, .int v8), (9, .int v9), (10, .int v10), (11, .int v11), (13, .ref qL13), (15, .int v15), (16, .ref qL13), (17, .int v17), (18, .int v18), (19, .int v19)]) hx hb dX5_isSame_249 hl (by decide) rfl (fun ls hl => ?_)
  refine lv_iload hx hb dX5_isSame_251 (lv_at hl 14 rfl) ?_
  refine lv_aload_n hx hb dX5_isSame_253 rfl (lv_at hl 1 rfl) ?_
  refine lv_iload hx hb dX5_isSame_254 (lv_at hl 18 rfl) ?_
  obtain ⟨x256, hC, hM⟩ := bd_s hM
  refine cP_i (rx := fun (u : Unit) => (z4 c cM wI hI Hn r)) (pl1 := fun (u : Unit) => (zpl cI Wn Hn r gS' gA gD)) [16, 17, 18, 19] [0, 1, 2, 3, 4, 5, 6, 7, 8, 9, 10, 11, 12, 13, 14, 15, 20, 21] (va_runV (As := [.int v19]) (rest := [.int v15]) ⟨hx, hb, hml, hown, hts⟩ (kX5_at (l := l) (D := D) (cI := cI) (cJ := cJ) (cB := cB) (cM := cM) N c r (wI := wI) (hI := hI) (Wn := Wn) (Hn := Hn) (gS := gS') (gA := gA) (gD := gD) (p1 := v19) hC Hq.size) (cwV 1 hts gX5_isSame_X5_at rfl rfl rfl (by decide +kernel) ⟨Nat.le_of_ble_eq_true rfl, Nat.le_of_ble_eq_true rfl⟩) (preVZ [.int v19] hN hK (va_P.part (cx := (z4 c cM wI hI Hn r)) hP [16, 17, 18, 19] rfl) (va_D.part (cx := (z4 c cM wI hI Hn r)) hD [16, 17, 18, 19] (by decide) rfl) (ci := 5) (q0 := 0) rfl rfl) rfl rfl hl.1 rfl (lv_room (Nat.le_of_ble_eq_true rfl)) dX5_isSame_256 ⟨by show _ + 0 ≤ 9767; omega, by show _ + 0 ≤ 62975; omega⟩) hP hD hS hA rfl (wr := (xw a cI cJ ho ke hc tr fo fr st co ro cA cD su jA' jD' ++ [(qL13, .inl (cI, nL13, .inl fL13)), (qL2, .inl (cI, 9, .inl fL2))])) rfl (by decide) (by decide) (fun r0 u256 Hq locs hw hP hD hS => ?_)
  replace hP : va_P D vwCl ((xw a cI cJ ho ke hc tr fo fr st co ro cA cD su jA' jD' ++ (z4 c cM wI hI Hn r ++ [(qL13, .inl (cI, nL13, .inl fL13)), (qL2, .inl (cI, 9, .inl fL2))])) ++ (zpl cI Wn Hn r gS' gA gD)) Hq := va_P.part (cx := (xw a cI cJ ho ke hc tr fo fr st co ro cA cD su jA' jD' ++ (z4 c cM wI hI Hn r ++ [(qL13, .inl (cI, nL13, .inl fL13)), (qL2, .inl (cI, 9, .inl fL2))]))) (pl := (zpl cI Wn Hn r gS' gA gD)) hP [0, 1, 2, 3, 4, 5, 6, 7, 8, 9, 10, 11, 12, 13, 14, 15, 18, 19, 20, 21, 16, 17] rfl
  replace hD : va_D A ((xw a cI cJ ho ke hc tr fo fr st co ro cA cD su jA' jD' ++ (z4 c cM wI hI Hn r ++ [(qL13, .inl (cI, nL13, .inl fL13)), (qL2, .inl (cI, 9, .inl fL2))])) ++ (zpl cI Wn Hn r gS' gA gD)) := va_D.part (cx := (xw a cI cJ ho ke hc tr fo fr st co ro cA cD su jA' jD' ++ (z4 c cM wI hI Hn r ++ [(qL13, .inl (cI, nL13, .inl fL13)), (qL2, .inl (cI, 9, .inl fL2))]))) (pl := (zpl cI Wn Hn r gS' gA gD)) hD [0, 1, 2, 3, 4, 5, 6, 7, 8, 9, 10, 11, 12, 13, 14, 15, 18, 19, 20, 21, 16, 17] (by decide) rfl
  rw [hw]
  refine lv_iadd hx hb dX5_isSame_259 ?_
  refine lv_istore (lv' := [(15, .int (v15 + x256)), (14, .int (s1 + s0)), (0, .ref (c 0)), (1, .ref (a 15)), (2, .ref qL2), (3, .int v3), (4, .int v4), (5, .int v5), (6, .int v6), (7, .int v7), (8, .int v8), (9, .int v9), (10, .int v10), (11, .int v11), (13, .ref qL13), (16, .ref qL13), (17, .int v17), (18, .int v18), (19, .int v19)]) hx hb dX5_isSame_260 hl (by decide) rfl (fun ls hl => ?_)
  refine lv_iinc (v := (v18 + 1)) (lv' := [(18, .int (v18 + 1)), (15, .int (v15 + x256)), (14, .int (s1 + s0)), (0, .ref (c 0)), (1, .ref (a 15)), (2, .ref qL2), (3, .int v3), (4, .int v4), (5, .int v5), (6, .int v6), (7, .int v7), (8, .int v8), (9, .int v9), (10, .int v10), (11, .int v11), (13, .ref qL13), (16, .ref qL13), (17, .int v17), (19, .int v19)]) hx hb dX5_isSame_262 hl (k := 17) rfl (by rfl) (by decide) rfl (fun ls hl => ?_)
  refine lv_goto (tgt := 218) hx hb dX5_isSame_265 (by decide) ?_
  exact hK218 fL13 nL13 fL2 v3 v4 v5 v6 v7 v8 v9 v10 v11 (s1 + s0) (v15 + x256) v17 (v18 + 1) gS' hM qL13 qL2 jA' jD' kc ks (by omega) (by omega) Hq locs ls hP hD hS (lv_sub hl [3, 4, 5, 6, 7, 8, 9, 10, 11, 12, 13, 14, 15, 2, 1, 16, 17, 0] rfl)
set_option maxHeartbeats 4000000 in
set_option maxRecDepth 100000 in
theorem kX5_isSame_c218 {p : Program} {l : Launch} {D : va_G} {cI cJ cB cM : ClassId} (hlt : l.stackTraces = false) (N : Nat) (a : Nat → Nat) (c : Nat → Nat) (r : Nat → Nat → Nat) {ho : RowI} {ke : RowI} {hc : Int32} {tr : Int32} {fo : Int32} {fr : Int32} {st : RowI} {co : Int32} {ro : Int32} {cA : CS} {cD : CS} {su : RowJ} {jA : JT} {jD : JT} {wI : Int32} {hI : Int32} {Wn : Nat} {Hn : Nat} {gS : RowR} {gA : RowR} {gD : RowR} {o : (Int32 × RowR)} (sz : Nat) {e : Env} {s : State} {m : MethodId} {args : Array Value} {below : List Frame} {meth : Method} {c0 : Code} {Q : State → Prop} {A : Nat → Prop} (hQ : Q = MQD lw_cs below (va_Qi (fun (r0 : Int32) (u : JT × JT) => r0 = o.1 ∧ bz r0) (aft D ((xw a cI cJ ho ke hc tr fo fr st co ro cA cD su jA jD ++ (z4 c cM wI hI Hn r)) ++ (zpl cI Wn Hn r gS gA gD)) sz (fun (u : JT × JT) => ((xw a cI cJ ho ke hc tr fo fr st co ro cA cD su u.1 u.2 ++ (z4 c cM wI hI Hn r)) ++ (zpl cI Wn Hn r o.2 gA gD)))) (va_A ((xw a cI cJ ho ke hc tr fo fr st co ro cA cD su jA jD ++ (z4 c cM wI hI Hn r)) ++ (zpl cI Wn Hn r gS gA gD)) sz)) args s 9767 62975 (va_A ((xw a cI cJ ho ke hc tr fo fr st co ro cA cD su jA jD ++ (z4 c cM wI hI Hn r)) ++ (zpl cI Wn Hn r gS gA gD)) sz)) (hAe : A = (va_A ((xw a cI cJ ho ke hc tr fo fr st co ro cA cD su jA jD ++ (z4 c cM wI hI Hn r)) ++ (zpl cI Wn Hn r gS gA gD)) sz)) (hx : p.tables.exec = Jvm.exec) (hb : c0.code = cX5_isSame) (hr : meth.sig.returnType = (some .boolean)) (hml : c0.maxLocals = 20) (hown : s.vm.findClass RX5 = some m.cls) (hts : ∀ w ∈ wsX5_isSame, w.before args s = true) (hlocks : meth.locks = false) (hTX : TX A s s.heap) (hN : NZ s) (hK : va_K D vwCl (tysZ cI cJ cB cM) s) (hA : ∀ q : Nat, s.heap.size ≤ q → A q) (iX5 : ∀ w ∈ wsX50, w ∈ wsX5_isSame) (f13 : (Cond.fieldLink RX5 13 "CryptSumsLaw$Sim" "h" "I").before args s = true) (f18 : (Cond.fieldLink RX5 18 "CryptSumsLaw$Sim" "stones" "[[I").before args s = true) (f7 : (Cond.fieldLink RX5 7 "CryptSumsLaw$Sim" "w" "I").before args s = true) : ∀ (K70 : RowI → Int32 → Int32 → Int32 → Int32 → Int32 → RowR → Option (Int32 × RowR)) (nK70 nS70 : Nat) (hK70 : ∀ (fL2 : RowI) (v3 : Int32) (v4 : Int32) (v5 : Int32) (v6 : Int32) (v7 : Int32) (gS' : RowR), K70 fL2 v3 v4 v5 v6 v7 gS' = some o → ∀ (qL2 : Nat) (jA' : JT) (jD' : JT), ∀ (kc ks : Nat), kc + (nK70) ≤ 9767 → ks + (nS70) ≤ 62975 → ∀ (Hq : Heap) (locs : List Loc) (ls : Array Slot), va_P D vwCl ((xw a cI cJ ho ke hc tr fo fr st co ro cA cD su jA' jD' ++ (z4 c cM wI hI Hn r ++ [(qL2, .inl (cI, 9, .inl fL2))])) ++ (zpl cI Wn Hn r gS' gA gD)) Hq → va_D A ((xw a cI cJ ho ke hc tr fo fr st co ro cA cD su jA' jD' ++ (z4 c cM wI hI Hn r ++ [(qL2, .inl (cI, 9, .inl fL2))])) ++ (zpl cI Wn Hn r gS' gA gD)) → va_S A s.heap Hq locs → lv_has ls 20 [(0, .ref (c 0)), (1, .ref (a 15)), (2, .ref qL2), (3, .int v3), (4, .int v4), (5, .int v5), (6, .int v6), (7, .int v7)] → W p l e rmX5_isSame s m args below meth c0 Hq locs kc ks Q (F0 m 70 ls [])) (K126 : RowI → Int32 → Int32 → Int32 → Int32 → Int32 → Int32 → Int32 → Int32 → RowR → Option (Int32 × RowR)) (nK126 nS126 : Nat) (hK126 : ∀ (fL2 : RowI) (v3 : Int32) (v4 : Int32) (v5 : Int32) (v6 : Int32) (v7 : Int32) (v8 : Int32) (v9 : Int32) (v10 : Int32) (gS' : RowR), K126 fL2 v3 v4 v5 v6 v7 v8 v9 v10 gS' = some o → ∀ (qL2 : Nat) (jA' : JT) (jD' : JT), ∀ (kc ks : Nat), kc + (nK126) ≤ 9767 → ks + (nS126) ≤ 62975 → ∀ (Hq : Heap) (locs : List Loc) (ls : Array Slot), va_P D vwCl ((xw a cI cJ ho ke hc tr fo fr st co ro cA cD su jA' jD' ++ (z4 c cM wI hI Hn r ++ [(qL2, .inl (cI, 9, .inl fL2))])) ++ (zpl cI Wn Hn r gS' gA gD)) Hq → va_D A ((xw a cI cJ ho ke hc tr fo fr st co ro cA cD su jA' jD' ++ (z4 c cM wI hI Hn r ++ [(qL2, .inl (cI, 9, .inl fL2))])) ++ (zpl cI Wn Hn r gS' gA gD)) → va_S A s.heap Hq locs → lv_has ls 20 [(0, .ref (c 0)), (1, .ref (a 15)), (2, .ref qL2), (3, .int v3), (4, .int v4), (5, .int v5), (6, .int v6), (7, .int v7), (8, .int v8), (9, .int v9), (10, .int v10)] → W p l e rmX5_isSame s m args below meth c0 Hq locs kc ks Q (F0 m 126 ls [])) , 257 ≤ nK70 → 1657 ≤ nS70 → 181 + nK70 ≤ nK126 → 1186 + nS70 ≤ nS126 → 181 ≤ nK126 → 1186 ≤ nS126 → ∀ (n : Nat), ∀ (fL13 : RowI) (nL13 : Nat) (fL2 : RowI) (v3 : Int32) (v4 : Int32) (v5 : Int32) (v6 : Int32) (v7 : Int32) (v8 : Int32) (v9 : Int32) (v10 : Int32) (v11 : Int32) (v14 : Int32) (v15 : Int32) (v17 : Int32) (v18 : Int32) (gS' : RowR), mX5_isSame_218 N st co ro cA cD su wI hI Wn Hn gA gD K70 K126 n fL13 nL13 fL2 v3 v4 v5 v6 v7 v8 v9 v10 v11 v14 v15 v17 v18 gS' = some o → ∀ (qL13 : Nat) (qL2 : Nat) (jA' : JT) (jD' : JT), ∀ (kc ks : Nat), kc + (16 + nK126) ≤ 9767 → ks + (100 + nS126) ≤ 62975 → ∀ (Hq : Heap) (locs : List Loc) (ls : Array Slot), va_P D vwCl ((xw a cI cJ ho ke hc tr fo fr st co ro cA cD su jA' jD' ++ (z4 c cM wI hI Hn r ++ [(qL13, .inl (cI, nL13, .inl fL13)), (qL2, .inl (cI, 9, .inl fL2))])) ++ (zpl cI Wn Hn r gS' gA gD)) Hq → va_D A ((xw a cI cJ ho ke hc tr fo fr st co ro cA cD su jA' jD' ++ (z4 c cM wI hI Hn r ++ [(qL13, .inl (cI, nL13, .inl fL13)), (qL2, .inl (cI, 9, .inl fL2))])) ++ (zpl cI Wn Hn r gS' gA gD)) → va_S A s.heap Hq locs → lv_has ls 20 [(0, .ref (c 0)), (1, .ref (a 15)), (2, .ref qL2), (3, .int v3), (4, .int v4), (5, .int v5), (6, .int v6), (7, .int v7), (8, .int v8), (9, .int v9), (10, .int v10), (11, .int v11), (13, .ref qL13), (14, .int v14), (15, .int v15), (16, .ref qL13), (17, .int v17), (18, .int v18)] → W p l e rmX5_isSame s m args below meth c0 Hq locs kc ks Q (F0 m 218 ls []) := by
  have c387 := kX5_isSame_c387 (p := p) (l := l) (D := D) (cI := cI) (cJ := cJ) (cB := cB) (cM := cM) (hlt := hlt) (N := N) (a := a) (c := c) (r := r) (ho := ho) (ke := ke) (hc := hc) (tr := tr) (fo := fo) (fr := fr) (st := st) (co := co) (ro := ro) (cA := cA) (cD := cD) (su := su) (jA := jA) (jD := jD) (wI := wI) (hI := hI) (Wn := Wn) (Hn := Hn) (gS := gS) (gA := gA) (gD := gD) (o := o) (sz := sz) (e := e) (s := s) (m := m) (args := args) (below := below) (meth := meth) (c0 := c0) (Q := Q) (A := A) (hQ := hQ) (hAe := hAe) (hx := hx) (hb := hb) (hr := hr) (hml := hml) (hown := hown) (hts := hts) (hlocks := hlocks) (hTX := hTX) (hN := hN) (hK := hK) (hA := hA) (iX5 := iX5) (f13 := f13) (f18 := f18) (f7 := f7)
  have c365 := kX5_isSame_c365 (p := p) (l := l) (D := D) (cI := cI) (cJ := cJ) (cB := cB) (cM := cM) (hlt := hlt) (N := N) (a := a) (c := c) (r := r) (ho := ho) (ke := ke) (hc := hc) (tr := tr) (fo := fo) (fr := fr) (st := st) (co := co) (ro := ro) (cA := cA) (cD := cD) (su := su) (jA := jA) (jD := jD) (wI := wI) (hI := hI) (Wn := Wn) (Hn := Hn) (gS := gS) (gA := gA) (gD := gD) (o := o) (sz := sz) (e := e) (s := s) (m := m) (args := args) (below := below) (meth := meth) (c0 := c0) (Q := Q) (A := A) (hQ := hQ) (hAe := hAe) (hx := hx) (hb := hb) (hr := hr) (hml := hml) (hown := hown) (hts := hts) (hlocks := hlocks) (hTX := hTX) (hN := hN) (hK := hK) (hA := hA) (iX5 := iX5) (f13 := f13) (f18 := f18) (f7 := f7)
  have c248 := kX5_isSame_c248 (p := p) (l := l) (D := D) (cI := cI) (cJ := cJ) (cB := cB) (cM := cM) (hlt := hlt) (N := N) (a := a) (c := c) (r := r) (ho := ho) (ke := ke) (hc := hc) (tr := tr) (fo := fo) (fr := fr) (st := st) (co := co) (ro := ro) (cA := cA) (cD := cD) (su := su) (jA := jA) (jD := jD) (wI := wI) (hI := hI) (Wn := Wn) (Hn := Hn) (gS := gS) (gA := gA) (gD := gD) (o := o) (sz := sz) (e := e) (s := s) (m := m) (args := args) (below := below) (meth := meth) (c0 := c0) (Q := Q) (A := A) (hQ := hQ) (hAe := hAe) (hx := hx) (hb := hb) (hr := hr) (hml := hml) (hown := hown) (hts := hts) (hlocks := hlocks) (hTX := hTX) (hN := hN) (hK := hK) (hA := hA) (iX5 := iX5) (f13 := f13) (f18 := f18) (f7 := f7)
  intro K70 nK70 nS70 hK70 K126 nK126 nS126 hK126 hp0 hp1 hp2 hp3 hp4 hp5 n
  induction n with
  | zero =>
    intro fL13 nL13 fL2 v3 v4 v5 v6 v7 v8 v9 v10 v11 v14 v15 v17 v18 gS' hM
    rw [mX5_isSame_218] at hM
    cases hM
  | succ n ih =>
    intro fL13 nL13 fL2 v3 v4 v5 v6 v7 v8 v9 v10 v11 v14 v15 v17 v18 gS' hM qL13 qL2 jA' jD' kc ks hkc hks Hq locs ls hP hD hS hl
    rw [mX5_isSame_218] at hM
    refine lv_iload hx hb dX5_isSame_218 (lv_at hl 17 rfl) ?_
    refine lv_iload hx hb dX5_isSame_220 (lv_at hl 16 rfl) ?_
    refine lv_icmp_ge (tgt := 268) hx hb dX5_isSame_222 (by decide) (fun hcc => ?_) (fun hcc => ?_)
    · replace hM := it_p hcc hM
      refine lv_aload_n hx hb dX5_isSame_268 rfl (lv_at hl 0 rfl) ?_
      refine lv_aload hx hb dX5_isSame_269 (lv_at hl 12 rfl) ?_
      refine lv_iload hx hb dX5_isSame_271 (lv_at hl 11 rfl) ?_
      obtain ⟨x273, hC, hM⟩ := bd_s hM
      refine cP_i (rx := fun (u : Unit) => (z4 c cM wI hI Hn r ++ [(qL13, .inl (cI, nL13, .inl fL13))])) (pl1 := fun (u : Unit) => (zpl cI Wn Hn r gS' gA gD)) [16, 17, 18, 19, 20] [0, 1, 2, 3, 4, 5, 6, 7, 8, 9, 10, 11, 12, 13, 14, 15, 21] (va_runV (As := [.ref qL13, .int v11]) (rest := []) ⟨hx, hb, hml, hown, hts⟩ (kX5_isWell (l := l) (D := D) (cI := cI) (cJ := cJ) (cB := cB) (cM := cM) N c r qL13 (wI := wI) (hI := hI) (Wn := Wn) (Hn := Hn) (gS := gS') (gA := gA) (gD := gD) (na1 := nL13) (fa1 := fL13) (p2 := v11) hC Hq.size) (cwV 2 hts gX5_isSame_X5_isWell rfl rfl rfl (by decide +kernel) ⟨Nat.le_of_ble_eq_true rfl, Nat.le_of_ble_eq_true rfl⟩) (preVZ [.ref qL13, .int v11] hN hK (va_P.part (cx := (z4 c cM wI hI Hn r ++ [(qL13, .inl (cI, nL13, .inl fL13))])) hP [16, 17, 18, 19, 20] rfl) (va_D.part (cx := (z4 c cM wI hI Hn r ++ [(qL13, .inl (cI, nL13, .inl fL13))])) hD [16, 17, 18, 19, 20] (by decide) rfl) (ci := 5) (q0 := 0) rfl rfl) rfl rfl hl.1 rfl (lv_room (Nat.le_of_ble_eq_true rfl)) dX5_isSame_273 ⟨by show _ + 1 ≤ 9767; omega, by show _ + 10 ≤ 62975; omega⟩) hP hD hS hA rfl (wr := (xw a cI cJ ho ke hc tr fo fr st co ro cA cD su jA' jD' ++ [(qL2, .inl (cI, 9, .inl fL2))])) rfl (by decide) (by decide) (fun r0 u273 Hq locs hw hP hD hS => ?_)
      replace hP : va_P D vwCl ((xw a cI cJ ho ke hc tr fo fr st co ro cA cD su jA' jD' ++ (z4 c cM wI hI Hn r ++ [(qL13, .inl (cI, nL13, .inl fL13)), (qL2, .inl (cI, 9, .inl fL2))])) ++ (zpl cI Wn Hn r gS' gA gD)) Hq := va_P.part (cx := (xw a cI cJ ho ke hc tr fo fr st co ro cA cD su jA' jD' ++ (z4 c cM wI hI Hn r ++ [(qL13, .inl (cI, nL13, .inl fL13)), (qL2, .inl (cI, 9, .inl fL2))]))) (pl := (zpl cI Wn Hn r gS' gA gD)) hP [0, 1, 2, 3, 4, 5, 6, 7, 8, 9, 10, 11, 12, 13, 14, 15, 17, 18, 19, 20, 21, 16] rfl
      replace hD : va_D A ((xw a cI cJ ho ke hc tr fo fr st co ro cA cD su jA' jD' ++ (z4 c cM wI hI Hn r ++ [(qL13, .inl (cI, nL13, .inl fL13)), (qL2, .inl (cI, 9, .inl fL2))])) ++ (zpl cI Wn Hn r gS' gA gD)) := va_D.part (cx := (xw a cI cJ ho ke hc tr fo fr st co ro cA cD su jA' jD' ++ (z4 c cM wI hI Hn r ++ [(qL13, .inl (cI, nL13, .inl fL13)), (qL2, .inl (cI, 9, .inl fL2))]))) (pl := (zpl cI Wn Hn r gS' gA gD)) hD [0, 1, 2, 3, 4, 5, 6, 7, 8, 9, 10, 11, 12, 13, 14, 15, 17, 18, 19, 20, 21, 16] (by decide) rfl
      obtain ⟨hw, hz273⟩ := hw
      rw [hw] at hz273
      rw [hw]
      refine W.widen (k := kc + 1) (n := ks + 10) (by show _ + 1 ≤ _; omega) (by show _ + 10 ≤ _; omega) ?_
      refine lv_istore (lv' := [(16, .int x273), (0, .ref (c 0)), (1, .ref (a 15)), (2, .ref qL2), (3, .int v3), (4, .int v4), (5, .int v5), (6, .int v6), (7, .int v7), (8, .int v8), (9, .int v9), (10, .int v10), (11, .int v11), (13, .ref qL13), (14, .int v14), (15, .int v15), (17, .int v17), (18, .int v18)]) hx hb dX5_isSame_276 hl (by decide) rfl (fun ls hl => ?_)
      refine lv_bipush (v := 6) hx hb dX5_isSame_278 (by decide) ?_
      refine newIZ (D := D) (cI := cI) (cJ := cJ) (cB := cB) (cM := cM) hx hb (hts (.arrayClass .int) (by decide +kernel)) hK hP hD hS hA 6 (by decide) (by decide) (by decide) (by show _ ≤ 9767; omega) (by show _ ≤ 62975; omega) dX5_isSame_280 (fun q280 Hq hP hD hS => ?_)
      replace hP := va_P.swap hP
      replace hD := va_D.swap hD
      replace hP : va_P D vwCl ((xw a cI cJ ho ke hc tr fo fr st co ro cA cD su jA' jD' ++ (z4 c cM wI hI Hn r ++ [(qL13, .inl (cI, nL13, .inl fL13)), (qL2, .inl (cI, 9, .inl fL2)), (q280, .inl (cI, 6, .inl (fun _ => 0)))])) ++ (zpl cI Wn Hn r gS' gA gD)) Hq := hP
      replace hD : va_D A ((xw a cI cJ ho ke hc tr fo fr st co ro cA cD su jA' jD' ++ (z4 c cM wI hI Hn r ++ [(qL13, .inl (cI, nL13, .inl fL13)), (qL2, .inl (cI, 9, .inl fL2)), (q280, .inl (cI, 6, .inl (fun _ => 0)))])) ++ (zpl cI Wn Hn r gS' gA gD)) := hD
      refine W.widen (k := kc + 2) (n := ks + 16) (by omega) (by omega) ?_
      refine lv_dup hx hb dX5_isSame_282 rfl ?_
      refine lv_iconst (v := 0) hx hb dX5_isSame_283 (by decide) ?_
      refine lv_aload hx hb dX5_isSame_284 (lv_at hl 13 rfl) ?_
      refine lv_iconst (v := 0) hx hb dX5_isSame_286 (by decide) ?_
      obtain ⟨hb287, hM⟩ := it_x hM
      refine va_iald (D := D) hx hb hK hP 20 0 rfl rfl hb287 dX5_isSame_287 ?_
      obtain ⟨hb288, hM⟩ := it_x hM
      refine va_iast (D := D) hx hb hK hP hD hS 22 0 rfl rfl hb288 dX5_isSame_288 (fun Hq locs hP hD hS => ?_)
      replace hP : va_P D vwCl ((xw a cI cJ ho ke hc tr fo fr st co ro cA cD su jA' jD' ++ (z4 c cM wI hI Hn r ++ [(qL13, .inl (cI, nL13, .inl fL13)), (qL2, .inl (cI, 9, .inl fL2)), (q280, .inl (cI, 6, .inl (upd (fun _ => 0) (0 : Int32).toNatClampNeg (fL13 (0 : Int32).toNatClampNeg))))])) ++ (zpl cI Wn Hn r gS' gA gD)) Hq := hP
      replace hD : va_D A ((xw a cI cJ ho ke hc tr fo fr st co ro cA cD su jA' jD' ++ (z4 c cM wI hI Hn r ++ [(qL13, .inl (cI, nL13, .inl fL13)), (qL2, .inl (cI, 9, .inl fL2)), (q280, .inl (cI, 6, .inl (upd (fun _ => 0) (0 : Int32).toNatClampNeg (fL13 (0 : Int32).toNatClampNeg))))])) ++ (zpl cI Wn Hn r gS' gA gD)) := hD
      refine lv_dup hx hb dX5_isSame_289 rfl ?_
      refine lv_iconst (v := 1) hx hb dX5_isSame_290 (by decide) ?_
      refine lv_aload hx hb dX5_isSame_291 (lv_at hl 13 rfl) ?_
      refine va_alen (D := D) (v := (nI nL13)) hx hb hK hP 20 0 rfl rfl rfl dX5_isSame_293 ?_
      obtain ⟨hb294, hM⟩ := it_x hM
      refine va_iast (D := D) hx hb hK hP hD hS 22 0 rfl rfl hb294 dX5_isSame_294 (fun Hq locs hP hD hS => ?_)
      replace hP : va_P D vwCl ((xw a cI cJ ho ke hc tr fo fr st co ro cA cD su jA' jD' ++ (z4 c cM wI hI Hn r ++ [(qL13, .inl (cI, nL13, .inl fL13)), (qL2, .inl (cI, 9, .inl fL2)), (q280, .inl (cI, 6, .inl (upd (upd (fun _ => 0) (0 : Int32).toNatClampNeg (fL13 (0 : Int32).toNatClampNeg)) (1 : Int32).toNatClampNeg (nI nL13))))])) ++ (zpl cI Wn Hn r gS' gA gD)) Hq := hP
      replace hD : va_D A ((xw a cI cJ ho ke hc tr fo fr st co ro cA cD su jA' jD' ++ (z4 c cM wI hI Hn r ++ [(qL13, .inl (cI, nL13, .inl fL13)), (qL2, .inl (cI, 9, .inl fL2)), (q280, .inl (cI, 6, .inl (upd (upd (fun _ => 0) (0 : Int32).toNatClampNeg (fL13 (0 : Int32).toNatClampNeg)) (1 : Int32).toNatClampNeg (nI nL13))))])) ++ (zpl cI Wn Hn r gS' gA gD)) := hD
      refine lv_dup hx hb dX5_isSame_295 rfl ?_
      refine lv_iconst (v := 2) hx hb dX5_isSame_296 (by decide) ?_
      refine lv_aload_n hx hb dX5_isSame_297 rfl (lv_at hl 1 rfl) ?_
      refine lv_aload hx hb dX5_isSame_298 (lv_at hl 13 rfl) ?_
      refine lv_iconst (v := 0) hx hb dX5_isSame_300 (by decide) ?_
      obtain ⟨hb301, hM⟩ := it_x hM
      refine va_iald (D := D) hx hb hK hP 20 0 rfl rfl hb301 dX5_isSame_301 ?_
      refine lv_iload hx hb dX5_isSame_302 (lv_at hl 12 rfl) ?_
      obtain ⟨x304, hC, hM⟩ := bd_s hM
      refine cP_i (rx := fun (u : Unit) => (z4 c cM wI hI Hn r)) (pl1 := fun (u : Unit) => (zpl cI Wn Hn r gS' gA gD)) [16, 17, 18, 19] [0, 1, 2, 3, 4, 5, 6, 7, 8, 9, 10, 11, 12, 13, 14, 15, 20, 21, 22] (va_runV (As := [.int (fL13 (0 : Int32).toNatClampNeg), .int v11]) (rest := [.int (2 : Int32), .ref q280, .ref q280]) ⟨hx, hb, hml, hown, hts⟩ (kX5_sumAt (l := l) (D := D) (cI := cI) (cJ := cJ) (cB := cB) (cM := cM) N c r (wI := wI) (hI := hI) (Wn := Wn) (Hn := Hn) (gS := gS') (gA := gA) (gD := gD) (p1 := (fL13 (0 : Int32).toNatClampNeg)) (p2 := v11) hC Hq.size) (cwV 2 hts gX5_isSame_X5_sumAt rfl rfl rfl (by decide +kernel) ⟨Nat.le_of_ble_eq_true rfl, Nat.le_of_ble_eq_true rfl⟩) (preVZ [.int (fL13 (0 : Int32).toNatClampNeg), .int v11] hN hK (va_P.part (cx := (z4 c cM wI hI Hn r)) hP [16, 17, 18, 19] rfl) (va_D.part (cx := (z4 c cM wI hI Hn r)) hD [16, 17, 18, 19] (by decide) rfl) (ci := 5) (q0 := 0) rfl rfl) rfl rfl hl.1 rfl (lv_room (Nat.le_of_ble_eq_true rfl)) dX5_isSame_304 ⟨by show _ + 0 ≤ 9767; omega, by show _ + 0 ≤ 62975; omega⟩) hP hD hS hA rfl (wr := (xw a cI cJ ho ke hc tr fo fr st co ro cA cD su jA' jD' ++ [(qL13, .inl (cI, nL13, .inl fL13)), (qL2, .inl (cI, 9, .inl fL2)), (q280, .inl (cI, 6, .inl (upd (upd (fun _ => 0) (0 : Int32).toNatClampNeg (fL13 (0 : Int32).toNatClampNeg)) (1 : Int32).toNatClampNeg (nI nL13))))])) rfl (by decide) (by decide) (fun r0 u304 Hq locs hw hP hD hS => ?_)
      replace hP : va_P D vwCl ((xw a cI cJ ho ke hc tr fo fr st co ro cA cD su jA' jD' ++ (z4 c cM wI hI Hn r ++ [(qL13, .inl (cI, nL13, .inl fL13)), (qL2, .inl (cI, 9, .inl fL2)), (q280, .inl (cI, 6, .inl (upd (upd (fun _ => 0) (0 : Int32).toNatClampNeg (fL13 (0 : Int32).toNatClampNeg)) (1 : Int32).toNatClampNeg (nI nL13))))])) ++ (zpl cI Wn Hn r gS' gA gD)) Hq := va_P.part (cx := (xw a cI cJ ho ke hc tr fo fr st co ro cA cD su jA' jD' ++ (z4 c cM wI hI Hn r ++ [(qL13, .inl (cI, nL13, .inl fL13)), (qL2, .inl (cI, 9, .inl fL2)), (q280, .inl (cI, 6, .inl (upd (upd (fun _ => 0) (0 : Int32).toNatClampNeg (fL13 (0 : Int32).toNatClampNeg)) (1 : Int32).toNatClampNeg (nI nL13))))]))) (pl := (zpl cI Wn Hn r gS' gA gD)) hP [0, 1, 2, 3, 4, 5, 6, 7, 8, 9, 10, 11, 12, 13, 14, 15, 19, 20, 21, 22, 16, 17, 18] rfl
      replace hD : va_D A ((xw a cI cJ ho ke hc tr fo fr st co ro cA cD su jA' jD' ++ (z4 c cM wI hI Hn r ++ [(qL13, .inl (cI, nL13, .inl fL13)), (qL2, .inl (cI, 9, .inl fL2)), (q280, .inl (cI, 6, .inl (upd (upd (fun _ => 0) (0 : Int32).toNatClampNeg (fL13 (0 : Int32).toNatClampNeg)) (1 : Int32).toNatClampNeg (nI nL13))))])) ++ (zpl cI Wn Hn r gS' gA gD)) := va_D.part (cx := (xw a cI cJ ho ke hc tr fo fr st co ro cA cD su jA' jD' ++ (z4 c cM wI hI Hn r ++ [(qL13, .inl (cI, nL13, .inl fL13)), (qL2, .inl (cI, 9, .inl fL2)), (q280, .inl (cI, 6, .inl (upd (upd (fun _ => 0) (0 : Int32).toNatClampNeg (fL13 (0 : Int32).toNatClampNeg)) (1 : Int32).toNatClampNeg (nI nL13))))]))) (pl := (zpl cI Wn Hn r gS' gA gD)) hD [0, 1, 2, 3, 4, 5, 6, 7, 8, 9, 10, 11, 12, 13, 14, 15, 19, 20, 21, 22, 16, 17, 18] (by decide) rfl
      rw [hw]
      obtain ⟨hb307, hM⟩ := it_x hM
      refine va_iast (D := D) hx hb hK hP hD hS 22 0 rfl rfl hb307 dX5_isSame_307 (fun Hq locs hP hD hS => ?_)
      replace hP : va_P D vwCl ((xw a cI cJ ho ke hc tr fo fr st co ro cA cD su jA' jD' ++ (z4 c cM wI hI Hn r ++ [(qL13, .inl (cI, nL13, .inl fL13)), (qL2, .inl (cI, 9, .inl fL2)), (q280, .inl (cI, 6, .inl (upd (upd (upd (fun _ => 0) (0 : Int32).toNatClampNeg (fL13 (0 : Int32).toNatClampNeg)) (1 : Int32).toNatClampNeg (nI nL13)) (2 : Int32).toNatClampNeg x304)))])) ++ (zpl cI Wn Hn r gS' gA gD)) Hq := hP
      replace hD : va_D A ((xw a cI cJ ho ke hc tr fo fr st co ro cA cD su jA' jD' ++ (z4 c cM wI hI Hn r ++ [(qL13, .inl (cI, nL13, .inl fL13)), (qL2, .inl (cI, 9, .inl fL2)), (q280, .inl (cI, 6, .inl (upd (upd (upd (fun _ => 0) (0 : Int32).toNatClampNeg (fL13 (0 : Int32).toNatClampNeg)) (1 : Int32).toNatClampNeg (nI nL13)) (2 : Int32).toNatClampNeg x304)))])) ++ (zpl cI Wn Hn r gS' gA gD)) := hD
      refine lv_dup hx hb dX5_isSame_308 rfl ?_
      refine lv_iconst (v := 3) hx hb dX5_isSame_309 (by decide) ?_
      refine lv_iload hx hb dX5_isSame_310 (lv_at hl 14 rfl) ?_
      obtain ⟨hb312, hM⟩ := it_x hM
      refine va_iast (D := D) hx hb hK hP hD hS 22 0 rfl rfl hb312 dX5_isSame_312 (fun Hq locs hP hD hS => ?_)
      replace hP : va_P D vwCl ((xw a cI cJ ho ke hc tr fo fr st co ro cA cD su jA' jD' ++ (z4 c cM wI hI Hn r ++ [(qL13, .inl (cI, nL13, .inl fL13)), (qL2, .inl (cI, 9, .inl fL2)), (q280, .inl (cI, 6, .inl (upd (upd (upd (upd (fun _ => 0) (0 : Int32).toNatClampNeg (fL13 (0 : Int32).toNatClampNeg)) (1 : Int32).toNatClampNeg (nI nL13)) (2 : Int32).toNatClampNeg x304) (3 : Int32).toNatClampNeg v14)))])) ++ (zpl cI Wn Hn r gS' gA gD)) Hq := hP
      replace hD : va_D A ((xw a cI cJ ho ke hc tr fo fr st co ro cA cD su jA' jD' ++ (z4 c cM wI hI Hn r ++ [(qL13, .inl (cI, nL13, .inl fL13)), (qL2, .inl (cI, 9, .inl fL2)), (q280, .inl (cI, 6, .inl (upd (upd (upd (upd (fun _ => 0) (0 : Int32).toNatClampNeg (fL13 (0 : Int32).toNatClampNeg)) (1 : Int32).toNatClampNeg (nI nL13)) (2 : Int32).toNatClampNeg x304) (3 : Int32).toNatClampNeg v14)))])) ++ (zpl cI Wn Hn r gS' gA gD)) := hD
      refine lv_dup hx hb dX5_isSame_313 rfl ?_
      refine lv_iconst (v := 4) hx hb dX5_isSame_314 (by decide) ?_
      refine lv_iload hx hb dX5_isSame_315 (lv_at hl 15 rfl) ?_
      obtain ⟨hb317, hM⟩ := it_x hM
      refine va_iast (D := D) hx hb hK hP hD hS 22 0 rfl rfl hb317 dX5_isSame_317 (fun Hq locs hP hD hS => ?_)
      replace hP : va_P D vwCl ((xw a cI cJ ho ke hc tr fo fr st co ro cA cD su jA' jD' ++ (z4 c cM wI hI Hn r ++ [(qL13, .inl (cI, nL13, .inl fL13)), (qL2, .inl (cI, 9, .inl fL2)), (q280, .inl (cI, 6, .inl (upd (upd (upd (upd (upd (fun _ => 0) (0 : Int32).toNatClampNeg (fL13 (0 : Int32).toNatClampNeg)) (1 : Int32).toNatClampNeg (nI nL13)) (2 : Int32).toNatClampNeg x304) (3 : Int32).toNatClampNeg v14) (4 : Int32).toNatClampNeg v15)))])) ++ (zpl cI Wn Hn r gS' gA gD)) Hq := hP
      replace hD : va_D A ((xw a cI cJ ho ke hc tr fo fr st co ro cA cD su jA' jD' ++ (z4 c cM wI hI Hn r ++ [(qL13, .inl (cI, nL13, .inl fL13)), (qL2, .inl (cI, 9, .inl fL2)), (q280, .inl (cI, 6, .inl (upd (upd (upd (upd (upd (fun _ => 0) (0 : Int32).toNatClampNeg (fL13 (0 : Int32).toNatClampNeg)) (1 : Int32).toNatClampNeg (nI nL13)) (2 : Int32).toNatClampNeg x304) (3 : Int32).toNatClampNeg v14) (4 : Int32).toNatClampNeg v15)))])) ++ (zpl cI Wn Hn r gS' gA gD)) := hD
      refine lv_dup hx hb dX5_isSame_318 rfl ?_
      refine lv_iconst (v := 5) hx hb dX5_isSame_319 (by decide) ?_
      refine lv_iload hx hb dX5_isSame_320 (lv_at hl 0 rfl) ?_
      refine lv_if_eq (tgt := 329) hx hb dX5_isSame_322 (by decide) (fun hcc => ?_) (fun hcc => ?_)
      · replace hM := it_p hcc hM
        refine lv_iconst (v := 0) hx hb dX5_isSame_329 (by decide) ?_
        obtain ⟨hb330, hM⟩ := it_x hM
        refine va_iast (D := D) hx hb hK hP hD hS 22 0 rfl rfl hb330 dX5_isSame_330 (fun Hq locs hP hD hS => ?_)
        replace hP : va_P D vwCl ((xw a cI cJ ho ke hc tr fo fr st co ro cA cD su jA' jD' ++ (z4 c cM wI hI Hn r ++ [(qL13, .inl (cI, nL13, .inl fL13)), (qL2, .inl (cI, 9, .inl fL2)), (q280, .inl (cI, 6, .inl (upd (upd (upd (upd (upd (upd (fun _ => 0) (0 : Int32).toNatClampNeg (fL13 (0 : Int32).toNatClampNeg)) (1 : Int32).toNatClampNeg (nI nL13)) (2 : Int32).toNatClampNeg x304) (3 : Int32).toNatClampNeg v14) (4 : Int32).toNatClampNeg v15) (5 : Int32).toNatClampNeg (0 : Int32))))])) ++ (zpl cI Wn Hn r gS' gA gD)) Hq := hP
        replace hD : va_D A ((xw a cI cJ ho ke hc tr fo fr st co ro cA cD su jA' jD' ++ (z4 c cM wI hI Hn r ++ [(qL13, .inl (cI, nL13, .inl fL13)), (qL2, .inl (cI, 9, .inl fL2)), (q280, .inl (cI, 6, .inl (upd (upd (upd (upd (upd (upd (fun _ => 0) (0 : Int32).toNatClampNeg (fL13 (0 : Int32).toNatClampNeg)) (1 : Int32).toNatClampNeg (nI nL13)) (2 : Int32).toNatClampNeg x304) (3 : Int32).toNatClampNeg v14) (4 : Int32).toNatClampNeg v15) (5 : Int32).toNatClampNeg (0 : Int32))))])) ++ (zpl cI Wn Hn r gS' gA gD)) := hD
        refine lv_astore (lv' := [(12, .ref q280), (16, .int x273), (0, .ref (c 0)), (1, .ref (a 15)), (2, .ref qL2), (3, .int v3), (4, .int v4), (5, .int v5), (6, .int v6), (7, .int v7), (8, .int v8), (9, .int v9), (10, .int v10), (11, .int v11), (13, .ref qL13), (14, .int v14), (15, .int v15), (17, .int v17), (18, .int v18)]) hx hb dX5_isSame_331 hl (by decide) rfl (fun ls hl => ?_)
        refine lv_aload hx hb dX5_isSame_333 (lv_at hl 14 rfl) ?_
        refine lv_iconst (v := 0) hx hb dX5_isSame_335 (by decide) ?_
        obtain ⟨hb336, hM⟩ := it_x hM
        refine va_iald (D := D) hx hb hK hP 20 0 rfl rfl hb336 dX5_isSame_336 ?_
        refine lv_iload hx hb dX5_isSame_337 (lv_at hl 9 rfl) ?_
        refine lv_icmp_ne (tgt := 384) hx hb dX5_isSame_339 (by decide) (fun hcc => ?_) (fun hcc => ?_)
        · replace hM := it_n hcc hM
          refine lv_iconst (v := 0) hx hb dX5_isSame_384 (by decide) ?_
          refine lv_istore (lv' := [(13, .int (0 : Int32)), (12, .ref q280), (16, .int x273), (0, .ref (c 0)), (1, .ref (a 15)), (2, .ref qL2), (3, .int v3), (4, .int v4), (5, .int v5), (6, .int v6), (7, .int v7), (8, .int v8), (9, .int v9), (10, .int v10), (11, .int v11), (14, .int v14), (15, .int v15), (17, .int v17), (18, .int v18)]) hx hb dX5_isSame_385 hl (by decide) rfl (fun ls hl => ?_)
          replace hP := va_P.part (cx := (xw a cI cJ ho ke hc tr fo fr st co ro cA cD su jA' jD' ++ (z4 c cM wI hI Hn r ++ [(q280, .inl (cI, 6, .inl (upd (upd (upd (upd (upd (upd (fun _ => 0) (0 : Int32).toNatClampNeg (fL13 (0 : Int32).toNatClampNeg)) (1 : Int32).toNatClampNeg (nI nL13)) (2 : Int32).toNatClampNeg x304) (3 : Int32).toNatClampNeg v14) (4 : Int32).toNatClampNeg v15) (5 : Int32).toNatClampNeg (0 : Int32)))), (qL2, .inl (cI, 9, .inl fL2))]))) hP [0, 1, 2, 3, 4, 5, 6, 7, 8, 9, 10, 11, 12, 13, 14, 15, 16, 17, 18, 19, 22, 21] rfl
          replace hD := va_D.part (cx := (xw a cI cJ ho ke hc tr fo fr st co ro cA cD su jA' jD' ++ (z4 c cM wI hI Hn r ++ [(q280, .inl (cI, 6, .inl (upd (upd (upd (upd (upd (upd (fun _ => 0) (0 : Int32).toNatClampNeg (fL13 (0 : Int32).toNatClampNeg)) (1 : Int32).toNatClampNeg (nI nL13)) (2 : Int32).toNatClampNeg x304) (3 : Int32).toNatClampNeg v14) (4 : Int32).toNatClampNeg v15) (5 : Int32).toNatClampNeg (0 : Int32)))), (qL2, .inl (cI, 9, .inl fL2))]))) hD [0, 1, 2, 3, 4, 5, 6, 7, 8, 9, 10, 11, 12, 13, 14, 15, 16, 17, 18, 19, 22, 21] (by decide) rfl
          exact c387 K70 nK70 nS70 hK70 K126 nK126 nS126 hK126 (by omega) (by omega) (by omega) (by omega) (by omega) (by omega) 7 (upd (upd (upd (upd (upd (upd (fun _ => 0) (0 : Int32).toNatClampNeg (fL13 (0 : Int32).toNatClampNeg)) (1 : Int32).toNatClampNeg (nI nL13)) (2 : Int32).toNatClampNeg x304) (3 : Int32).toNatClampNeg v14) (4 : Int32).toNatClampNeg v15) (5 : Int32).toNatClampNeg (0 : Int32)) fL2 v3 v4 v5 v6 v7 v8 v9 v10 v11 (0 : Int32) gS' hM q280 qL2 jA' jD' (kc + 2) (ks + 16) (by omega) (by omega) Hq locs ls hP hD hS (lv_sub hl [3, 4, 5, 6, 7, 8, 9, 10, 11, 12, 13, 14, 1, 0] rfl)
        · replace hM := it_p hcc hM
          refine lv_aload_n hx hb dX5_isSame_342 rfl (lv_at hl 4 rfl) ?_
          refine lv_iconst (v := 4) hx hb dX5_isSame_343 (by decide) ?_
          refine lv_dup2_11 hx hb dX5_isSame_344 rfl rfl ?_
          obtain ⟨hb345, hM⟩ := it_x hM
          refine va_iald (D := D) hx hb hK hP 21 0 rfl rfl hb345 dX5_isSame_345 ?_
          refine lv_iconst (v := 1) hx hb dX5_isSame_346 (by decide) ?_
          refine lv_iadd hx hb dX5_isSame_347 ?_
          obtain ⟨hb348, hM⟩ := it_x hM
          refine va_iast (D := D) hx hb hK hP hD hS 21 0 rfl rfl hb348 dX5_isSame_348 (fun Hq locs hP hD hS => ?_)
          replace hP : va_P D vwCl ((xw a cI cJ ho ke hc tr fo fr st co ro cA cD su jA' jD' ++ (z4 c cM wI hI Hn r ++ [(qL13, .inl (cI, nL13, .inl fL13)), (qL2, .inl (cI, 9, .inl (upd fL2 (4 : Int32).toNatClampNeg ((fL2 (4 : Int32).toNatClampNeg) + (1 : Int32))))), (q280, .inl (cI, 6, .inl (upd (upd (upd (upd (upd (upd (fun _ => 0) (0 : Int32).toNatClampNeg (fL13 (0 : Int32).toNatClampNeg)) (1 : Int32).toNatClampNeg (nI nL13)) (2 : Int32).toNatClampNeg x304) (3 : Int32).toNatClampNeg v14) (4 : Int32).toNatClampNeg v15) (5 : Int32).toNatClampNeg (0 : Int32))))])) ++ (zpl cI Wn Hn r gS' gA gD)) Hq := hP
          replace hD : va_D A ((xw a cI cJ ho ke hc tr fo fr st co ro cA cD su jA' jD' ++ (z4 c cM wI hI Hn r ++ [(qL13, .inl (cI, nL13, .inl fL13)), (qL2, .inl (cI, 9, .inl (upd fL2 (4 : Int32).toNatClampNeg ((fL2 (4 : Int32).toNatClampNeg) + (1 : Int32))))), (q280, .inl (cI, 6, .inl (upd (upd (upd (upd (upd (upd (fun _ => 0) (0 : Int32).toNatClampNeg (fL13 (0 : Int32).toNatClampNeg)) (1 : Int32).toNatClampNeg (nI nL13)) (2 : Int32).toNatClampNeg x304) (3 : Int32).toNatClampNeg v14) (4 : Int32).toNatClampNeg v15) (5 : Int32).toNatClampNeg (0 : Int32))))])) ++ (zpl cI Wn Hn r gS' gA gD)) := hD
          refine lv_aload_n hx hb dX5_isSame_349 rfl (lv_at hl 4 rfl) ?_
          refine lv_iconst (v := 5) hx hb dX5_isSame_350 (by decide) ?_
          refine lv_dup2_11 hx hb dX5_isSame_351 rfl rfl ?_
          obtain ⟨hb352, hM⟩ := it_x hM
          refine va_iald (D := D) hx hb hK hP 21 0 rfl rfl hb352 dX5_isSame_352 ?_
          refine lv_aload hx hb dX5_isSame_353 (lv_at hl 0 rfl) ?_
          refine lv_iconst (v := 2) hx hb dX5_isSame_355 (by decide) ?_
          obtain ⟨hb356, hM⟩ := it_x hM
          refine va_iald (D := D) hx hb hK hP 22 0 rfl rfl hb356 dX5_isSame_356 ?_
          refine lv_if_le (tgt := 364) hx hb dX5_isSame_357 (by decide) (fun hcc => ?_) (fun hcc => ?_)
          · replace hM := it_p hcc hM
            refine lv_iconst (v := 0) hx hb dX5_isSame_364 (by decide) ?_
            replace hP := va_P.part (cx := (xw a cI cJ ho ke hc tr fo fr st co ro cA cD su jA' jD' ++ (z4 c cM wI hI Hn r ++ [(q280, .inl (cI, 6, .inl (upd (upd (upd (upd (upd (upd (fun _ => 0) (0 : Int32).toNatClampNeg (fL13 (0 : Int32).toNatClampNeg)) (1 : Int32).toNatClampNeg (nI nL13)) (2 : Int32).toNatClampNeg x304) (3 : Int32).toNatClampNeg v14) (4 : Int32).toNatClampNeg v15) (5 : Int32).toNatClampNeg (0 : Int32)))), (qL2, .inl (cI, 9, .inl (upd fL2 (4 : Int32).toNatClampNeg ((fL2 (4 : Int32).toNatClampNeg) + (1 : Int32)))))]))) hP [0, 1, 2, 3, 4, 5, 6, 7, 8, 9, 10, 11, 12, 13, 14, 15, 16, 17, 18, 19, 22, 21] rfl
            replace hD := va_D.part (cx := (xw a cI cJ ho ke hc tr fo fr st co ro cA cD su jA' jD' ++ (z4 c cM wI hI Hn r ++ [(q280, .inl (cI, 6, .inl (upd (upd (upd (upd (upd (upd (fun _ => 0) (0 : Int32).toNatClampNeg (fL13 (0 : Int32).toNatClampNeg)) (1 : Int32).toNatClampNeg (nI nL13)) (2 : Int32).toNatClampNeg x304) (3 : Int32).toNatClampNeg v14) (4 : Int32).toNatClampNeg v15) (5 : Int32).toNatClampNeg (0 : Int32)))), (qL2, .inl (cI, 9, .inl (upd fL2 (4 : Int32).toNatClampNeg ((fL2 (4 : Int32).toNatClampNeg) + (1 : Int32)))))]))) hD [0, 1, 2, 3, 4, 5, 6, 7, 8, 9, 10, 11, 12, 13, 14, 15, 16, 17, 18, 19, 22, 21] (by decide) rfl
            exact c365 K70 nK70 nS70 hK70 K126 nK126 nS126 hK126 (by omega) (by omega) (by omega) (by omega) (by omega) (by omega) (upd (upd (upd (upd (upd (upd (fun _ => 0) (0 : Int32).toNatClampNeg (fL13 (0 : Int32).toNatClampNeg)) (1 : Int32).toNatClampNeg (nI nL13)) (2 : Int32).toNatClampNeg x304) (3 : Int32).toNatClampNeg v14) (4 : Int32).toNatClampNeg v15) (5 : Int32).toNatClampNeg (0 : Int32)) (upd fL2 (4 : Int32).toNatClampNeg ((fL2 (4 : Int32).toNatClampNeg) + (1 : Int32))) v3 v4 v5 v6 v7 v8 v9 v10 v11 x273 (0 : Int32) ((upd fL2 (4 : Int32).toNatClampNeg ((fL2 (4 : Int32).toNatClampNeg) + (1 : Int32))) (5 : Int32).toNatClampNeg) (5 : Int32) gS' hM q280 qL2 jA' jD' (kc + 2) (ks + 16) (by omega) (by omega) Hq locs ls hP hD hS (lv_sub hl [2, 3, 4, 5, 6, 7, 8, 9, 10, 11, 12, 13, 0, 1] rfl)
          · replace hM := it_n hcc hM
            refine lv_iconst (v := 1) hx hb dX5_isSame_360 (by decide) ?_
            refine lv_goto (tgt := 365) hx hb dX5_isSame_361 (by decide) ?_
            replace hP := va_P.part (cx := (xw a cI cJ ho ke hc tr fo fr st co ro cA cD su jA' jD' ++ (z4 c cM wI hI Hn r ++ [(q280, .inl (cI, 6, .inl (upd (upd (upd (upd (upd (upd (fun _ => 0) (0 : Int32).toNatClampNeg (fL13 (0 : Int32).toNatClampNeg)) (1 : Int32).toNatClampNeg (nI nL13)) (2 : Int32).toNatClampNeg x304) (3 : Int32).toNatClampNeg v14) (4 : Int32).toNatClampNeg v15) (5 : Int32).toNatClampNeg (0 : Int32)))), (qL2, .inl (cI, 9, .inl (upd fL2 (4 : Int32).toNatClampNeg ((fL2 (4 : Int32).toNatClampNeg) + (1 : Int32)))))]))) hP [0, 1, 2, 3, 4, 5, 6, 7, 8, 9, 10, 11, 12, 13, 14, 15, 16, 17, 18, 19, 22, 21] rfl
            replace hD := va_D.part (cx := (xw a cI cJ ho ke hc tr fo fr st co ro cA cD su jA' jD' ++ (z4 c cM wI hI Hn r ++ [(q280, .inl (cI, 6, .inl (upd (upd (upd (upd (upd (upd (fun _ => 0) (0 : Int32).toNatClampNeg (fL13 (0 : Int32).toNatClampNeg)) (1 : Int32).toNatClampNeg (nI nL13)) (2 : Int32).toNatClampNeg x304) (3 : Int32).toNatClampNeg v14) (4 : Int32).toNatClampNeg v15) (5 : Int32).toNatClampNeg (0 : Int32)))), (qL2, .inl (cI, 9, .inl (upd fL2 (4 : Int32).toNatClampNeg ((fL2 (4 : Int32).toNatClampNeg) + (1 : Int32)))))]))) hD [0, 1, 2, 3, 4, 5, 6, 7, 8, 9, 10, 11, 12, 13, 14, 15, 16, 17, 18, 19, 22, 21] (by decide) rfl
            exact c365 K70 nK70 nS70 hK70 K126 nK126 nS126 hK126 (by omega) (by omega) (by omega) (by omega) (by omega) (by omega) (upd (upd (upd (upd (upd (upd (fun _ => 0) (0 : Int32).toNatClampNeg (fL13 (0 : Int32).toNatClampNeg)) (1 : Int32).toNatClampNeg (nI nL13)) (2 : Int32).toNatClampNeg x304) (3 : Int32).toNatClampNeg v14) (4 : Int32).toNatClampNeg v15) (5 : Int32).toNatClampNeg (0 : Int32)) (upd fL2 (4 : Int32).toNatClampNeg ((fL2 (4 : Int32).toNatClampNeg) + (1 : Int32))) v3 v4 v5 v6 v7 v8 v9 v10 v11 x273 (1 : Int32) ((upd fL2 (4 : Int32).toNatClampNeg ((fL2 (4 : Int32).toNatClampNeg) + (1 : Int32))) (5 : Int32).toNatClampNeg) (5 : Int32) gS' hM q280 qL2 jA' jD' (kc + 2) (ks + 16) (by omega) (by omega) Hq locs ls hP hD hS (lv_sub hl [2, 3, 4, 5, 6, 7, 8, 9, 10, 11, 12, 13, 0, 1] rfl)
      · replace hM := it_n hcc hM
        refine lv_iconst (v := 1) hx hb dX5_isSame_325 (by decide) ?_
        refine lv_goto (tgt := 330) hx hb dX5_isSame_326 (by decide) ?_
        obtain ⟨hb330, hM⟩ := it_x hM
        refine va_iast (D := D) hx hb hK hP hD hS 22 0 rfl rfl hb330 dX5_isSame_330 (fun Hq locs hP hD hS => ?_)
        replace hP : va_P D vwCl ((xw a cI cJ ho ke hc tr fo fr st co ro cA cD su jA' jD' ++ (z4 c cM wI hI Hn r ++ [(qL13, .inl (cI, nL13, .inl fL13)), (qL2, .inl (cI, 9, .inl fL2)), (q280, .inl (cI, 6, .inl (upd (upd (upd (upd (upd (upd (fun _ => 0) (0 : Int32).toNatClampNeg (fL13 (0 : Int32).toNatClampNeg)) (1 : Int32).toNatClampNeg (nI nL13)) (2 : Int32).toNatClampNeg x304) (3 : Int32).toNatClampNeg v14) (4 : Int32).toNatClampNeg v15) (5 : Int32).toNatClampNeg (1 : Int32))))])) ++ (zpl cI Wn Hn r gS' gA gD)) Hq := hP
        replace hD : va_D A ((xw a cI cJ ho ke hc tr fo fr st co ro cA cD su jA' jD' ++ (z4 c cM wI hI Hn r ++ [(qL13, .inl (cI, nL13, .inl fL13)), (qL2, .inl (cI, 9, .inl fL2)), (q280, .inl (cI, 6, .inl (upd (upd (upd (upd (upd (upd (fun _ => 0) (0 : Int32).toNatClampNeg (fL13 (0 : Int32).toNatClampNeg)) (1 : Int32).toNatClampNeg (nI nL13)) (2 : Int32).toNatClampNeg x304) (3 : Int32).toNatClampNeg v14) (4 : Int32).toNatClampNeg v15) (5 : Int32).toNatClampNeg (1 : Int32))))])) ++ (zpl cI Wn Hn r gS' gA gD)) := hD
        refine lv_astore (lv' := [(12, .ref q280), (16, .int x273), (0, .ref (c 0)), (1, .ref (a 15)), (2, .ref qL2), (3, .int v3), (4, .int v4), (5, .int v5), (6, .int v6), (7, .int v7), (8, .int v8), (9, .int v9), (10, .int v10), (11, .int v11), (13, .ref qL13), (14, .int v14), (15, .int v15), (17, .int v17), (18, .int v18)]) hx hb dX5_isSame_331 hl (by decide) rfl (fun ls hl => ?_)
        refine lv_aload hx hb dX5_isSame_333 (lv_at hl 14 rfl) ?_
        refine lv_iconst (v := 0) hx hb dX5_isSame_335 (by decide) ?_
        obtain ⟨hb336, hM⟩ := it_x hM
        refine va_iald (D := D) hx hb hK hP 20 0 rfl rfl hb336 dX5_isSame_336 ?_
        refine lv_iload hx hb dX5_isSame_337 (lv_at hl 9 rfl) ?_
        refine lv_icmp_ne (tgt := 384) hx hb dX5_isSame_339 (by decide) (fun hcc => ?_) (fun hcc => ?_)
        · replace hM := it_n hcc hM
          refine lv_iconst (v := 0) hx hb dX5_isSame_384 (by decide) ?_
          refine lv_istore (lv' := [(13, .int (0 : Int32)), (12, .ref q280), (16, .int x273), (0, .ref (c 0)), (1, .ref (a 15)), (2, .ref qL2), (3, .int v3), (4, .int v4), (5, .int v5), (6, .int v6), (7, .int v7), (8, .int v8), (9, .int v9), (10, .int v10), (11, .int v11), (14, .int v14), (15, .int v15), (17, .int v17), (18, .int v18)]) hx hb dX5_isSame_385 hl (by decide) rfl (fun ls hl => ?_)
          replace hP := va_P.part (cx := (xw a cI cJ ho ke hc tr fo fr st co ro cA cD su jA' jD' ++ (z4 c cM wI hI Hn r ++ [(q280, .inl (cI, 6, .inl (upd (upd (upd (upd (upd (upd (fun _ => 0) (0 : Int32).toNatClampNeg (fL13 (0 : Int32).toNatClampNeg)) (1 : Int32).toNatClampNeg (nI nL13)) (2 : Int32).toNatClampNeg x304) (3 : Int32).toNatClampNeg v14) (4 : Int32).toNatClampNeg v15) (5 : Int32).toNatClampNeg (1 : Int32)))), (qL2, .inl (cI, 9, .inl fL2))]))) hP [0, 1, 2, 3, 4, 5, 6, 7, 8, 9, 10, 11, 12, 13, 14, 15, 16, 17, 18, 19, 22, 21] rfl
          replace hD := va_D.part (cx := (xw a cI cJ ho ke hc tr fo fr st co ro cA cD su jA' jD' ++ (z4 c cM wI hI Hn r ++ [(q280, .inl (cI, 6, .inl (upd (upd (upd (upd (upd (upd (fun _ => 0) (0 : Int32).toNatClampNeg (fL13 (0 : Int32).toNatClampNeg)) (1 : Int32).toNatClampNeg (nI nL13)) (2 : Int32).toNatClampNeg x304) (3 : Int32).toNatClampNeg v14) (4 : Int32).toNatClampNeg v15) (5 : Int32).toNatClampNeg (1 : Int32)))), (qL2, .inl (cI, 9, .inl fL2))]))) hD [0, 1, 2, 3, 4, 5, 6, 7, 8, 9, 10, 11, 12, 13, 14, 15, 16, 17, 18, 19, 22, 21] (by decide) rfl
          exact c387 K70 nK70 nS70 hK70 K126 nK126 nS126 hK126 (by omega) (by omega) (by omega) (by omega) (by omega) (by omega) 7 (upd (upd (upd (upd (upd (upd (fun _ => 0) (0 : Int32).toNatClampNeg (fL13 (0 : Int32).toNatClampNeg)) (1 : Int32).toNatClampNeg (nI nL13)) (2 : Int32).toNatClampNeg x304) (3 : Int32).toNatClampNeg v14) (4 : Int32).toNatClampNeg v15) (5 : Int32).toNatClampNeg (1 : Int32)) fL2 v3 v4 v5 v6 v7 v8 v9 v10 v11 (0 : Int32) gS' hM q280 qL2 jA' jD' (kc + 2) (ks + 16) (by omega) (by omega) Hq locs ls hP hD hS (lv_sub hl [3, 4, 5, 6, 7, 8, 9, 10, 11, 12, 13, 14, 1, 0] rfl)
        · replace hM := it_p hcc hM
          refine lv_aload_n hx hb dX5_isSame_342 rfl (lv_at hl 4 rfl) ?_
          refine lv_iconst (v := 4) hx hb dX5_isSame_343 (by decide) ?_
          refine lv_dup2_11 hx hb dX5_isSame_344 rfl rfl ?_
          obtain ⟨hb345, hM⟩ := it_x hM
          refine va_iald (D := D) hx hb hK hP 21 0 rfl rfl hb345 dX5_isSame_345 ?_
          refine lv_iconst (v := 1) hx hb dX5_isSame_346 (by decide) ?_
          refine lv_iadd hx hb dX5_isSame_347 ?_
          obtain ⟨hb348, hM⟩ := it_x hM
          refine va_iast (D := D) hx hb hK hP hD hS 21 0 rfl rfl hb348 dX5_isSame_348 (fun Hq locs hP hD hS => ?_)
          replace hP : va_P D vwCl ((xw a cI cJ ho ke hc tr fo fr st co ro cA cD su jA' jD' ++ (z4 c cM wI hI Hn r ++ [(qL13, .inl (cI, nL13, .inl fL13)), (qL2, .inl (cI, 9, .inl (upd fL2 (4 : Int32).toNatClampNeg ((fL2 (4 : Int32).toNatClampNeg) + (1 : Int32))))), (q280, .inl (cI, 6, .inl (upd (upd (upd (upd (upd (upd (fun _ => 0) (0 : Int32).toNatClampNeg (fL13 (0 : Int32).toNatClampNeg)) (1 : Int32).toNatClampNeg (nI nL13)) (2 : Int32).toNatClampNeg x304) (3 : Int32).toNatClampNeg v14) (4 : Int32).toNatClampNeg v15) (5 : Int32).toNatClampNeg (1 : Int32))))])) ++ (zpl cI Wn Hn r gS' gA gD)) Hq := hP
          replace hD : va_D A ((xw a cI cJ ho ke hc tr fo fr st co ro cA cD su jA' jD' ++ (z4 c cM wI hI Hn r ++ [(qL13, .inl (cI, nL13, .inl fL13)), (qL2, .inl (cI, 9, .inl (upd fL2 (4 : Int32).toNatClampNeg ((fL2 (4 : Int32).toNatClampNeg) + (1 : Int32))))), (q280, .inl (cI, 6, .inl (upd (upd (upd (upd (upd (upd (fun _ => 0) (0 : Int32).toNatClampNeg (fL13 (0 : Int32).toNatClampNeg)) (1 : Int32).toNatClampNeg (nI nL13)) (2 : Int32).toNatClampNeg x304) (3 : Int32).toNatClampNeg v14) (4 : Int32).toNatClampNeg v15) (5 : Int32).toNatClampNeg (1 : Int32))))])) ++ (zpl cI Wn Hn r gS' gA gD)) := hD
          refine lv_aload_n hx hb dX5_isSame_349 rfl (lv_at hl 4 rfl) ?_
          refine lv_iconst (v := 5) hx hb dX5_isSame_350 (by decide) ?_
          refine lv_dup2_11 hx hb dX5_isSame_351 rfl rfl ?_
          obtain ⟨hb352, hM⟩ := it_x hM
          refine va_iald (D := D) hx hb hK hP 21 0 rfl rfl hb352 dX5_isSame_352 ?_
          refine lv_aload hx hb dX5_isSame_353 (lv_at hl 0 rfl) ?_
          refine lv_iconst (v := 2) hx hb dX5_isSame_355 (by decide) ?_
          obtain ⟨hb356, hM⟩ := it_x hM
          refine va_iald (D := D) hx hb hK hP 22 0 rfl rfl hb356 dX5_isSame_356 ?_
          refine lv_if_le (tgt := 364) hx hb dX5_isSame_357 (by decide) (fun hcc => ?_) (fun hcc => ?_)
          · replace hM := it_p hcc hM
            refine lv_iconst (v := 0) hx hb dX5_isSame_364 (by decide) ?_
            replace hP := va_P.part (cx := (xw a cI cJ ho ke hc tr fo fr st co ro cA cD su jA' jD' ++ (z4 c cM wI hI Hn r ++ [(q280, .inl (cI, 6, .inl (upd (upd (upd (upd (upd (upd (fun _ => 0) (0 : Int32).toNatClampNeg (fL13 (0 : Int32).toNatClampNeg)) (1 : Int32).toNatClampNeg (nI nL13)) (2 : Int32).toNatClampNeg x304) (3 : Int32).toNatClampNeg v14) (4 : Int32).toNatClampNeg v15) (5 : Int32).toNatClampNeg (1 : Int32)))), (qL2, .inl (cI, 9, .inl (upd fL2 (4 : Int32).toNatClampNeg ((fL2 (4 : Int32).toNatClampNeg) + (1 : Int32)))))]))) hP [0, 1, 2, 3, 4, 5, 6, 7, 8, 9, 10, 11, 12, 13, 14, 15, 16, 17, 18, 19, 22, 21] rfl
            replace hD := va_D.part (cx := (xw a cI cJ ho ke hc tr fo fr st co ro cA cD su jA' jD' ++ (z4 c cM wI hI Hn r ++ [(q280, .inl (cI, 6, .inl (upd (upd (upd (upd (upd (upd (fun _ => 0) (0 : Int32).toNatClampNeg (fL13 (0 : Int32).toNatClampNeg)) (1 : Int32).toNatClampNeg (nI nL13)) (2 : Int32).toNatClampNeg x304) (3 : Int32).toNatClampNeg v14) (4 : Int32).toNatClampNeg v15) (5 : Int32).toNatClampNeg (1 : Int32)))), (qL2, .inl (cI, 9, .inl (upd fL2 (4 : Int32).toNatClampNeg ((fL2 (4 : Int32).toNatClampNeg) + (1 : Int32)))))]))) hD [0, 1, 2, 3, 4, 5, 6, 7, 8, 9, 10, 11, 12, 13, 14, 15, 16, 17, 18, 19, 22, 21] (by decide) rfl
            exact c365 K70 nK70 nS70 hK70 K126 nK126 nS126 hK126 (by omega) (by omega) (by omega) (by omega) (by omega) (by omega) (upd (upd (upd (upd (upd (upd (fun _ => 0) (0 : Int32).toNatClampNeg (fL13 (0 : Int32).toNatClampNeg)) (1 : Int32).toNatClampNeg (nI nL13)) (2 : Int32).toNatClampNeg x304) (3 : Int32).toNatClampNeg v14) (4 : Int32).toNatClampNeg v15) (5 : Int32).toNatClampNeg (1 : Int32)) (upd fL2 (4 : Int32).toNatClampNeg ((fL2 (4 : Int32).toNatClampNeg) + (1 : Int32))) v3 v4 v5 v6 v7 v8 v9 v10 v11 x273 (0 : Int32) ((upd fL2 (4 : Int32).toNatClampNeg ((fL2 (4 : Int32).toNatClampNeg) + (1 : Int32))) (5 : Int32).toNatClampNeg) (5 : Int32) gS' hM q280 qL2 jA' jD' (kc + 2) (ks + 16) (by omega) (by omega) Hq locs ls hP hD hS (lv_sub hl [2, 3, 4, 5, 6, 7, 8, 9, 10, 11, 12, 13, 0, 1] rfl)
          · replace hM := it_n hcc hM
            refine lv_iconst (v := 1) hx hb dX5_isSame_360 (by decide) ?_
            refine lv_goto (tgt := 365) hx hb dX5_isSame_361 (by decide) ?_
            replace hP := va_P.part (cx := (xw a cI cJ ho ke hc tr fo fr st co ro cA cD su jA' jD' ++ (z4 c cM wI hI Hn r ++ [(q280, .inl (cI, 6, .inl (upd (upd (upd (upd (upd (upd (fun _ => 0) (0 : Int32).toNatClampNeg (fL13 (0 : Int32).toNatClampNeg)) (1 : Int32).toNatClampNeg (nI nL13)) (2 : Int32).toNatClampNeg x304) (3 : Int32).toNatClampNeg v14) (4 : Int32).toNatClampNeg v15) (5 : Int32).toNatClampNeg (1 : Int32)))), (qL2, .inl (cI, 9, .inl (upd fL2 (4 : Int32).toNatClampNeg ((fL2 (4 : Int32).toNatClampNeg) + (1 : Int32)))))]))) hP [0, 1, 2, 3, 4, 5, 6, 7, 8, 9, 10, 11, 12, 13, 14, 15, 16, 17, 18, 19, 22, 21] rfl
            replace hD := va_D.part (cx := (xw a cI cJ ho ke hc tr fo fr st co ro cA cD su jA' jD' ++ (z4 c cM wI hI Hn r ++ [(q280, .inl (cI, 6, .inl (upd (upd (upd (upd (upd (upd (fun _ => 0) (0 : Int32).toNatClampNeg (fL13 (0 : Int32).toNatClampNeg)) (1 : Int32).toNatClampNeg (nI nL13)) (2 : Int32).toNatClampNeg x304) (3 : Int32).toNatClampNeg v14) (4 : Int32).toNatClampNeg v15) (5 : Int32).toNatClampNeg (1 : Int32)))), (qL2, .inl (cI, 9, .inl (upd fL2 (4 : Int32).toNatClampNeg ((fL2 (4 : Int32).toNatClampNeg) + (1 : Int32)))))]))) hD [0, 1, 2, 3, 4, 5, 6, 7, 8, 9, 10, 11, 12, 13, 14, 15, 16, 17, 18, 19, 22, 21] (by decide) rfl
            exact c365 K70 nK70 nS70 hK70 K126 nK126 nS126 hK126 (by omega) (by omega) (by omega) (by omega) (by omega) (by omega) (upd (upd (upd (upd (upd (upd (fun _ => 0) (0 : Int32).toNatClampNeg (fL13 (0 : Int32).toNatClampNeg)) (1 : Int32).toNatClampNeg (nI nL13)) (2 : Int32).toNatClampNeg x304) (3 : Int32).toNatClampNeg v14) (4 : Int32).toNatClampNeg v15) (5 : Int32).toNatClampNeg (1 : Int32)) (upd fL2 (4 : Int32).toNatClampNeg ((fL2 (4 : Int32).toNatClampNeg) + (1 : Int32))) v3 v4 v5 v6 v7 v8 v9 v10 v11 x273 (1 : Int32) ((upd fL2 (4 : Int32).toNatClampNeg ((fL2 (4 : Int32).toNatClampNeg) + (1 : Int32))) (5 : Int32).toNatClampNeg) (5 : Int32) gS' hM q280 qL2 jA' jD' (kc + 2) (ks + 16) (by omega) (by omega) Hq locs ls hP hD hS (lv_sub hl [2, 3, 4, 5, 6, 7, 8, 9, 10, 11, 12, 13, 0, 1] rfl)
    · replace hM := it_n hcc hM
      refine lv_aload hx hb dX5_isSame_225 (lv_at hl 15 rfl) ?_
      refine lv_iload hx hb dX5_isSame_227 (lv_at hl 17 rfl) ?_
      obtain ⟨hb229, hM⟩ := it_x hM
      refine va_iald (D := D) hx hb hK hP 20 0 rfl rfl hb229 dX5_isSame_229 ?_
      refine lv_istore (lv' := [(19, .int (fL13 v18.toNatClampNeg)), (0, .ref (c 0)), (1, .ref (a 15)), (2, .ref qL2), (3, .int v3), (4, .int v4), (5, .int v5), (6, .int v6), (7, .int v7), (8, .int v8), (9, .int v9), (10, .int v10), (11, .int v11), (13, .ref qL13), (14, .int v14), (15, .int v15), (16, .ref qL13), (17, .int v17), (18, .int v18)]) hx hb dX5_isSame_230 hl (by decide) rfl (fun ls hl => ?_)
      refine lv_iload hx hb dX5_isSame_232 (lv_at hl 14 rfl) ?_
      refine lv_aload_n hx hb dX5_isSame_234 rfl (lv_at hl 1 rfl) ?_
      refine lv_iload hx hb dX5_isSame_235 (lv_at hl 0 rfl) ?_
      obtain ⟨x237, hC, hM⟩ := bd_s hM
      refine cP_i (rx := fun (u : Unit) => (z4 c cM wI hI Hn r)) (pl1 := fun (u : Unit) => (zpl cI Wn Hn r gS' gA gD)) [16, 17, 18, 19] [0, 1, 2, 3, 4, 5, 6, 7, 8, 9, 10, 11, 12, 13, 14, 15, 20, 21] (va_runV (As := [.int (fL13 v18.toNatClampNeg)]) (rest := [.int v14]) ⟨hx, hb, hml, hown, hts⟩ (kX5_at (l := l) (D := D) (cI := cI) (cJ := cJ) (cB := cB) (cM := cM) N c r (wI := wI) (hI := hI) (Wn := Wn) (Hn := Hn) (gS := gS') (gA := gA) (gD := gD) (p1 := (fL13 v18.toNatClampNeg)) hC Hq.size) (cwV 1 hts gX5_isSame_X5_at rfl rfl rfl (by decide +kernel) ⟨Nat.le_of_ble_eq_true rfl, Nat.le_of_ble_eq_true rfl⟩) (preVZ [.int (fL13 v18.toNatClampNeg)] hN hK (va_P.part (cx := (z4 c cM wI hI Hn r)) hP [16, 17, 18, 19] rfl) (va_D.part (cx := (z4 c cM wI hI Hn r)) hD [16, 17, 18, 19] (by decide) rfl) (ci := 5) (q0 := 0) rfl rfl) rfl rfl hl.1 rfl (lv_room (Nat.le_of_ble_eq_true rfl)) dX5_isSame_237 ⟨by show _ + 0 ≤ 9767; omega, by show _ + 0 ≤ 62975; omega⟩) hP hD hS hA rfl (wr := (xw a cI cJ ho ke hc tr fo fr st co ro cA cD su jA' jD' ++ [(qL13, .inl (cI, nL13, .inl fL13)), (qL2, .inl (cI, 9, .inl fL2))])) rfl (by decide) (by decide) (fun r0 u237 Hq locs hw hP hD hS => ?_)
      replace hP : va_P D vwCl ((xw a cI cJ ho ke hc tr fo fr st co ro cA cD su jA' jD' ++ (z4 c cM wI hI Hn r ++ [(qL13, .inl (cI, nL13, .inl fL13)), (qL2, .inl (cI, 9, .inl fL2))])) ++ (zpl cI Wn Hn r gS' gA gD)) Hq := va_P.part (cx := (xw a cI cJ ho ke hc tr fo fr st co ro cA cD su jA' jD' ++ (z4 c cM wI hI Hn r ++ [(qL13, .inl (cI, nL13, .inl fL13)), (qL2, .inl (cI, 9, .inl fL2))]))) (pl := (zpl cI Wn Hn r gS' gA gD)) hP [0, 1, 2, 3, 4, 5, 6, 7, 8, 9, 10, 11, 12, 13, 14, 15, 18, 19, 20, 21, 16, 17] rfl
      replace hD : va_D A ((xw a cI cJ ho ke hc tr fo fr st co ro cA cD su jA' jD' ++ (z4 c cM wI hI Hn r ++ [(qL13, .inl (cI, nL13, .inl fL13)), (qL2, .inl (cI, 9, .inl fL2))])) ++ (zpl cI Wn Hn r gS' gA gD)) := va_D.part (cx := (xw a cI cJ ho ke hc tr fo fr st co ro cA cD su jA' jD' ++ (z4 c cM wI hI Hn r ++ [(qL13, .inl (cI, nL13, .inl fL13)), (qL2, .inl (cI, 9, .inl fL2))]))) (pl := (zpl cI Wn Hn r gS' gA gD)) hD [0, 1, 2, 3, 4, 5, 6, 7, 8, 9, 10, 11, 12, 13, 14, 15, 18, 19, 20, 21, 16, 17] (by decide) rfl
      rw [hw]
      refine lv_if_le (tgt := 247) hx hb dX5_isSame_240 (by decide) (fun hcc => ?_) (fun hcc => ?_)
      · replace hM := it_p hcc hM
        refine lv_iconst (v := 0) hx hb dX5_isSame_247 (by decide) ?_
        exact c248 K70 nK70 nS70 hK70 K126 nK126 nS126 hK126 (mX5_isSame_218 N st co ro cA cD su wI hI Wn Hn gA gD K70 K126 n) (16 + nK126) (100 + nS126) ih (by omega) (by omega) (by omega) (by omega) (by omega) (by omega) (by omega) (by omega) (by omega) (by omega) fL13 nL13 fL2 v3 v4 v5 v6 v7 v8 v9 v10 v11 v15 v17 v18 (fL13 v18.toNatClampNeg) (0 : Int32) v14 gS' hM qL13 qL2 jA' jD' kc ks (by omega) (by omega) Hq locs ls hP hD hS (lv_sub hl [1, 2, 3, 4, 5, 6, 7, 8, 9, 10, 11, 12, 13, 15, 16, 17, 18, 0] rfl)
      · replace hM := it_n hcc hM
        refine lv_iconst (v := 1) hx hb dX5_isSame_243 (by decide) ?_
        refine lv_goto (tgt := 248) hx hb dX5_isSame_244 (by decide) ?_
        exact c248 K70 nK70 nS70 hK70 K126 nK126 nS126 hK126 (mX5_isSame_218 N st co ro cA cD su wI hI Wn Hn gA gD K70 K126 n) (16 + nK126) (100 + nS126) ih (by omega) (by omega) (by omega) (by omega) (by omega) (by omega) (by omega) (by omega) (by omega) (by omega) fL13 nL13 fL2 v3 v4 v5 v6 v7 v8 v9 v10 v11 v15 v17 v18 (fL13 v18.toNatClampNeg) (1 : Int32) v14 gS' hM qL13 qL2 jA' jD' kc ks (by omega) (by omega) Hq locs ls hP hD hS (lv_sub hl [1, 2, 3, 4, 5, 6, 7, 8, 9, 10, 11, 12, 13, 15, 16, 17, 18, 0] rfl)
set_option maxHeartbeats 4000000 in
set_option maxRecDepth 100000 in
theorem kX5_isSame_c143 {p : Program} {l : Launch} {D : va_G} {cI cJ cB cM : ClassId} (hlt : l.stackTraces = false) (N : Nat) (a : Nat → Nat) (c : Nat → Nat) (r : Nat → Nat → Nat) {ho : RowI} {ke : RowI} {hc : Int32} {tr : Int32} {fo : Int32} {fr : Int32} {st : RowI} {co : Int32} {ro : Int32} {cA : CS} {cD : CS} {su : RowJ} {jA : JT} {jD : JT} {wI : Int32} {hI : Int32} {Wn : Nat} {Hn : Nat} {gS : RowR} {gA : RowR} {gD : RowR} {o : (Int32 × RowR)} (sz : Nat) {e : Env} {s : State} {m : MethodId} {args : Array Value} {below : List Frame} {meth : Method} {c0 : Code} {Q : State → Prop} {A : Nat → Prop} (hQ : Q = MQD lw_cs below (va_Qi (fun (r0 : Int32) (u : JT × JT) => r0 = o.1 ∧ bz r0) (aft D ((xw a cI cJ ho ke hc tr fo fr st co ro cA cD su jA jD ++ (z4 c cM wI hI Hn r)) ++ (zpl cI Wn Hn r gS gA gD)) sz (fun (u : JT × JT) => ((xw a cI cJ ho ke hc tr fo fr st co ro cA cD su u.1 u.2 ++ (z4 c cM wI hI Hn r)) ++ (zpl cI Wn Hn r o.2 gA gD)))) (va_A ((xw a cI cJ ho ke hc tr fo fr st co ro cA cD su jA jD ++ (z4 c cM wI hI Hn r)) ++ (zpl cI Wn Hn r gS gA gD)) sz)) args s 9767 62975 (va_A ((xw a cI cJ ho ke hc tr fo fr st co ro cA cD su jA jD ++ (z4 c cM wI hI Hn r)) ++ (zpl cI Wn Hn r gS gA gD)) sz)) (hAe : A = (va_A ((xw a cI cJ ho ke hc tr fo fr st co ro cA cD su jA jD ++ (z4 c cM wI hI Hn r)) ++ (zpl cI Wn Hn r gS gA gD)) sz)) (hx : p.tables.exec = Jvm.exec) (hb : c0.code = cX5_isSame) (hr : meth.sig.returnType = (some .boolean)) (hml : c0.maxLocals = 20) (hown : s.vm.findClass RX5 = some m.cls) (hts : ∀ w ∈ wsX5_isSame, w.before args s = true) (hlocks : meth.locks = false) (hTX : TX A s s.heap) (hN : NZ s) (hK : va_K D vwCl (tysZ cI cJ cB cM) s) (hA : ∀ q : Nat, s.heap.size ≤ q → A q) (iX5 : ∀ w ∈ wsX50, w ∈ wsX5_isSame) (f13 : (Cond.fieldLink RX5 13 "CryptSumsLaw$Sim" "h" "I").before args s = true) (f18 : (Cond.fieldLink RX5 18 "CryptSumsLaw$Sim" "stones" "[[I").before args s = true) (f7 : (Cond.fieldLink RX5 7 "CryptSumsLaw$Sim" "w" "I").before args s = true) : ∀ (K70 : RowI → Int32 → Int32 → Int32 → Int32 → Int32 → RowR → Option (Int32 × RowR)) (nK70 nS70 : Nat) (hK70 : ∀ (fL2 : RowI) (v3 : Int32) (v4 : Int32) (v5 : Int32) (v6 : Int32) (v7 : Int32) (gS' : RowR), K70 fL2 v3 v4 v5 v6 v7 gS' = some o → ∀ (qL2 : Nat) (jA' : JT) (jD' : JT), ∀ (kc ks : Nat), kc + (nK70) ≤ 9767 → ks + (nS70) ≤ 62975 → ∀ (Hq : Heap) (locs : List Loc) (ls : Array Slot), va_P D vwCl ((xw a cI cJ ho ke hc tr fo fr st co ro cA cD su jA' jD' ++ (z4 c cM wI hI Hn r ++ [(qL2, .inl (cI, 9, .inl fL2))])) ++ (zpl cI Wn Hn r gS' gA gD)) Hq → va_D A ((xw a cI cJ ho ke hc tr fo fr st co ro cA cD su jA' jD' ++ (z4 c cM wI hI Hn r ++ [(qL2, .inl (cI, 9, .inl fL2))])) ++ (zpl cI Wn Hn r gS' gA gD)) → va_S A s.heap Hq locs → lv_has ls 20 [(0, .ref (c 0)), (1, .ref (a 15)), (2, .ref qL2), (3, .int v3), (4, .int v4), (5, .int v5), (6, .int v6), (7, .int v7)] → W p l e rmX5_isSame s m args below meth c0 Hq locs kc ks Q (F0 m 70 ls [])) (K126 : RowI → Int32 → Int32 → Int32 → Int32 → Int32 → Int32 → Int32 → Int32 → RowR → Option (Int32 × RowR)) (nK126 nS126 : Nat) (hK126 : ∀ (fL2 : RowI) (v3 : Int32) (v4 : Int32) (v5 : Int32) (v6 : Int32) (v7 : Int32) (v8 : Int32) (v9 : Int32) (v10 : Int32) (gS' : RowR), K126 fL2 v3 v4 v5 v6 v7 v8 v9 v10 gS' = some o → ∀ (qL2 : Nat) (jA' : JT) (jD' : JT), ∀ (kc ks : Nat), kc + (nK126) ≤ 9767 → ks + (nS126) ≤ 62975 → ∀ (Hq : Heap) (locs : List Loc) (ls : Array Slot), va_P D vwCl ((xw a cI cJ ho ke hc tr fo fr st co ro cA cD su jA' jD' ++ (z4 c cM wI hI Hn r ++ [(qL2, .inl (cI, 9, .inl fL2))])) ++ (zpl cI Wn Hn r gS' gA gD)) Hq → va_D A ((xw a cI cJ ho ke hc tr fo fr st co ro cA cD su jA' jD' ++ (z4 c cM wI hI Hn r ++ [(qL2, .inl (cI, 9, .inl fL2))])) ++ (zpl cI Wn Hn r gS' gA gD)) → va_S A s.heap Hq locs → lv_has ls 20 [(0, .ref (c 0)), (1, .ref (a 15)), (2, .ref qL2), (3, .int v3), (4, .int v4), (5, .int v5), (6, .int v6), (7, .int v7), (8, .int v8), (9, .int v9), (10, .int v10)] → W p l e rmX5_isSame s m args below meth c0 Hq locs kc ks Q (F0 m 126 ls [])) , 257 ≤ nK70 → 1657 ≤ nS70 → 181 + nK70 ≤ nK126 → 1186 + nS70 ≤ nS126 → 181 ≤ nK126 → 1186 ≤ nS126 → ∀ (fL2 : RowI) (v3 : Int32) (v4 : Int32) (v5 : Int32) (v6 : Int32) (v7 : Int32) (v8 : Int32) (v9 : Int32) (v10 : Int32) (s0 : Int32) (gS' : RowR), mX5_isSame_143 N st co ro cA cD su wI hI Wn Hn gA gD K70 K126 fL2 v3 v4 v5 v6 v7 v8 v9 v10 s0 gS' = some o → ∀ (qL2 : Nat) (jA' : JT) (jD' : JT), ∀ (kc ks : Nat), kc + (25 + nK126) ≤ 9767 → ks + (155 + nS126) ≤ 62975 → ∀ (Hq : Heap) (locs : List Loc) (ls : Array Slot), va_P D vwCl ((xw a cI cJ ho ke hc tr fo fr st co ro cA cD su jA' jD' ++ (z4 c cM wI hI Hn r ++ [(qL2, .inl (cI, 9, .inl fL2))])) ++ (zpl cI Wn Hn r gS' gA gD)) Hq → va_D A ((xw a cI cJ ho ke hc tr fo fr st co ro cA cD su jA' jD' ++ (z4 c cM wI hI Hn r ++ [(qL2, .inl (cI, 9, .inl fL2))])) ++ (zpl cI Wn Hn r gS' gA gD)) → va_S A s.heap Hq locs → lv_has ls 20 [(0, .ref (c 0)), (1, .ref (a 15)), (2, .ref qL2), (3, .int v3), (4, .int v4), (5, .int v5), (6, .int v6), (7, .int v7), (8, .int v8), (9, .int v9), (10, .int v10)] → W p l e rmX5_isSame s m args below meth c0 Hq locs kc ks Q (F0 m 143 ls [.int s0]) := by
  have c387 := kX5_isSame_c387 (p := p) (l := l) (D := D) (cI := cI) (cJ := cJ) (cB := cB) (cM := cM) (hlt := hlt) (N := N) (a := a) (c := c) (r := r) (ho := ho) (ke := ke) (hc := hc) (tr := tr) (fo := fo) (fr := fr) (st := st) (co := co) (ro := ro) (cA := cA) (cD := cD) (su := su) (jA := jA) (jD := jD) (wI := wI) (hI := hI) (Wn := Wn) (Hn := Hn) (gS := gS) (gA := gA) (gD := gD) (o := o) (sz := sz) (e := e) (s := s) (m := m) (args := args) (below := below) (meth := meth) (c0 := c0) (Q := Q) (A := A) (hQ := hQ) (hAe := hAe) (hx := hx) (hb := hb) (hr := hr) (hml := hml) (hown := hown) (hts := hts) (hlocks := hlocks) (hTX := hTX) (hN := hN) (hK := hK) (hA := hA) (iX5 := iX5) (f13 := f13) (f18 := f18) (f7 := f7)
  have c218 := kX5_isSame_c218 (p := p) (l := l) (D := D) (cI := cI) (cJ := cJ) (cB := cB) (cM := cM) (hlt := hlt) (N := N) (a := a) (c := c) (r := r) (ho := ho) (ke := ke) (hc := hc) (tr := tr) (fo := fo) (fr := fr) (st := st) (co := co) (ro := ro) (cA := cA) (cD := cD) (su := su) (jA := jA) (jD := jD) (wI := wI) (hI := hI) (Wn := Wn) (Hn := Hn) (gS := gS) (gA := gA) (gD := gD) (o := o) (sz := sz) (e := e) (s := s) (m := m) (args := args) (below := below) (meth := meth) (c0 := c0) (Q := Q) (A := A) (hQ := hQ) (hAe := hAe) (hx := hx) (hb := hb) (hr := hr) (hml := hml) (hown := hown) (hts := hts) (hlocks := hlocks) (hTX := hTX) (hN := hN) (hK := hK) (hA := hA) (iX5 := iX5) (f13 := f13) (f18 := f18) (f7 := f7)
  intro K70 nK70 nS70 hK70 K126 nK126 nS126 hK126 hp0 hp1 hp2 hp3 hp4 hp5 fL2 v3 v4 v5 v6 v7 v8 v9 v10 s0 gS' hM qL2 jA' jD' kc ks hkc hks Hq locs ls hP hD hS hl
  rw [mX5_isSame_143] at hM
  refine lv_istore (lv' := [(11, .int s0), (0, .ref (c 0)), (1, .ref (a 15)), (2, .ref qL2), (3, .int v3), (4, .int v4), (5, .int v5), (6, .int v6), (7, .int v7), (8, .int v8), (9, .int v9), (10, .int v10)]) hx hb dX5_isSame_143 hl (by decide) rfl (fun ls hl => ?_)
  refine lv_bipush (v := 6) hx hb dX5_isSame_145 (by decide) ?_
  refine newIZ (D := D) (cI := cI) (cJ := cJ) (cB := cB) (cM := cM) hx hb (hts (.arrayClass .int) (by decide +kernel)) hK hP hD hS hA 6 (by decide) (by decide) (by decide) (by show _ ≤ 9767; omega) (by show _ ≤ 62975; omega) dX5_isSame_147 (fun q147 Hq hP hD hS => ?_)
  replace hP := va_P.swap hP
  replace hD := va_D.swap hD
  replace hP : va_P D vwCl ((xw a cI cJ ho ke hc tr fo fr st co ro cA cD su jA' jD' ++ (z4 c cM wI hI Hn r ++ [(qL2, .inl (cI, 9, .inl fL2)), (q147, .inl (cI, 6, .inl (fun _ => 0)))])) ++ (zpl cI Wn Hn r gS' gA gD)) Hq := hP
  replace hD : va_D A ((xw a cI cJ ho ke hc tr fo fr st co ro cA cD su jA' jD' ++ (z4 c cM wI hI Hn r ++ [(qL2, .inl (cI, 9, .inl fL2)), (q147, .inl (cI, 6, .inl (fun _ => 0)))])) ++ (zpl cI Wn Hn r gS' gA gD)) := hD
  refine W.widen (k := kc + 1) (n := ks + 6) (by omega) (by omega) ?_
  refine lv_dup hx hb dX5_isSame_149 rfl ?_
  refine lv_iconst (v := 0) hx hb dX5_isSame_150 (by decide) ?_
  refine lv_iconst (v := -1) hx hb dX5_isSame_151 (by decide) ?_
  obtain ⟨hb152, hM⟩ := it_x hM
  refine va_iast (D := D) hx hb hK hP hD hS 21 0 rfl rfl hb152 dX5_isSame_152 (fun Hq locs hP hD hS => ?_)
  replace hP : va_P D vwCl ((xw a cI cJ ho ke hc tr fo fr st co ro cA cD su jA' jD' ++ (z4 c cM wI hI Hn r ++ [(qL2, .inl (cI, 9, .inl fL2)), (q147, .inl (cI, 6, .inl (upd (fun _ => 0) (0 : Int32).toNatClampNeg (-1 : Int32))))])) ++ (zpl cI Wn Hn r gS' gA gD)) Hq := hP
  replace hD : va_D A ((xw a cI cJ ho ke hc tr fo fr st co ro cA cD su jA' jD' ++ (z4 c cM wI hI Hn r ++ [(qL2, .inl (cI, 9, .inl fL2)), (q147, .inl (cI, 6, .inl (upd (fun _ => 0) (0 : Int32).toNatClampNeg (-1 : Int32))))])) ++ (zpl cI Wn Hn r gS' gA gD)) := hD
  refine lv_dup hx hb dX5_isSame_153 rfl ?_
  refine lv_iconst (v := 1) hx hb dX5_isSame_154 (by decide) ?_
  refine lv_iconst (v := -1) hx hb dX5_isSame_155 (by decide) ?_
  obtain ⟨hb156, hM⟩ := it_x hM
  refine va_iast (D := D) hx hb hK hP hD hS 21 0 rfl rfl hb156 dX5_isSame_156 (fun Hq locs hP hD hS => ?_)
  replace hP : va_P D vwCl ((xw a cI cJ ho ke hc tr fo fr st co ro cA cD su jA' jD' ++ (z4 c cM wI hI Hn r ++ [(qL2, .inl (cI, 9, .inl fL2)), (q147, .inl (cI, 6, .inl (upd (upd (fun _ => 0) (0 : Int32).toNatClampNeg (-1 : Int32)) (1 : Int32).toNatClampNeg (-1 : Int32))))])) ++ (zpl cI Wn Hn r gS' gA gD)) Hq := hP
  replace hD : va_D A ((xw a cI cJ ho ke hc tr fo fr st co ro cA cD su jA' jD' ++ (z4 c cM wI hI Hn r ++ [(qL2, .inl (cI, 9, .inl fL2)), (q147, .inl (cI, 6, .inl (upd (upd (fun _ => 0) (0 : Int32).toNatClampNeg (-1 : Int32)) (1 : Int32).toNatClampNeg (-1 : Int32))))])) ++ (zpl cI Wn Hn r gS' gA gD)) := hD
  refine lv_dup hx hb dX5_isSame_157 rfl ?_
  refine lv_iconst (v := 2) hx hb dX5_isSame_158 (by decide) ?_
  refine lv_iconst (v := -1) hx hb dX5_isSame_159 (by decide) ?_
  obtain ⟨hb160, hM⟩ := it_x hM
  refine va_iast (D := D) hx hb hK hP hD hS 21 0 rfl rfl hb160 dX5_isSame_160 (fun Hq locs hP hD hS => ?_)
  replace hP : va_P D vwCl ((xw a cI cJ ho ke hc tr fo fr st co ro cA cD su jA' jD' ++ (z4 c cM wI hI Hn r ++ [(qL2, .inl (cI, 9, .inl fL2)), (q147, .inl (cI, 6, .inl (upd (upd (upd (fun _ => 0) (0 : Int32).toNatClampNeg (-1 : Int32)) (1 : Int32).toNatClampNeg (-1 : Int32)) (2 : Int32).toNatClampNeg (-1 : Int32))))])) ++ (zpl cI Wn Hn r gS' gA gD)) Hq := hP
  replace hD : va_D A ((xw a cI cJ ho ke hc tr fo fr st co ro cA cD su jA' jD' ++ (z4 c cM wI hI Hn r ++ [(qL2, .inl (cI, 9, .inl fL2)), (q147, .inl (cI, 6, .inl (upd (upd (upd (fun _ => 0) (0 : Int32).toNatClampNeg (-1 : Int32)) (1 : Int32).toNatClampNeg (-1 : Int32)) (2 : Int32).toNatClampNeg (-1 : Int32))))])) ++ (zpl cI Wn Hn r gS' gA gD)) := hD
  refine lv_dup hx hb dX5_isSame_161 rfl ?_
  refine lv_iconst (v := 3) hx hb dX5_isSame_162 (by decide) ?_
  refine lv_iconst (v := -1) hx hb dX5_isSame_163 (by decide) ?_
  obtain ⟨hb164, hM⟩ := it_x hM
  refine va_iast (D := D) hx hb hK hP hD hS 21 0 rfl rfl hb164 dX5_isSame_164 (fun Hq locs hP hD hS => ?_)
  replace hP : va_P D vwCl ((xw a cI cJ ho ke hc tr fo fr st co ro cA cD su jA' jD' ++ (z4 c cM wI hI Hn r ++ [(qL2, .inl (cI, 9, .inl fL2)), (q147, .inl (cI, 6, .inl (upd (upd (upd (upd (fun _ => 0) (0 : Int32).toNatClampNeg (-1 : Int32)) (1 : Int32).toNatClampNeg (-1 : Int32)) (2 : Int32).toNatClampNeg (-1 : Int32)) (3 : Int32).toNatClampNeg (-1 : Int32))))])) ++ (zpl cI Wn Hn r gS' gA gD)) Hq := hP
  replace hD : va_D A ((xw a cI cJ ho ke hc tr fo fr st co ro cA cD su jA' jD' ++ (z4 c cM wI hI Hn r ++ [(qL2, .inl (cI, 9, .inl fL2)), (q147, .inl (cI, 6, .inl (upd (upd (upd (upd (fun _ => 0) (0 : Int32).toNatClampNeg (-1 : Int32)) (1 : Int32).toNatClampNeg (-1 : Int32)) (2 : Int32).toNatClampNeg (-1 : Int32)) (3 : Int32).toNatClampNeg (-1 : Int32))))])) ++ (zpl cI Wn Hn r gS' gA gD)) := hD
  refine lv_dup hx hb dX5_isSame_165 rfl ?_
  refine lv_iconst (v := 4) hx hb dX5_isSame_166 (by decide) ?_
  refine lv_iconst (v := -1) hx hb dX5_isSame_167 (by decide) ?_
  obtain ⟨hb168, hM⟩ := it_x hM
  refine va_iast (D := D) hx hb hK hP hD hS 21 0 rfl rfl hb168 dX5_isSame_168 (fun Hq locs hP hD hS => ?_)
  replace hP : va_P D vwCl ((xw a cI cJ ho ke hc tr fo fr st co ro cA cD su jA' jD' ++ (z4 c cM wI hI Hn r ++ [(qL2, .inl (cI, 9, .inl fL2)), (q147, .inl (cI, 6, .inl (upd (upd (upd (upd (upd (fun _ => 0) (0 : Int32).toNatClampNeg (-1 : Int32)) (1 : Int32).toNatClampNeg (-1 : Int32)) (2 : Int32).toNatClampNeg (-1 : Int32)) (3 : Int32).toNatClampNeg (-1 : Int32)) (4 : Int32).toNatClampNeg (-1 : Int32))))])) ++ (zpl cI Wn Hn r gS' gA gD)) Hq := hP
  replace hD : va_D A ((xw a cI cJ ho ke hc tr fo fr st co ro cA cD su jA' jD' ++ (z4 c cM wI hI Hn r ++ [(qL2, .inl (cI, 9, .inl fL2)), (q147, .inl (cI, 6, .inl (upd (upd (upd (upd (upd (fun _ => 0) (0 : Int32).toNatClampNeg (-1 : Int32)) (1 : Int32).toNatClampNeg (-1 : Int32)) (2 : Int32).toNatClampNeg (-1 : Int32)) (3 : Int32).toNatClampNeg (-1 : Int32)) (4 : Int32).toNatClampNeg (-1 : Int32))))])) ++ (zpl cI Wn Hn r gS' gA gD)) := hD
  refine lv_dup hx hb dX5_isSame_169 rfl ?_
  refine lv_iconst (v := 5) hx hb dX5_isSame_170 (by decide) ?_
  refine lv_iconst (v := -1) hx hb dX5_isSame_171 (by decide) ?_
  obtain ⟨hb172, hM⟩ := it_x hM
  refine va_iast (D := D) hx hb hK hP hD hS 21 0 rfl rfl hb172 dX5_isSame_172 (fun Hq locs hP hD hS => ?_)
  replace hP : va_P D vwCl ((xw a cI cJ ho ke hc tr fo fr st co ro cA cD su jA' jD' ++ (z4 c cM wI hI Hn r ++ [(qL2, .inl (cI, 9, .inl fL2)), (q147, .inl (cI, 6, .inl (upd (upd (upd (upd (upd (upd (fun _ => 0) (0 : Int32).toNatClampNeg (-1 : Int32)) (1 : Int32).toNatClampNeg (-1 : Int32)) (2 : Int32).toNatClampNeg (-1 : Int32)) (3 : Int32).toNatClampNeg (-1 : Int32)) (4 : Int32).toNatClampNeg (-1 : Int32)) (5 : Int32).toNatClampNeg (-1 : Int32))))])) ++ (zpl cI Wn Hn r gS' gA gD)) Hq := hP
  replace hD : va_D A ((xw a cI cJ ho ke hc tr fo fr st co ro cA cD su jA' jD' ++ (z4 c cM wI hI Hn r ++ [(qL2, .inl (cI, 9, .inl fL2)), (q147, .inl (cI, 6, .inl (upd (upd (upd (upd (upd (upd (fun _ => 0) (0 : Int32).toNatClampNeg (-1 : Int32)) (1 : Int32).toNatClampNeg (-1 : Int32)) (2 : Int32).toNatClampNeg (-1 : Int32)) (3 : Int32).toNatClampNeg (-1 : Int32)) (4 : Int32).toNatClampNeg (-1 : Int32)) (5 : Int32).toNatClampNeg (-1 : Int32))))])) ++ (zpl cI Wn Hn r gS' gA gD)) := hD
  refine lv_astore (lv' := [(12, .ref q147), (11, .int s0), (0, .ref (c 0)), (1, .ref (a 15)), (2, .ref qL2), (3, .int v3), (4, .int v4), (5, .int v5), (6, .int v6), (7, .int v7), (8, .int v8), (9, .int v9), (10, .int v10)]) hx hb dX5_isSame_173 hl (by decide) rfl (fun ls hl => ?_)
  refine lv_aload_n hx hb dX5_isSame_175 rfl (lv_at hl 2 rfl) ?_
  refine va_get (D := D) (ci := 5) (v := .ref (c 1)) (C := RX5) (T := TX5) (N := 8) hx hb hts iX5 hown hK hP 16 rfl rfl 2 (by decide) f18 (fun _ h9 => h9) rfl dX5_isSame_176 ?_
  refine lv_iload hx hb dX5_isSame_179 (lv_at hl 11 rfl) ?_
  obtain ⟨hb181, hM⟩ := it_x hM
  refine z_aald (D := D) hx hb hK hP 17 rfl hb181 dX5_isSame_181 ?_
  refine lv_iload hx hb dX5_isSame_182 (lv_at hl 10 rfl) ?_
  obtain ⟨hb184, hM⟩ := it_x hM
  refine va_iald (D := D) hx hb hK hP _ 0 (row0 (xw a cI cJ ho ke hc tr fo fr st co ro cA cD su jA' jD' ++ (z4 c cM wI hI Hn r ++ [(qL2, .inl (cI, 9, .inl fL2)), (q147, .inl (cI, 6, .inl (upd (upd (upd (upd (upd (upd (fun _ => 0) (0 : Int32).toNatClampNeg (-1 : Int32)) (1 : Int32).toNatClampNeg (-1 : Int32)) (2 : Int32).toNatClampNeg (-1 : Int32)) (3 : Int32).toNatClampNeg (-1 : Int32)) (4 : Int32).toNatClampNeg (-1 : Int32)) (5 : Int32).toNatClampNeg (-1 : Int32))))])) (lt_in hb181)) rfl hb184 dX5_isSame_184 ?_
  refine lv_if_lt (tgt := 384) hx hb dX5_isSame_185 (by decide) (fun hcc => ?_) (fun hcc => ?_)
  · replace hM := it_p hcc hM
    refine lv_iconst (v := 0) hx hb dX5_isSame_384 (by decide) ?_
    refine lv_istore (lv' := [(13, .int (0 : Int32)), (12, .ref q147), (11, .int s0), (0, .ref (c 0)), (1, .ref (a 15)), (2, .ref qL2), (3, .int v3), (4, .int v4), (5, .int v5), (6, .int v6), (7, .int v7), (8, .int v8), (9, .int v9), (10, .int v10)]) hx hb dX5_isSame_385 hl (by decide) rfl (fun ls hl => ?_)
    replace hP := va_P.part (cx := (xw a cI cJ ho ke hc tr fo fr st co ro cA cD su jA' jD' ++ (z4 c cM wI hI Hn r ++ [(q147, .inl (cI, 6, .inl (upd (upd (upd (upd (upd (upd (fun _ => 0) (0 : Int32).toNatClampNeg (-1 : Int32)) (1 : Int32).toNatClampNeg (-1 : Int32)) (2 : Int32).toNatClampNeg (-1 : Int32)) (3 : Int32).toNatClampNeg (-1 : Int32)) (4 : Int32).toNatClampNeg (-1 : Int32)) (5 : Int32).toNatClampNeg (-1 : Int32)))), (qL2, .inl (cI, 9, .inl fL2))]))) hP [0, 1, 2, 3, 4, 5, 6, 7, 8, 9, 10, 11, 12, 13, 14, 15, 16, 17, 18, 19, 21, 20] rfl
    replace hD := va_D.part (cx := (xw a cI cJ ho ke hc tr fo fr st co ro cA cD su jA' jD' ++ (z4 c cM wI hI Hn r ++ [(q147, .inl (cI, 6, .inl (upd (upd (upd (upd (upd (upd (fun _ => 0) (0 : Int32).toNatClampNeg (-1 : Int32)) (1 : Int32).toNatClampNeg (-1 : Int32)) (2 : Int32).toNatClampNeg (-1 : Int32)) (3 : Int32).toNatClampNeg (-1 : Int32)) (4 : Int32).toNatClampNeg (-1 : Int32)) (5 : Int32).toNatClampNeg (-1 : Int32)))), (qL2, .inl (cI, 9, .inl fL2))]))) hD [0, 1, 2, 3, 4, 5, 6, 7, 8, 9, 10, 11, 12, 13, 14, 15, 16, 17, 18, 19, 21, 20] (by decide) rfl
    exact c387 K70 nK70 nS70 hK70 K126 nK126 nS126 hK126 (by omega) (by omega) (by omega) (by omega) (by omega) (by omega) 7 (upd (upd (upd (upd (upd (upd (fun _ => 0) (0 : Int32).toNatClampNeg (-1 : Int32)) (1 : Int32).toNatClampNeg (-1 : Int32)) (2 : Int32).toNatClampNeg (-1 : Int32)) (3 : Int32).toNatClampNeg (-1 : Int32)) (4 : Int32).toNatClampNeg (-1 : Int32)) (5 : Int32).toNatClampNeg (-1 : Int32)) fL2 v3 v4 v5 v6 v7 v8 v9 v10 s0 (0 : Int32) gS' hM q147 qL2 jA' jD' (kc + 1) (ks + 6) (by omega) (by omega) Hq locs ls hP hD hS (lv_sub hl [3, 4, 5, 6, 7, 8, 9, 10, 11, 12, 13, 2, 1, 0] rfl)
  · replace hM := it_n hcc hM
    refine lv_aload_n hx hb dX5_isSame_188 rfl (lv_at hl 2 rfl) ?_
    refine lv_iload hx hb dX5_isSame_189 (lv_at hl 10 rfl) ?_
    refine lv_iload hx hb dX5_isSame_191 (lv_at hl 11 rfl) ?_
    refine lv_iload hx hb dX5_isSame_193 (lv_at hl 1 rfl) ?_
    obtain ⟨x195, hC, hM⟩ := bd_s hM
    refine cP_r (rx := fun (u : Unit) b => (z4 c cM wI hI Hn r ++ [(b, .inl (cI, x195.1, .inl x195.2))])) (pl1 := fun (u : Unit) b => (zpl cI Wn Hn r gS' gA gD)) [16, 17, 18, 19] [0, 1, 2, 3, 4, 5, 6, 7, 8, 9, 10, 11, 12, 13, 14, 15, 20, 21] (va_runV (As := [.int v8, .int v9, .int s0]) (rest := []) ⟨hx, hb, hml, hown, hts⟩ (kX5_corridor (l := l) (D := D) (cI := cI) (cJ := cJ) (cB := cB) (cM := cM) N c r (wI := wI) (hI := hI) (Wn := Wn) (Hn := Hn) (gS := gS') (gA := gA) (gD := gD) (p1 := v8) (p2 := v9) (p3 := s0) hC Hq.size) (cwV 3 hts gX5_isSame_X5_corridor rfl rfl rfl (by decide +kernel) ⟨Nat.le_of_ble_eq_true rfl, Nat.le_of_ble_eq_true rfl⟩) (preVZ [.int v8, .int v9, .int s0] hN hK (va_P.part (cx := (z4 c cM wI hI Hn r)) hP [16, 17, 18, 19] rfl) (va_D.part (cx := (z4 c cM wI hI Hn r)) hD [16, 17, 18, 19] (by decide) rfl) (ci := 5) (q0 := 0) rfl rfl) rfl rfl hl.1 rfl (lv_room (Nat.le_of_ble_eq_true rfl)) dX5_isSame_195 ⟨by show _ + 8 ≤ 9767; omega, by show _ + 49 ≤ 62975; omega⟩) hP hD hS hA rfl (wr := (xw a cI cJ ho ke hc tr fo fr st co ro cA cD su jA' jD' ++ [(qL2, .inl (cI, 9, .inl fL2)), (q147, .inl (cI, 6, .inl (upd (upd (upd (upd (upd (upd (fun _ => 0) (0 : Int32).toNatClampNeg (-1 : Int32)) (1 : Int32).toNatClampNeg (-1 : Int32)) (2 : Int32).toNatClampNeg (-1 : Int32)) (3 : Int32).toNatClampNeg (-1 : Int32)) (4 : Int32).toNatClampNeg (-1 : Int32)) (5 : Int32).toNatClampNeg (-1 : Int32))))])) rfl (by decide) (by decide) (fun u195 q195 Hq locs hw hP hD hS => ?_)
    replace hP : va_P D vwCl ((xw a cI cJ ho ke hc tr fo fr st co ro cA cD su jA' jD' ++ (z4 c cM wI hI Hn r ++ [(qL2, .inl (cI, 9, .inl fL2)), (q147, .inl (cI, 6, .inl (upd (upd (upd (upd (upd (upd (fun _ => 0) (0 : Int32).toNatClampNeg (-1 : Int32)) (1 : Int32).toNatClampNeg (-1 : Int32)) (2 : Int32).toNatClampNeg (-1 : Int32)) (3 : Int32).toNatClampNeg (-1 : Int32)) (4 : Int32).toNatClampNeg (-1 : Int32)) (5 : Int32).toNatClampNeg (-1 : Int32)))), (q195, .inl (cI, x195.1, .inl x195.2))])) ++ (zpl cI Wn Hn r gS' gA gD)) Hq := va_P.part (cx := (xw a cI cJ ho ke hc tr fo fr st co ro cA cD su jA' jD' ++ (z4 c cM wI hI Hn r ++ [(qL2, .inl (cI, 9, .inl fL2)), (q147, .inl (cI, 6, .inl (upd (upd (upd (upd (upd (upd (fun _ => 0) (0 : Int32).toNatClampNeg (-1 : Int32)) (1 : Int32).toNatClampNeg (-1 : Int32)) (2 : Int32).toNatClampNeg (-1 : Int32)) (3 : Int32).toNatClampNeg (-1 : Int32)) (4 : Int32).toNatClampNeg (-1 : Int32)) (5 : Int32).toNatClampNeg (-1 : Int32)))), (q195, .inl (cI, x195.1, .inl x195.2))]))) (pl := (zpl cI Wn Hn r gS' gA gD)) hP [0, 1, 2, 3, 4, 5, 6, 7, 8, 9, 10, 11, 12, 13, 14, 15, 18, 19, 20, 21, 16, 17, 22] rfl
    replace hD : va_D A ((xw a cI cJ ho ke hc tr fo fr st co ro cA cD su jA' jD' ++ (z4 c cM wI hI Hn r ++ [(qL2, .inl (cI, 9, .inl fL2)), (q147, .inl (cI, 6, .inl (upd (upd (upd (upd (upd (upd (fun _ => 0) (0 : Int32).toNatClampNeg (-1 : Int32)) (1 : Int32).toNatClampNeg (-1 : Int32)) (2 : Int32).toNatClampNeg (-1 : Int32)) (3 : Int32).toNatClampNeg (-1 : Int32)) (4 : Int32).toNatClampNeg (-1 : Int32)) (5 : Int32).toNatClampNeg (-1 : Int32)))), (q195, .inl (cI, x195.1, .inl x195.2))])) ++ (zpl cI Wn Hn r gS' gA gD)) := va_D.part (cx := (xw a cI cJ ho ke hc tr fo fr st co ro cA cD su jA' jD' ++ (z4 c cM wI hI Hn r ++ [(qL2, .inl (cI, 9, .inl fL2)), (q147, .inl (cI, 6, .inl (upd (upd (upd (upd (upd (upd (fun _ => 0) (0 : Int32).toNatClampNeg (-1 : Int32)) (1 : Int32).toNatClampNeg (-1 : Int32)) (2 : Int32).toNatClampNeg (-1 : Int32)) (3 : Int32).toNatClampNeg (-1 : Int32)) (4 : Int32).toNatClampNeg (-1 : Int32)) (5 : Int32).toNatClampNeg (-1 : Int32)))), (q195, .inl (cI, x195.1, .inl x195.2))]))) (pl := (zpl cI Wn Hn r gS' gA gD)) hD [0, 1, 2, 3, 4, 5, 6, 7, 8, 9, 10, 11, 12, 13, 14, 15, 18, 19, 20, 21, 16, 17, 22] (by decide) rfl
    refine W.widen (k := kc + 9) (n := ks + 55) (by show _ + 8 ≤ _; omega) (by show _ + 49 ≤ _; omega) ?_
    refine lv_astore (lv' := [(13, .ref q195), (12, .ref q147), (11, .int s0), (0, .ref (c 0)), (1, .ref (a 15)), (2, .ref qL2), (3, .int v3), (4, .int v4), (5, .int v5), (6, .int v6), (7, .int v7), (8, .int v8), (9, .int v9), (10, .int v10)]) hx hb dX5_isSame_198 hl (by decide) rfl (fun ls hl => ?_)
    refine lv_iconst (v := 0) hx hb dX5_isSame_200 (by decide) ?_
    refine lv_istore (lv' := [(14, .int (0 : Int32)), (13, .ref q195), (12, .ref q147), (11, .int s0), (0, .ref (c 0)), (1, .ref (a 15)), (2, .ref qL2), (3, .int v3), (4, .int v4), (5, .int v5), (6, .int v6), (7, .int v7), (8, .int v8), (9, .int v9), (10, .int v10)]) hx hb dX5_isSame_201 hl (by decide) rfl (fun ls hl => ?_)
    refine lv_iconst (v := 0) hx hb dX5_isSame_203 (by decide) ?_
    refine lv_istore (lv' := [(15, .int (0 : Int32)), (14, .int (0 : Int32)), (13, .ref q195), (12, .ref q147), (11, .int s0), (0, .ref (c 0)), (1, .ref (a 15)), (2, .ref qL2), (3, .int v3), (4, .int v4), (5, .int v5), (6, .int v6), (7, .int v7), (8, .int v8), (9, .int v9), (10, .int v10)]) hx hb dX5_isSame_204 hl (by decide) rfl (fun ls hl => ?_)
    refine lv_aload hx hb dX5_isSame_206 (lv_at hl 2 rfl) ?_
    refine lv_astore (lv' := [(16, .ref q195), (15, .int (0 : Int32)), (14, .int (0 : Int32)), (13, .ref q195), (12, .ref q147), (11, .int s0), (0, .ref (c 0)), (1, .ref (a 15)), (2, .ref qL2), (3, .int v3), (4, .int v4), (5, .int v5), (6, .int v6), (7, .int v7), (8, .int v8), (9, .int v9), (10, .int v10)]) hx hb dX5_isSame_208 hl (by decide) rfl (fun ls hl => ?_)
    refine lv_aload hx hb dX5_isSame_210 (lv_at hl 0 rfl) ?_
    refine va_alen (D := D) (v := (nI x195.1)) hx hb hK hP 22 0 rfl rfl rfl dX5_isSame_212 ?_
    refine lv_istore (lv' := [(17, .int (nI x195.1)), (16, .ref q195), (15, .int (0 : Int32)), (14, .int (0 : Int32)), (13, .ref q195), (12, .ref q147), (11, .int s0), (0, .ref (c 0)), (1, .ref (a 15)), (2, .ref qL2), (3, .int v3), (4, .int v4), (5, .int v5), (6, .int v6), (7, .int v7), (8, .int v8), (9, .int v9), (10, .int v10)]) hx hb dX5_isSame_213 hl (by decide) rfl (fun ls hl => ?_)
    refine lv_iconst (v := 0) hx hb dX5_isSame_215 (by decide) ?_
    refine lv_istore (lv' := [(18, .int (0 : Int32)), (17, .int (nI x195.1)), (16, .ref q195), (15, .int (0 : Int32)), (14, .int (0 : Int32)), (13, .ref q195), (12, .ref q147), (11, .int s0), (0, .ref (c 0)), (1, .ref (a 15)), (2, .ref qL2), (3, .int v3), (4, .int v4), (5, .int v5), (6, .int v6), (7, .int v7), (8, .int v8), (9, .int v9), (10, .int v10)]) hx hb dX5_isSame_216 hl (by decide) rfl (fun ls hl => ?_)
    replace hP := va_P.part (cx := (xw a cI cJ ho ke hc tr fo fr st co ro cA cD su jA' jD' ++ (z4 c cM wI hI Hn r ++ [(q195, .inl (cI, x195.1, .inl x195.2)), (qL2, .inl (cI, 9, .inl fL2))]))) hP [0, 1, 2, 3, 4, 5, 6, 7, 8, 9, 10, 11, 12, 13, 14, 15, 16, 17, 18, 19, 22, 20] rfl
    replace hD := va_D.part (cx := (xw a cI cJ ho ke hc tr fo fr st co ro cA cD su jA' jD' ++ (z4 c cM wI hI Hn r ++ [(q195, .inl (cI, x195.1, .inl x195.2)), (qL2, .inl (cI, 9, .inl fL2))]))) hD [0, 1, 2, 3, 4, 5, 6, 7, 8, 9, 10, 11, 12, 13, 14, 15, 16, 17, 18, 19, 22, 20] (by decide) rfl
    exact c218 K70 nK70 nS70 hK70 K126 nK126 nS126 hK126 (by omega) (by omega) (by omega) (by omega) (by omega) (by omega) N x195.2 x195.1 fL2 v3 v4 v5 v6 v7 v8 v9 v10 s0 (0 : Int32) (0 : Int32) (nI x195.1) (0 : Int32) gS' hM q195 qL2 jA' jD' (kc + 9) (ks + 55) (by omega) (by omega) Hq locs ls hP hD hS (lv_sub hl [8, 9, 10, 11, 12, 13, 14, 15, 16, 17, 18, 7, 5, 4, 3, 2, 1, 0] rfl)
set_option maxHeartbeats 4000000 in
set_option maxRecDepth 100000 in
theorem kX5_isSame_c126 {p : Program} {l : Launch} {D : va_G} {cI cJ cB cM : ClassId} (hlt : l.stackTraces = false) (N : Nat) (a : Nat → Nat) (c : Nat → Nat) (r : Nat → Nat → Nat) {ho : RowI} {ke : RowI} {hc : Int32} {tr : Int32} {fo : Int32} {fr : Int32} {st : RowI} {co : Int32} {ro : Int32} {cA : CS} {cD : CS} {su : RowJ} {jA : JT} {jD : JT} {wI : Int32} {hI : Int32} {Wn : Nat} {Hn : Nat} {gS : RowR} {gA : RowR} {gD : RowR} {o : (Int32 × RowR)} (sz : Nat) {e : Env} {s : State} {m : MethodId} {args : Array Value} {below : List Frame} {meth : Method} {c0 : Code} {Q : State → Prop} {A : Nat → Prop} (hQ : Q = MQD lw_cs below (va_Qi (fun (r0 : Int32) (u : JT × JT) => r0 = o.1 ∧ bz r0) (aft D ((xw a cI cJ ho ke hc tr fo fr st co ro cA cD su jA jD ++ (z4 c cM wI hI Hn r)) ++ (zpl cI Wn Hn r gS gA gD)) sz (fun (u : JT × JT) => ((xw a cI cJ ho ke hc tr fo fr st co ro cA cD su u.1 u.2 ++ (z4 c cM wI hI Hn r)) ++ (zpl cI Wn Hn r o.2 gA gD)))) (va_A ((xw a cI cJ ho ke hc tr fo fr st co ro cA cD su jA jD ++ (z4 c cM wI hI Hn r)) ++ (zpl cI Wn Hn r gS gA gD)) sz)) args s 9767 62975 (va_A ((xw a cI cJ ho ke hc tr fo fr st co ro cA cD su jA jD ++ (z4 c cM wI hI Hn r)) ++ (zpl cI Wn Hn r gS gA gD)) sz)) (hAe : A = (va_A ((xw a cI cJ ho ke hc tr fo fr st co ro cA cD su jA jD ++ (z4 c cM wI hI Hn r)) ++ (zpl cI Wn Hn r gS gA gD)) sz)) (hx : p.tables.exec = Jvm.exec) (hb : c0.code = cX5_isSame) (hr : meth.sig.returnType = (some .boolean)) (hml : c0.maxLocals = 20) (hown : s.vm.findClass RX5 = some m.cls) (hts : ∀ w ∈ wsX5_isSame, w.before args s = true) (hlocks : meth.locks = false) (hTX : TX A s s.heap) (hN : NZ s) (hK : va_K D vwCl (tysZ cI cJ cB cM) s) (hA : ∀ q : Nat, s.heap.size ≤ q → A q) (iX5 : ∀ w ∈ wsX50, w ∈ wsX5_isSame) (f13 : (Cond.fieldLink RX5 13 "CryptSumsLaw$Sim" "h" "I").before args s = true) (f18 : (Cond.fieldLink RX5 18 "CryptSumsLaw$Sim" "stones" "[[I").before args s = true) (f7 : (Cond.fieldLink RX5 7 "CryptSumsLaw$Sim" "w" "I").before args s = true) : ∀ (K70 : RowI → Int32 → Int32 → Int32 → Int32 → Int32 → RowR → Option (Int32 × RowR)) (nK70 nS70 : Nat) (hK70 : ∀ (fL2 : RowI) (v3 : Int32) (v4 : Int32) (v5 : Int32) (v6 : Int32) (v7 : Int32) (gS' : RowR), K70 fL2 v3 v4 v5 v6 v7 gS' = some o → ∀ (qL2 : Nat) (jA' : JT) (jD' : JT), ∀ (kc ks : Nat), kc + (nK70) ≤ 9767 → ks + (nS70) ≤ 62975 → ∀ (Hq : Heap) (locs : List Loc) (ls : Array Slot), va_P D vwCl ((xw a cI cJ ho ke hc tr fo fr st co ro cA cD su jA' jD' ++ (z4 c cM wI hI Hn r ++ [(qL2, .inl (cI, 9, .inl fL2))])) ++ (zpl cI Wn Hn r gS' gA gD)) Hq → va_D A ((xw a cI cJ ho ke hc tr fo fr st co ro cA cD su jA' jD' ++ (z4 c cM wI hI Hn r ++ [(qL2, .inl (cI, 9, .inl fL2))])) ++ (zpl cI Wn Hn r gS' gA gD)) → va_S A s.heap Hq locs → lv_has ls 20 [(0, .ref (c 0)), (1, .ref (a 15)), (2, .ref qL2), (3, .int v3), (4, .int v4), (5, .int v5), (6, .int v6), (7, .int v7)] → W p l e rmX5_isSame s m args below meth c0 Hq locs kc ks Q (F0 m 70 ls [])) , 257 ≤ nK70 → 1657 ≤ nS70 → ∀ (n : Nat), ∀ (fL2 : RowI) (v3 : Int32) (v4 : Int32) (v5 : Int32) (v6 : Int32) (v7 : Int32) (v8 : Int32) (v9 : Int32) (v10 : Int32) (gS' : RowR), mX5_isSame_126 N st co ro cA cD su wI hI Wn Hn gA gD K70 n fL2 v3 v4 v5 v6 v7 v8 v9 v10 gS' = some o → ∀ (qL2 : Nat) (jA' : JT) (jD' : JT), ∀ (kc ks : Nat), kc + (n * 25 + 181 + nK70) ≤ 9767 → ks + (n * 155 + 1186 + nS70) ≤ 62975 → ∀ (Hq : Heap) (locs : List Loc) (ls : Array Slot), va_P D vwCl ((xw a cI cJ ho ke hc tr fo fr st co ro cA cD su jA' jD' ++ (z4 c cM wI hI Hn r ++ [(qL2, .inl (cI, 9, .inl fL2))])) ++ (zpl cI Wn Hn r gS' gA gD)) Hq → va_D A ((xw a cI cJ ho ke hc tr fo fr st co ro cA cD su jA' jD' ++ (z4 c cM wI hI Hn r ++ [(qL2, .inl (cI, 9, .inl fL2))])) ++ (zpl cI Wn Hn r gS' gA gD)) → va_S A s.heap Hq locs → lv_has ls 20 [(0, .ref (c 0)), (1, .ref (a 15)), (2, .ref qL2), (3, .int v3), (4, .int v4), (5, .int v5), (6, .int v6), (7, .int v7), (8, .int v8), (9, .int v9), (10, .int v10)] → W p l e rmX5_isSame s m args below meth c0 Hq locs kc ks Q (F0 m 126 ls []) := by
  have c478 := kX5_isSame_c478 (p := p) (l := l) (D := D) (cI := cI) (cJ := cJ) (cB := cB) (cM := cM) (hlt := hlt) (N := N) (a := a) (c := c) (r := r) (ho := ho) (ke := ke) (hc := hc) (tr := tr) (fo := fo) (fr := fr) (st := st) (co := co) (ro := ro) (cA := cA) (cD := cD) (su := su) (jA := jA) (jD := jD) (wI := wI) (hI := hI) (Wn := Wn) (Hn := Hn) (gS := gS) (gA := gA) (gD := gD) (o := o) (sz := sz) (e := e) (s := s) (m := m) (args := args) (below := below) (meth := meth) (c0 := c0) (Q := Q) (A := A) (hQ := hQ) (hAe := hAe) (hx := hx) (hb := hb) (hr := hr) (hml := hml) (hown := hown) (hts := hts) (hlocks := hlocks) (hTX := hTX) (hN := hN) (hK := hK) (hA := hA) (iX5 := iX5) (f13 := f13) (f18 := f18) (f7 := f7)
  have c143 := kX5_isSame_c143 (p := p) (l := l) (D := D) (cI := cI) (cJ := cJ) (cB := cB) (cM := cM) (hlt := hlt) (N := N) (a := a) (c := c) (r := r) (ho := ho) (ke := ke) (hc := hc) (tr := tr) (fo := fo) (fr := fr) (st := st) (co := co) (ro := ro) (cA := cA) (cD := cD) (su := su) (jA := jA) (jD := jD) (wI := wI) (hI := hI) (Wn := Wn) (Hn := Hn) (gS := gS) (gA := gA) (gD := gD) (o := o) (sz := sz) (e := e) (s := s) (m := m) (args := args) (below := below) (meth := meth) (c0 := c0) (Q := Q) (A := A) (hQ := hQ) (hAe := hAe) (hx := hx) (hb := hb) (hr := hr) (hml := hml) (hown := hown) (hts := hts) (hlocks := hlocks) (hTX := hTX) (hN := hN) (hK := hK) (hA := hA) (iX5 := iX5) (f13 := f13) (f18 := f18) (f7 := f7)
  intro K70 nK70 nS70 hK70 hp0 hp1 n
  induction n with
  | zero =>
    intro fL2 v3 v4 v5 v6 v7 v8 v9 v10 gS' hM
    rw [mX5_isSame_126] at hM
    cases hM
  | succ n ih =>
    intro fL2 v3 v4 v5 v6 v7 v8 v9 v10 gS' hM qL2 jA' jD' kc ks hkc hks Hq locs ls hP hD hS hl
    rw [mX5_isSame_126] at hM
    refine lv_iload hx hb dX5_isSame_126 (lv_at hl 10 rfl) ?_
    refine lv_iconst (v := 2) hx hb dX5_isSame_128 (by decide) ?_
    refine lv_icmp_ge (tgt := 426) hx hb dX5_isSame_129 (by decide) (fun hcc => ?_) (fun hcc => ?_)
    · replace hM := it_p hcc hM
      refine lv_aload_n hx hb dX5_isSame_426 rfl (lv_at hl 0 rfl) ?_
      refine lv_iload hx hb dX5_isSame_427 (lv_at hl 8 rfl) ?_
      refine lv_iload hx hb dX5_isSame_429 (lv_at hl 9 rfl) ?_
      obtain ⟨x431, hC, hM⟩ := bd_s hM
      refine cP_i (rx := fun (u : Unit) => (z4 c cM wI hI Hn r)) (pl1 := fun (u : Unit) => (zpl cI Wn Hn r x431.2 gA gD)) [16, 17, 18, 19] [0, 1, 2, 3, 4, 5, 6, 7, 8, 9, 10, 11, 12, 13, 14, 15, 20] (va_runV (As := [.int v8, .int v9]) (rest := []) ⟨hx, hb, hml, hown, hts⟩ (kX5_can (l := l) (D := D) (cI := cI) (cJ := cJ) (cB := cB) (cM := cM) N c r (wI := wI) (hI := hI) (Wn := Wn) (Hn := Hn) (gS := gS') (gA := gA) (gD := gD) (p1 := v8) (p2 := v9) hC Hq.size) (cwV 2 hts gX5_isSame_X5_can rfl rfl rfl (by decide +kernel) ⟨Nat.le_of_ble_eq_true rfl, Nat.le_of_ble_eq_true rfl⟩) (preVZ [.int v8, .int v9] hN hK (va_P.part (cx := (z4 c cM wI hI Hn r)) hP [16, 17, 18, 19] rfl) (va_D.part (cx := (z4 c cM wI hI Hn r)) hD [16, 17, 18, 19] (by decide) rfl) (ci := 5) (q0 := 0) rfl rfl) rfl rfl hl.1 rfl (lv_room (Nat.le_of_ble_eq_true rfl)) dX5_isSame_431 ⟨by show _ + 180 ≤ 9767; omega, by show _ + 1180 ≤ 62975; omega⟩) hP hD hS hA rfl (wr := (xw a cI cJ ho ke hc tr fo fr st co ro cA cD su jA' jD' ++ [(qL2, .inl (cI, 9, .inl fL2))])) rfl (by decide) (by decide) (fun r0 u431 Hq locs hw hP hD hS => ?_)
      replace hP : va_P D vwCl ((xw a cI cJ ho ke hc tr fo fr st co ro cA cD su jA' jD' ++ (z4 c cM wI hI Hn r ++ [(qL2, .inl (cI, 9, .inl fL2))])) ++ (zpl cI Wn Hn r x431.2 gA gD)) Hq := va_P.part (cx := (xw a cI cJ ho ke hc tr fo fr st co ro cA cD su jA' jD' ++ (z4 c cM wI hI Hn r ++ [(qL2, .inl (cI, 9, .inl fL2))]))) (pl := (zpl cI Wn Hn r x431.2 gA gD)) hP [0, 1, 2, 3, 4, 5, 6, 7, 8, 9, 10, 11, 12, 13, 14, 15, 17, 18, 19, 20, 16] rfl
      replace hD : va_D A ((xw a cI cJ ho ke hc tr fo fr st co ro cA cD su jA' jD' ++ (z4 c cM wI hI Hn r ++ [(qL2, .inl (cI, 9, .inl fL2))])) ++ (zpl cI Wn Hn r x431.2 gA gD)) := va_D.part (cx := (xw a cI cJ ho ke hc tr fo fr st co ro cA cD su jA' jD' ++ (z4 c cM wI hI Hn r ++ [(qL2, .inl (cI, 9, .inl fL2))]))) (pl := (zpl cI Wn Hn r x431.2 gA gD)) hD [0, 1, 2, 3, 4, 5, 6, 7, 8, 9, 10, 11, 12, 13, 14, 15, 17, 18, 19, 20, 16] (by decide) rfl
      rw [hw]
      refine W.widen (k := kc + 180) (n := ks + 1180) (by show _ + 180 ≤ _; omega) (by show _ + 1180 ≤ _; omega) ?_
      refine lv_istore (lv' := [(10, .int x431.1), (0, .ref (c 0)), (1, .ref (a 15)), (2, .ref qL2), (3, .int v3), (4, .int v4), (5, .int v5), (6, .int v6), (7, .int v7), (8, .int v8), (9, .int v9)]) hx hb dX5_isSame_434 hl (by decide) rfl (fun ls hl => ?_)
      refine lv_iload hx hb dX5_isSame_436 (lv_at hl 0 rfl) ?_
      obtain ⟨x438, hC, hM⟩ := bd_s hM
      refine cR_i (va_runS (As := [.int x431.1]) (rest := []) ⟨hx, hb, hml, hown, hts⟩ (kX5_many (l := l) (D := D) (cI := cI) (cJ := cJ) N (p1 := x431.1) hC Hq.size) (va_cwS 1 hts gX5_isSame_X5_many rfl rfl rfl (by decide +kernel) ⟨Nat.le_of_ble_eq_true rfl, Nat.le_of_ble_eq_true rfl⟩) (preS [.int x431.1] hN.1 (KX hK) (hP.sub (ws' := zw) [] rfl) (hD.sub (ws' := zw) [] (by decide) rfl)) rfl rfl hl.1 rfl (lv_room (Nat.le_of_ble_eq_true rfl)) dX5_isSame_438 ⟨by show _ + 0 ≤ 9767; omega, by show _ + 0 ≤ 62975; omega⟩) hP hS (fun r0 u Hq locs hw hP hS => ?_)
      rw [hw]
      refine lv_istore (lv' := [(11, .int x438), (10, .int x431.1), (0, .ref (c 0)), (1, .ref (a 15)), (2, .ref qL2), (3, .int v3), (4, .int v4), (5, .int v5), (6, .int v6), (7, .int v7), (8, .int v8), (9, .int v9)]) hx hb dX5_isSame_441 hl (by decide) rfl (fun ls hl => ?_)
      refine lv_aload_n hx hb dX5_isSame_443 rfl (lv_at hl 3 rfl) ?_
      refine lv_iload hx hb dX5_isSame_444 (lv_at hl 9 rfl) ?_
      obtain ⟨x446, hC, hM⟩ := bd_s hM
      refine cTQ_i [0, 1, 2, 3, 4, 5, 6, 7, 8, 9, 10, 11, 12, 13, 14, 15] [16, 17, 18, 19, 20] (vx_runV (As := [.int v7]) (rest := []) ⟨hx, hb, hml, hown, hts⟩ (kX4_can (l := l) (D := D) (cI := cI) (cJ := cJ) hlt N a (ho := ho) (ke := ke) (hc := hc) (tr := tr) (fo := fo) (fr := fr) (st := st) (co := co) (ro := ro) (cA := cA) (cD := cD) (su := su) (jA := jA') (jD := jD') (p1 := v7) hC Hq.size) (cwV 1 hts gX5_isSame_X4_can rfl rfl rfl (by decide +kernel) ⟨Nat.le_of_ble_eq_true rfl, Nat.le_of_ble_eq_true rfl⟩) (preVT [.int v7] hTX hS (freeQ (cx := (xw a cI cJ ho ke hc tr fo fr st co ro cA cD su jA' jD')) hD hS hA [0, 1, 2, 3, 4, 5, 6, 7, 8, 9, 10, 11, 12, 13, 14, 15] rfl) hN.1 (KX hK) (subQ (cx := (xw a cI cJ ho ke hc tr fo fr st co ro cA cD su jA' jD')) hP [0, 1, 2, 3, 4, 5, 6, 7, 8, 9, 10, 11, 12, 13, 14, 15] rfl) (subQD (cx := (xw a cI cJ ho ke hc tr fo fr st co ro cA cD su jA' jD')) hD [0, 1, 2, 3, 4, 5, 6, 7, 8, 9, 10, 11, 12, 13, 14, 15] (by decide) rfl) (ci := 4) (q0 := 3) rfl rfl) rfl rfl hl.1 rfl (lv_room (Nat.le_of_ble_eq_true rfl)) dX5_isSame_446 ⟨by show _ + 1 ≤ 9767; omega, by show _ + 6 ≤ 62975; omega⟩) hP hD hS hA rfl (wr := (z4 c cM wI hI Hn r ++ [(qL2, .inl (cI, 9, .inl fL2))])) rfl (by decide) (by decide) (fun E ce q9 Hq locs hE hP hD hS h1 h2 h3 => ?_) (fun r0 u446 Hq locs hw hP hD hS => ?_)
      · obtain ⟨k, hk, hE⟩ := hE
        subst hk
        cases hM
      obtain ⟨hxx, hw⟩ := hw
      subst hxx
      dsimp only [Sum.elim] at hM
      replace hP : va_P D vwCl ((xw a cI cJ ho ke hc tr fo fr st co ro cA cD su u446.2.1 u446.2.2 ++ (z4 c cM wI hI Hn r ++ [(qL2, .inl (cI, 9, .inl fL2))])) ++ (zpl cI Wn Hn r x431.2 gA gD)) Hq := va_P.part (cx := (xw a cI cJ ho ke hc tr fo fr st co ro cA cD su u446.2.1 u446.2.2 ++ (z4 c cM wI hI Hn r ++ [(qL2, .inl (cI, 9, .inl fL2))]))) (pl := (zpl cI Wn Hn r x431.2 gA gD)) hP [5, 6, 7, 8, 9, 10, 11, 12, 13, 14, 15, 16, 17, 18, 19, 20, 0, 1, 2, 3, 4] rfl
      replace hD : va_D A ((xw a cI cJ ho ke hc tr fo fr st co ro cA cD su u446.2.1 u446.2.2 ++ (z4 c cM wI hI Hn r ++ [(qL2, .inl (cI, 9, .inl fL2))])) ++ (zpl cI Wn Hn r x431.2 gA gD)) := va_D.part (cx := (xw a cI cJ ho ke hc tr fo fr st co ro cA cD su u446.2.1 u446.2.2 ++ (z4 c cM wI hI Hn r ++ [(qL2, .inl (cI, 9, .inl fL2))]))) (pl := (zpl cI Wn Hn r x431.2 gA gD)) hD [5, 6, 7, 8, 9, 10, 11, 12, 13, 14, 15, 16, 17, 18, 19, 20, 0, 1, 2, 3, 4] (by decide) rfl
      rw [hw]
      refine W.widen (k := kc + 181) (n := ks + 1186) (by omega) (by omega) ?_
      refine lv_iload hx hb dX5_isSame_449 (lv_at hl 1 rfl) ?_
      refine lv_icmp_eq (tgt := 456) hx hb dX5_isSame_451 (by decide) (fun hcc => ?_) (fun hcc => ?_)
      · replace hM := it_p hcc hM
        refine lv_aload_n hx hb dX5_isSame_456 rfl (lv_at hl 4 rfl) ?_
        refine lv_iconst (v := 2) hx hb dX5_isSame_457 (by decide) ?_
        refine lv_dup2_11 hx hb dX5_isSame_458 rfl rfl ?_
        obtain ⟨hb459, hM⟩ := it_x hM
        refine va_iald (D := D) hx hb hK hP 20 0 rfl rfl hb459 dX5_isSame_459 ?_
        refine lv_aload_n hx hb dX5_isSame_460 rfl (lv_at hl 2 rfl) ?_
        refine va_get (D := D) (ci := 5) (v := .ref (c 1)) (C := RX5) (T := TX5) (N := 8) hx hb hts iX5 hown hK hP 16 rfl rfl 2 (by decide) f18 (fun _ h9 => h9) rfl dX5_isSame_461 ?_
        refine lv_iload hx hb dX5_isSame_464 (lv_at hl 11 rfl) ?_
        obtain ⟨hb466, hM⟩ := it_x hM
        refine z_aald (D := D) hx hb hK hP 17 rfl hb466 dX5_isSame_466 ?_
        refine lv_iload hx hb dX5_isSame_467 (lv_at hl 10 rfl) ?_
        obtain ⟨hb469, hM⟩ := it_x hM
        refine va_iald (D := D) hx hb hK hP _ 0 (row0 (xw a cI cJ ho ke hc tr fo fr st co ro cA cD su u446.2.1 u446.2.2 ++ (z4 c cM wI hI Hn r ++ [(qL2, .inl (cI, 9, .inl fL2))])) (lt_in hb466)) rfl hb469 dX5_isSame_469 ?_
        refine lv_if_lt (tgt := 477) hx hb dX5_isSame_470 (by decide) (fun hcc => ?_) (fun hcc => ?_)
        · replace hM := it_p hcc hM
          refine lv_iconst (v := 0) hx hb dX5_isSame_477 (by decide) ?_
          exact c478 K70 nK70 nS70 hK70 (by omega) (by omega) fL2 v3 v4 v5 v6 v7 v8 v9 x438 (0 : Int32) (fL2 (2 : Int32).toNatClampNeg) (2 : Int32) x431.2 hM qL2 u446.2.1 u446.2.2 (kc + 181) (ks + 1186) (by omega) (by omega) Hq locs ls hP hD hS (lv_sub hl [2, 3, 4, 5, 6, 7, 8, 9, 10, 11, 0] rfl)
        · replace hM := it_n hcc hM
          refine lv_iconst (v := 1) hx hb dX5_isSame_473 (by decide) ?_
          refine lv_goto (tgt := 478) hx hb dX5_isSame_474 (by decide) ?_
          exact c478 K70 nK70 nS70 hK70 (by omega) (by omega) fL2 v3 v4 v5 v6 v7 v8 v9 x438 (1 : Int32) (fL2 (2 : Int32).toNatClampNeg) (2 : Int32) x431.2 hM qL2 u446.2.1 u446.2.2 (kc + 181) (ks + 1186) (by omega) (by omega) Hq locs ls hP hD hS (lv_sub hl [2, 3, 4, 5, 6, 7, 8, 9, 10, 11, 0] rfl)
      · replace hM := it_n hcc hM
        refine lv_iconst (v := 0) hx hb dX5_isSame_454 (by decide) ?_
        obtain rfl := Option.some.inj hM
        replace hP := va_P.part (cx := (xw a cI cJ ho ke hc tr fo fr st co ro cA cD su u446.2.1 u446.2.2 ++ (z4 c cM wI hI Hn r))) hP [0, 1, 2, 3, 4, 5, 6, 7, 8, 9, 10, 11, 12, 13, 14, 15, 16, 17, 18, 19] rfl
        replace hD := va_D.part (cx := (xw a cI cJ ho ke hc tr fo fr st co ro cA cD su u446.2.1 u446.2.2 ++ (z4 c cM wI hI Hn r))) hD [0, 1, 2, 3, 4, 5, 6, 7, 8, 9, 10, 11, 12, 13, 14, 15, 16, 17, 18, 19] (by decide) rfl
        refine W.widen (k := 9767) (n := 62975) (by omega) (by omega) ?_
        subst hQ hAe
        refine W.base ?_
        refine W.endD (Drawn.sameBut.refl s.drawn lw_cs) ?_
        exact W.zret (ty := .boolean) (v := (0 : Int32)) hx hb hr (nb_z (Or.inl rfl)) (fun t ht hW => ⟨⟨(0 : Int32), (u446.2.1, u446.2.2), rfl, ⟨rfl, Or.inl rfl⟩, ⟨by rw [ht]; exact hP, hD⟩⟩, hS.F ht⟩) hS.2.2 dX5_isSame_455
    · replace hM := it_n hcc hM
      refine lv_iload hx hb dX5_isSame_132 (lv_at hl 10 rfl) ?_
      refine lv_iconst (v := 1) hx hb dX5_isSame_134 (by decide) ?_
      refine lv_icmp_ne (tgt := 142) hx hb dX5_isSame_135 (by decide) (fun hcc => ?_) (fun hcc => ?_)
      · replace hM := it_n hcc hM
        refine lv_iconst (v := 0) hx hb dX5_isSame_142 (by decide) ?_
        exact c143 K70 nK70 nS70 hK70 (mX5_isSame_126 N st co ro cA cD su wI hI Wn Hn gA gD K70 n) (n * 25 + 181 + nK70) (n * 155 + 1186 + nS70) ih (by omega) (by omega) (by omega) (by omega) (by omega) (by omega) fL2 v3 v4 v5 v6 v7 v8 v9 v10 (0 : Int32) gS' hM qL2 jA' jD' kc ks (by omega) (by omega) Hq locs ls hP hD hS (lv_sub hl [0, 1, 2, 3, 4, 5, 6, 7, 8, 9, 10] rfl)
      · replace hM := it_p hcc hM
        refine lv_iconst (v := 1) hx hb dX5_isSame_138 (by decide) ?_
        refine lv_goto (tgt := 143) hx hb dX5_isSame_139 (by decide) ?_
        exact c143 K70 nK70 nS70 hK70 (mX5_isSame_126 N st co ro cA cD su wI hI Wn Hn gA gD K70 n) (n * 25 + 181 + nK70) (n * 155 + 1186 + nS70) ih (by omega) (by omega) (by omega) (by omega) (by omega) (by omega) fL2 v3 v4 v5 v6 v7 v8 v9 v10 (1 : Int32) gS' hM qL2 jA' jD' kc ks (by omega) (by omega) Hq locs ls hP hD hS (lv_sub hl [0, 1, 2, 3, 4, 5, 6, 7, 8, 9, 10] rfl)
set_option maxHeartbeats 4000000 in
set_option maxRecDepth 100000 in
theorem kX5_isSame_c70 {p : Program} {l : Launch} {D : va_G} {cI cJ cB cM : ClassId} (hlt : l.stackTraces = false) (N : Nat) (a : Nat → Nat) (c : Nat → Nat) (r : Nat → Nat → Nat) {ho : RowI} {ke : RowI} {hc : Int32} {tr : Int32} {fo : Int32} {fr : Int32} {st : RowI} {co : Int32} {ro : Int32} {cA : CS} {cD : CS} {su : RowJ} {jA : JT} {jD : JT} {wI : Int32} {hI : Int32} {Wn : Nat} {Hn : Nat} {gS : RowR} {gA : RowR} {gD : RowR} {o : (Int32 × RowR)} (sz : Nat) {e : Env} {s : State} {m : MethodId} {args : Array Value} {below : List Frame} {meth : Method} {c0 : Code} {Q : State → Prop} {A : Nat → Prop} (hQ : Q = MQD lw_cs below (va_Qi (fun (r0 : Int32) (u : JT × JT) => r0 = o.1 ∧ bz r0) (aft D ((xw a cI cJ ho ke hc tr fo fr st co ro cA cD su jA jD ++ (z4 c cM wI hI Hn r)) ++ (zpl cI Wn Hn r gS gA gD)) sz (fun (u : JT × JT) => ((xw a cI cJ ho ke hc tr fo fr st co ro cA cD su u.1 u.2 ++ (z4 c cM wI hI Hn r)) ++ (zpl cI Wn Hn r o.2 gA gD)))) (va_A ((xw a cI cJ ho ke hc tr fo fr st co ro cA cD su jA jD ++ (z4 c cM wI hI Hn r)) ++ (zpl cI Wn Hn r gS gA gD)) sz)) args s 9767 62975 (va_A ((xw a cI cJ ho ke hc tr fo fr st co ro cA cD su jA jD ++ (z4 c cM wI hI Hn r)) ++ (zpl cI Wn Hn r gS gA gD)) sz)) (hAe : A = (va_A ((xw a cI cJ ho ke hc tr fo fr st co ro cA cD su jA jD ++ (z4 c cM wI hI Hn r)) ++ (zpl cI Wn Hn r gS gA gD)) sz)) (hx : p.tables.exec = Jvm.exec) (hb : c0.code = cX5_isSame) (hr : meth.sig.returnType = (some .boolean)) (hml : c0.maxLocals = 20) (hown : s.vm.findClass RX5 = some m.cls) (hts : ∀ w ∈ wsX5_isSame, w.before args s = true) (hlocks : meth.locks = false) (hTX : TX A s s.heap) (hN : NZ s) (hK : va_K D vwCl (tysZ cI cJ cB cM) s) (hA : ∀ q : Nat, s.heap.size ≤ q → A q) (iX5 : ∀ w ∈ wsX50, w ∈ wsX5_isSame) (f13 : (Cond.fieldLink RX5 13 "CryptSumsLaw$Sim" "h" "I").before args s = true) (f18 : (Cond.fieldLink RX5 18 "CryptSumsLaw$Sim" "stones" "[[I").before args s = true) (f7 : (Cond.fieldLink RX5 7 "CryptSumsLaw$Sim" "w" "I").before args s = true) : ∀ (n : Nat), ∀ (fL2 : RowI) (v3 : Int32) (v4 : Int32) (v5 : Int32) (v6 : Int32) (v7 : Int32) (gS' : RowR), mX5_isSame_70 N st co ro cA cD su wI hI Wn Hn gA gD n fL2 v3 v4 v5 v6 v7 gS' = some o → ∀ (qL2 : Nat) (jA' : JT) (jD' : JT), ∀ (kc ks : Nat), kc + (n * 257 + 257) ≤ 9767 → ks + (n * 1657 + 1657) ≤ 62975 → ∀ (Hq : Heap) (locs : List Loc) (ls : Array Slot), va_P D vwCl ((xw a cI cJ ho ke hc tr fo fr st co ro cA cD su jA' jD' ++ (z4 c cM wI hI Hn r ++ [(qL2, .inl (cI, 9, .inl fL2))])) ++ (zpl cI Wn Hn r gS' gA gD)) Hq → va_D A ((xw a cI cJ ho ke hc tr fo fr st co ro cA cD su jA' jD' ++ (z4 c cM wI hI Hn r ++ [(qL2, .inl (cI, 9, .inl fL2))])) ++ (zpl cI Wn Hn r gS' gA gD)) → va_S A s.heap Hq locs → lv_has ls 20 [(0, .ref (c 0)), (1, .ref (a 15)), (2, .ref qL2), (3, .int v3), (4, .int v4), (5, .int v5), (6, .int v6), (7, .int v7)] → W p l e rmX5_isSame s m args below meth c0 Hq locs kc ks Q (F0 m 70 ls []) := by
  have c602 := kX5_isSame_c602 (p := p) (l := l) (D := D) (cI := cI) (cJ := cJ) (cB := cB) (cM := cM) (hlt := hlt) (N := N) (a := a) (c := c) (r := r) (ho := ho) (ke := ke) (hc := hc) (tr := tr) (fo := fo) (fr := fr) (st := st) (co := co) (ro := ro) (cA := cA) (cD := cD) (su := su) (jA := jA) (jD := jD) (wI := wI) (hI := hI) (Wn := Wn) (Hn := Hn) (gS := gS) (gA := gA) (gD := gD) (o := o) (sz := sz) (e := e) (s := s) (m := m) (args := args) (below := below) (meth := meth) (c0 := c0) (Q := Q) (A := A) (hQ := hQ) (hAe := hAe) (hx := hx) (hb := hb) (hr := hr) (hml := hml) (hown := hown) (hts := hts) (hlocks := hlocks) (hTX := hTX) (hN := hN) (hK := hK) (hA := hA) (iX5 := iX5) (f13 := f13) (f18 := f18) (f7 := f7)
  have c126 := kX5_isSame_c126 (p := p) (l := l) (D := D) (cI := cI) (cJ := cJ) (cB := cB) (cM := cM) (hlt := hlt) (N := N) (a := a) (c := c) (r := r) (ho := ho) (ke := ke) (hc := hc) (tr := tr) (fo := fo) (fr := fr) (st := st) (co := co) (ro := ro) (cA := cA) (cD := cD) (su := su) (jA := jA) (jD := jD) (wI := wI) (hI := hI) (Wn := Wn) (Hn := Hn) (gS := gS) (gA := gA) (gD := gD) (o := o) (sz := sz) (e := e) (s := s) (m := m) (args := args) (below := below) (meth := meth) (c0 := c0) (Q := Q) (A := A) (hQ := hQ) (hAe := hAe) (hx := hx) (hb := hb) (hr := hr) (hml := hml) (hown := hown) (hts := hts) (hlocks := hlocks) (hTX := hTX) (hN := hN) (hK := hK) (hA := hA) (iX5 := iX5) (f13 := f13) (f18 := f18) (f7 := f7)
  intro n
  induction n with
  | zero =>
    intro fL2 v3 v4 v5 v6 v7 gS' hM
    rw [mX5_isSame_70] at hM
    cases hM
  | succ n ih =>
    intro fL2 v3 v4 v5 v6 v7 gS' hM qL2 jA' jD' kc ks hkc hks Hq locs ls hP hD hS hl
    rw [mX5_isSame_70] at hM
    refine lv_iload hx hb dX5_isSame_70 (lv_at hl 7 rfl) ?_
    refine lv_aload_n hx hb dX5_isSame_72 rfl (lv_at hl 0 rfl) ?_
    refine va_get (D := D) (ci := 5) (v := .int wI) (C := RX5) (T := TX5) (N := 8) hx hb hts iX5 hown hK hP 16 rfl rfl 0 (by decide) f7 (fun _ h9 => h9) rfl dX5_isSame_73 ?_
    refine lv_aload_n hx hb dX5_isSame_76 rfl (lv_at hl 0 rfl) ?_
    refine va_get (D := D) (ci := 5) (v := .int hI) (C := RX5) (T := TX5) (N := 8) hx hb hts iX5 hown hK hP 16 rfl rfl 1 (by decide) f13 (fun _ h9 => h9) rfl dX5_isSame_77 ?_
    refine lv_imul hx hb dX5_isSame_80 ?_
    refine lv_icmp_ge (tgt := 599) hx hb dX5_isSame_81 (by decide) (fun hcc => ?_) (fun hcc => ?_)
    · replace hM := it_p hcc hM
      refine lv_iconst (v := 0) hx hb dX5_isSame_599 (by decide) ?_
      refine lv_istore (lv' := [(7, .int (0 : Int32)), (0, .ref (c 0)), (1, .ref (a 15)), (2, .ref qL2), (3, .int v3), (4, .int v4), (5, .int v5), (6, .int v6)]) hx hb dX5_isSame_600 hl (by decide) rfl (fun ls hl => ?_)
      exact c602 10 fL2 v3 v4 v5 (0 : Int32) gS' hM qL2 jA' jD' kc ks (by omega) (by omega) Hq locs ls hP hD hS (lv_sub hl [2, 3, 4, 5, 6, 0] rfl)
    · replace hM := it_n hcc hM
      refine lv_iload hx hb dX5_isSame_84 (lv_at hl 7 rfl) ?_
      refine lv_aload_n hx hb dX5_isSame_86 rfl (lv_at hl 0 rfl) ?_
      refine va_get (D := D) (ci := 5) (v := .int wI) (C := RX5) (T := TX5) (N := 8) hx hb hts iX5 hown hK hP 16 rfl rfl 0 (by decide) f7 (fun _ h9 => h9) rfl dX5_isSame_87 ?_
      obtain ⟨hz90, hM⟩ := it_x hM
      refine lv_irem hx hb dX5_isSame_90 hz90 ?_
      refine lv_istore (lv' := [(8, .int (v7 - v7 / wI * wI)), (0, .ref (c 0)), (1, .ref (a 15)), (2, .ref qL2), (3, .int v3), (4, .int v4), (5, .int v5), (6, .int v6), (7, .int v7)]) hx hb dX5_isSame_91 hl (by decide) rfl (fun ls hl => ?_)
      refine lv_iload hx hb dX5_isSame_93 (lv_at hl 8 rfl) ?_
      refine lv_aload_n hx hb dX5_isSame_95 rfl (lv_at hl 1 rfl) ?_
      refine va_get (D := D) (ci := 5) (v := .int wI) (C := RX5) (T := TX5) (N := 8) hx hb hts iX5 hown hK hP 16 rfl rfl 0 (by decide) f7 (fun _ h9 => h9) rfl dX5_isSame_96 ?_
      obtain ⟨hz99, hM⟩ := it_x hM
      refine lv_idiv hx hb dX5_isSame_99 hz99 ?_
      refine lv_istore (lv' := [(9, .int (v7 / wI)), (8, .int (v7 - v7 / wI * wI)), (0, .ref (c 0)), (1, .ref (a 15)), (2, .ref qL2), (3, .int v3), (4, .int v4), (5, .int v5), (6, .int v6), (7, .int v7)]) hx hb dX5_isSame_100 hl (by decide) rfl (fun ls hl => ?_)
      refine lv_aload_n hx hb dX5_isSame_102 rfl (lv_at hl 3 rfl) ?_
      refine lv_iload hx hb dX5_isSame_103 (lv_at hl 9 rfl) ?_
      obtain ⟨x105, hC, hM⟩ := bd_s hM
      refine cTQ_i [0, 1, 2, 3, 4, 5, 6, 7, 8, 9, 10, 11, 12, 13, 14, 15] [16, 17, 18, 19, 20] (vx_runV (As := [.int v7]) (rest := []) ⟨hx, hb, hml, hown, hts⟩ (kX4_stone (l := l) (D := D) (cI := cI) (cJ := cJ) hlt N a (ho := ho) (ke := ke) (hc := hc) (tr := tr) (fo := fo) (fr := fr) (st := st) (co := co) (ro := ro) (cA := cA) (cD := cD) (su := su) (jA := jA') (jD := jD') (p1 := v7) hC Hq.size) (cwV 1 hts gX5_isSame_X4_stone rfl rfl rfl (by decide +kernel) ⟨Nat.le_of_ble_eq_true rfl, Nat.le_of_ble_eq_true rfl⟩) (preVT [.int v7] hTX hS (freeQ (cx := (xw a cI cJ ho ke hc tr fo fr st co ro cA cD su jA' jD')) hD hS hA [0, 1, 2, 3, 4, 5, 6, 7, 8, 9, 10, 11, 12, 13, 14, 15] rfl) hN.1 (KX hK) (subQ (cx := (xw a cI cJ ho ke hc tr fo fr st co ro cA cD su jA' jD')) hP [0, 1, 2, 3, 4, 5, 6, 7, 8, 9, 10, 11, 12, 13, 14, 15] rfl) (subQD (cx := (xw a cI cJ ho ke hc tr fo fr st co ro cA cD su jA' jD')) hD [0, 1, 2, 3, 4, 5, 6, 7, 8, 9, 10, 11, 12, 13, 14, 15] (by decide) rfl) (ci := 4) (q0 := 3) rfl rfl) rfl rfl hl.1 rfl (lv_room (Nat.le_of_ble_eq_true rfl)) dX5_isSame_105 ⟨by show _ + 1 ≤ 9767; omega, by show _ + 6 ≤ 62975; omega⟩) hP hD hS hA rfl (wr := (z4 c cM wI hI Hn r ++ [(qL2, .inl (cI, 9, .inl fL2))])) rfl (by decide) (by decide) (fun E ce q9 Hq locs hE hP hD hS h1 h2 h3 => ?_) (fun r0 u105 Hq locs hw hP hD hS => ?_)
      · obtain ⟨k, hk, hE⟩ := hE
        subst hk
        cases hM
      obtain ⟨hxx, hw⟩ := hw
      subst hxx
      dsimp only [Sum.elim] at hM
      replace hP : va_P D vwCl ((xw a cI cJ ho ke hc tr fo fr st co ro cA cD su jA' jD' ++ (z4 c cM wI hI Hn r ++ [(qL2, .inl (cI, 9, .inl fL2))])) ++ (zpl cI Wn Hn r gS' gA gD)) Hq := va_P.part (cx := (xw a cI cJ ho ke hc tr fo fr st co ro cA cD su jA' jD' ++ (z4 c cM wI hI Hn r ++ [(qL2, .inl (cI, 9, .inl fL2))]))) (pl := (zpl cI Wn Hn r gS' gA gD)) hP [5, 6, 7, 8, 9, 10, 11, 12, 13, 14, 15, 16, 17, 18, 19, 20, 0, 1, 2, 3, 4] rfl
      replace hD : va_D A ((xw a cI cJ ho ke hc tr fo fr st co ro cA cD su jA' jD' ++ (z4 c cM wI hI Hn r ++ [(qL2, .inl (cI, 9, .inl fL2))])) ++ (zpl cI Wn Hn r gS' gA gD)) := va_D.part (cx := (xw a cI cJ ho ke hc tr fo fr st co ro cA cD su jA' jD' ++ (z4 c cM wI hI Hn r ++ [(qL2, .inl (cI, 9, .inl fL2))]))) (pl := (zpl cI Wn Hn r gS' gA gD)) hD [5, 6, 7, 8, 9, 10, 11, 12, 13, 14, 15, 16, 17, 18, 19, 20, 0, 1, 2, 3, 4] (by decide) rfl
      rw [hw]
      refine W.widen (k := kc + 1) (n := ks + 6) (by omega) (by omega) ?_
      refine lv_aload_n hx hb dX5_isSame_108 rfl (lv_at hl 2 rfl) ?_
      refine va_get (D := D) (ci := 5) (v := .ref (c 1)) (C := RX5) (T := TX5) (N := 8) hx hb hts iX5 hown hK hP 16 rfl rfl 2 (by decide) f18 (fun _ h9 => h9) rfl dX5_isSame_109 ?_
      refine lv_iload hx hb dX5_isSame_112 (lv_at hl 0 rfl) ?_
      obtain ⟨hb114, hM⟩ := it_x hM
      refine z_aald (D := D) hx hb hK hP 17 rfl hb114 dX5_isSame_114 ?_
      refine lv_iload hx hb dX5_isSame_115 (lv_at hl 1 rfl) ?_
      obtain ⟨hb117, hM⟩ := it_x hM
      refine va_iald (D := D) hx hb hK hP _ 0 (row0 (xw a cI cJ ho ke hc tr fo fr st co ro cA cD su jA' jD' ++ (z4 c cM wI hI Hn r ++ [(qL2, .inl (cI, 9, .inl fL2))])) (lt_in hb114)) rfl hb117 dX5_isSame_117 ?_
      refine lv_icmp_eq (tgt := 123) hx hb dX5_isSame_118 (by decide) (fun hcc => ?_) (fun hcc => ?_)
      · replace hM := it_p hcc hM
        refine lv_iconst (v := 0) hx hb dX5_isSame_123 (by decide) ?_
        refine lv_istore (lv' := [(10, .int (0 : Int32)), (9, .int (v7 / wI)), (8, .int (v7 - v7 / wI * wI)), (0, .ref (c 0)), (1, .ref (a 15)), (2, .ref qL2), (3, .int v3), (4, .int v4), (5, .int v5), (6, .int v6), (7, .int v7)]) hx hb dX5_isSame_124 hl (by decide) rfl (fun ls hl => ?_)
        exact c126 (mX5_isSame_70 N st co ro cA cD su wI hI Wn Hn gA gD n) (n * 257 + 257) (n * 1657 + 1657) ih (by omega) (by omega) 3 fL2 v3 v4 v5 v6 v7 (v7 - v7 / wI * wI) (v7 / wI) (0 : Int32) gS' hM qL2 jA' jD' (kc + 1) (ks + 6) (by omega) (by omega) Hq locs ls hP hD hS (lv_sub hl [3, 4, 5, 6, 7, 8, 9, 10, 2, 1, 0] rfl)
      · replace hM := it_n hcc hM
        refine lv_iconst (v := 0) hx hb dX5_isSame_121 (by decide) ?_
        obtain rfl := Option.some.inj hM
        replace hP := va_P.part (cx := (xw a cI cJ ho ke hc tr fo fr st co ro cA cD su jA' jD' ++ (z4 c cM wI hI Hn r))) hP [0, 1, 2, 3, 4, 5, 6, 7, 8, 9, 10, 11, 12, 13, 14, 15, 16, 17, 18, 19] rfl
        replace hD := va_D.part (cx := (xw a cI cJ ho ke hc tr fo fr st co ro cA cD su jA' jD' ++ (z4 c cM wI hI Hn r))) hD [0, 1, 2, 3, 4, 5, 6, 7, 8, 9, 10, 11, 12, 13, 14, 15, 16, 17, 18, 19] (by decide) rfl
        refine W.widen (k := 9767) (n := 62975) (by omega) (by omega) ?_
        subst hQ hAe
        refine W.base ?_
        refine W.endD (Drawn.sameBut.refl s.drawn lw_cs) ?_
        exact W.zret (ty := .boolean) (v := (0 : Int32)) hx hb hr (nb_z (Or.inl rfl)) (fun t ht hW => ⟨⟨(0 : Int32), (jA', jD'), rfl, ⟨rfl, Or.inl rfl⟩, ⟨by rw [ht]; exact hP, hD⟩⟩, hS.F ht⟩) hS.2.2 dX5_isSame_122
set_option maxHeartbeats 4000000 in
set_option maxRecDepth 100000 in
theorem kX5_isSame {l : Launch} {D : va_G} {cI cJ cB cM : ClassId} (hlt : l.stackTraces = false) (N : Nat) (a : Nat → Nat) (c : Nat → Nat) (r : Nat → Nat → Nat) {ho : RowI} {ke : RowI} {hc : Int32} {tr : Int32} {fo : Int32} {fr : Int32} {st : RowI} {co : Int32} {ro : Int32} {cA : CS} {cD : CS} {su : RowJ} {jA : JT} {jD : JT} {wI : Int32} {hI : Int32} {Wn : Nat} {Hn : Nat} {gS : RowR} {gA : RowR} {gD : RowR} {o : (Int32 × RowR)} (hM : mX5_isSame N st co ro cA cD su wI hI Wn Hn gS gA gD = some o) (sz : Nat) : MetD lw_cs l yX5_isSame wsX5_isSame rmX5_isSame (va_Pc [.ref (c 0), .ref (a 15)] (PreY D cI cJ cB cM ((xw a cI cJ ho ke hc tr fo fr st co ro cA cD su jA jD ++ (z4 c cM wI hI Hn r)) ++ (zpl cI Wn Hn r gS gA gD)) sz)) (va_Qi (fun (r0 : Int32) (u : JT × JT) => r0 = o.1 ∧ bz r0) (aft D ((xw a cI cJ ho ke hc tr fo fr st co ro cA cD su jA jD ++ (z4 c cM wI hI Hn r)) ++ (zpl cI Wn Hn r gS gA gD)) sz (fun (u : JT × JT) => ((xw a cI cJ ho ke hc tr fo fr st co ro cA cD su u.1 u.2 ++ (z4 c cM wI hI Hn r)) ++ (zpl cI Wn Hn r o.2 gA gD)))) (va_A ((xw a cI cJ ho ke hc tr fo fr st co ro cA cD su jA jD ++ (z4 c cM wI hI Hn r)) ++ (zpl cI Wn Hn r gS gA gD)) sz)) 9767 62975 (va_A ((xw a cI cJ ho ke hc tr fo fr st co ro cA cD su jA jD ++ (z4 c cM wI hI Hn r)) ++ (zpl cI Wn Hn r gS gA gD)) sz) := by
  refine xofYD (cc := cX5_isSame) (maxL := 20) (ret := (some .boolean)) rfl (by decide) rfl ?_
  intro p e s m args below meth c0 ls Q A hQ hAe hx hb hr hml hown hts hlocks hTX hN hK Hq locs hP hD hS hA hl
  replace hown : s.vm.findClass RX5 = some m.cls := hown
  replace hl : lv_has ls 20 [(0, .ref (c 0)), (1, .ref (a 15))] := hl
  have iX5 : ∀ w ∈ wsX50, w ∈ wsX5_isSame := by decide +kernel
  have f13 := hts (.fieldLink RX5 13 "CryptSumsLaw$Sim" "h" "I") (by decide +kernel)
  have f18 := hts (.fieldLink RX5 18 "CryptSumsLaw$Sim" "stones" "[[I") (by decide +kernel)
  have f7 := hts (.fieldLink RX5 7 "CryptSumsLaw$Sim" "w" "I") (by decide +kernel)
  have c70 := kX5_isSame_c70 (p := p) (l := l) (D := D) (cI := cI) (cJ := cJ) (cB := cB) (cM := cM) (hlt := hlt) (N := N) (a := a) (c := c) (r := r) (ho := ho) (ke := ke) (hc := hc) (tr := tr) (fo := fo) (fr := fr) (st := st) (co := co) (ro := ro) (cA := cA) (cD := cD) (su := su) (jA := jA) (jD := jD) (wI := wI) (hI := hI) (Wn := Wn) (Hn := Hn) (gS := gS) (gA := gA) (gD := gD) (o := o) (sz := sz) (e := e) (s := s) (m := m) (args := args) (below := below) (meth := meth) (c0 := c0) (Q := Q) (A := A) (hQ := hQ) (hAe := hAe) (hx := hx) (hb := hb) (hr := hr) (hml := hml) (hown := hown) (hts := hts) (hlocks := hlocks) (hTX := hTX) (hN := hN) (hK := hK) (hA := hA) (iX5 := iX5) (f13 := f13) (f18 := f18) (f7 := f7)
  rw [mX5_isSame] at hM
  refine lv_bipush (v := 9) hx hb dX5_isSame_0 (by decide) ?_
  refine newIZ (D := D) (cI := cI) (cJ := cJ) (cB := cB) (cM := cM) hx hb (hts (.arrayClass .int) (by decide +kernel)) hK hP hD hS hA 9 (by decide) (by decide) (by decide) (by show _ ≤ 9767; omega) (by show _ ≤ 62975; omega) dX5_isSame_2 (fun q2 Hq hP hD hS => ?_)
  replace hP := va_P.swap hP
  replace hD := va_D.swap hD
  replace hP : va_P D vwCl ((xw a cI cJ ho ke hc tr fo fr st co ro cA cD su jA jD ++ (z4 c cM wI hI Hn r ++ [(q2, .inl (cI, 9, .inl (fun _ => 0)))])) ++ (zpl cI Wn Hn r gS gA gD)) Hq := hP
  replace hD : va_D A ((xw a cI cJ ho ke hc tr fo fr st co ro cA cD su jA jD ++ (z4 c cM wI hI Hn r ++ [(q2, .inl (cI, 9, .inl (fun _ => 0)))])) ++ (zpl cI Wn Hn r gS gA gD)) := hD
  refine W.widen (k := 1) (n := 9) (by omega) (by omega) ?_
  refine lv_dup hx hb dX5_isSame_4 rfl ?_
  refine lv_iconst (v := 0) hx hb dX5_isSame_5 (by decide) ?_
  refine lv_aload_n hx hb dX5_isSame_6 rfl (lv_at hl 0 rfl) ?_
  refine va_get (D := D) (ci := 5) (v := .int wI) (C := RX5) (T := TX5) (N := 8) hx hb hts iX5 hown hK hP 16 rfl rfl 0 (by decide) f7 (fun _ h9 => h9) rfl dX5_isSame_7 ?_
  refine lv_aload_n hx hb dX5_isSame_10 rfl (lv_at hl 0 rfl) ?_
  refine va_get (D := D) (ci := 5) (v := .int hI) (C := RX5) (T := TX5) (N := 8) hx hb hts iX5 hown hK hP 16 rfl rfl 1 (by decide) f13 (fun _ h9 => h9) rfl dX5_isSame_11 ?_
  refine lv_imul hx hb dX5_isSame_14 ?_
  obtain ⟨hb15, hM⟩ := it_x hM
  refine va_iast (D := D) hx hb hK hP hD hS 20 0 rfl rfl hb15 dX5_isSame_15 (fun Hq locs hP hD hS => ?_)
  replace hP : va_P D vwCl ((xw a cI cJ ho ke hc tr fo fr st co ro cA cD su jA jD ++ (z4 c cM wI hI Hn r ++ [(q2, .inl (cI, 9, .inl (upd (fun _ => 0) (0 : Int32).toNatClampNeg (wI * hI))))])) ++ (zpl cI Wn Hn r gS gA gD)) Hq := hP
  replace hD : va_D A ((xw a cI cJ ho ke hc tr fo fr st co ro cA cD su jA jD ++ (z4 c cM wI hI Hn r ++ [(q2, .inl (cI, 9, .inl (upd (fun _ => 0) (0 : Int32).toNatClampNeg (wI * hI))))])) ++ (zpl cI Wn Hn r gS gA gD)) := hD
  refine lv_dup hx hb dX5_isSame_16 rfl ?_
  refine lv_iconst (v := 1) hx hb dX5_isSame_17 (by decide) ?_
  refine lv_aload_n hx hb dX5_isSame_18 rfl (lv_at hl 0 rfl) ?_
  refine va_get (D := D) (ci := 5) (v := .int wI) (C := RX5) (T := TX5) (N := 8) hx hb hts iX5 hown hK hP 16 rfl rfl 0 (by decide) f7 (fun _ h9 => h9) rfl dX5_isSame_19 ?_
  obtain ⟨hb22, hM⟩ := it_x hM
  refine va_iast (D := D) hx hb hK hP hD hS 20 0 rfl rfl hb22 dX5_isSame_22 (fun Hq locs hP hD hS => ?_)
  replace hP : va_P D vwCl ((xw a cI cJ ho ke hc tr fo fr st co ro cA cD su jA jD ++ (z4 c cM wI hI Hn r ++ [(q2, .inl (cI, 9, .inl (upd (upd (fun _ => 0) (0 : Int32).toNatClampNeg (wI * hI)) (1 : Int32).toNatClampNeg wI)))])) ++ (zpl cI Wn Hn r gS gA gD)) Hq := hP
  replace hD : va_D A ((xw a cI cJ ho ke hc tr fo fr st co ro cA cD su jA jD ++ (z4 c cM wI hI Hn r ++ [(q2, .inl (cI, 9, .inl (upd (upd (fun _ => 0) (0 : Int32).toNatClampNeg (wI * hI)) (1 : Int32).toNatClampNeg wI)))])) ++ (zpl cI Wn Hn r gS gA gD)) := hD
  refine lv_dup hx hb dX5_isSame_23 rfl ?_
  refine lv_iconst (v := 2) hx hb dX5_isSame_24 (by decide) ?_
  refine lv_iconst (v := 0) hx hb dX5_isSame_25 (by decide) ?_
  obtain ⟨hb26, hM⟩ := it_x hM
  refine va_iast (D := D) hx hb hK hP hD hS 20 0 rfl rfl hb26 dX5_isSame_26 (fun Hq locs hP hD hS => ?_)
  replace hP : va_P D vwCl ((xw a cI cJ ho ke hc tr fo fr st co ro cA cD su jA jD ++ (z4 c cM wI hI Hn r ++ [(q2, .inl (cI, 9, .inl (upd (upd (upd (fun _ => 0) (0 : Int32).toNatClampNeg (wI * hI)) (1 : Int32).toNatClampNeg wI) (2 : Int32).toNatClampNeg (0 : Int32))))])) ++ (zpl cI Wn Hn r gS gA gD)) Hq := hP
  replace hD : va_D A ((xw a cI cJ ho ke hc tr fo fr st co ro cA cD su jA jD ++ (z4 c cM wI hI Hn r ++ [(q2, .inl (cI, 9, .inl (upd (upd (upd (fun _ => 0) (0 : Int32).toNatClampNeg (wI * hI)) (1 : Int32).toNatClampNeg wI) (2 : Int32).toNatClampNeg (0 : Int32))))])) ++ (zpl cI Wn Hn r gS gA gD)) := hD
  refine lv_dup hx hb dX5_isSame_27 rfl ?_
  refine lv_iconst (v := 3) hx hb dX5_isSame_28 (by decide) ?_
  refine lv_iconst (v := 0) hx hb dX5_isSame_29 (by decide) ?_
  obtain ⟨hb30, hM⟩ := it_x hM
  refine va_iast (D := D) hx hb hK hP hD hS 20 0 rfl rfl hb30 dX5_isSame_30 (fun Hq locs hP hD hS => ?_)
  replace hP : va_P D vwCl ((xw a cI cJ ho ke hc tr fo fr st co ro cA cD su jA jD ++ (z4 c cM wI hI Hn r ++ [(q2, .inl (cI, 9, .inl (upd (upd (upd (upd (fun _ => 0) (0 : Int32).toNatClampNeg (wI * hI)) (1 : Int32).toNatClampNeg wI) (2 : Int32).toNatClampNeg (0 : Int32)) (3 : Int32).toNatClampNeg (0 : Int32))))])) ++ (zpl cI Wn Hn r gS gA gD)) Hq := hP
  replace hD : va_D A ((xw a cI cJ ho ke hc tr fo fr st co ro cA cD su jA jD ++ (z4 c cM wI hI Hn r ++ [(q2, .inl (cI, 9, .inl (upd (upd (upd (upd (fun _ => 0) (0 : Int32).toNatClampNeg (wI * hI)) (1 : Int32).toNatClampNeg wI) (2 : Int32).toNatClampNeg (0 : Int32)) (3 : Int32).toNatClampNeg (0 : Int32))))])) ++ (zpl cI Wn Hn r gS gA gD)) := hD
  refine lv_dup hx hb dX5_isSame_31 rfl ?_
  refine lv_iconst (v := 4) hx hb dX5_isSame_32 (by decide) ?_
  refine lv_iconst (v := 0) hx hb dX5_isSame_33 (by decide) ?_
  obtain ⟨hb34, hM⟩ := it_x hM
  refine va_iast (D := D) hx hb hK hP hD hS 20 0 rfl rfl hb34 dX5_isSame_34 (fun Hq locs hP hD hS => ?_)
  replace hP : va_P D vwCl ((xw a cI cJ ho ke hc tr fo fr st co ro cA cD su jA jD ++ (z4 c cM wI hI Hn r ++ [(q2, .inl (cI, 9, .inl (upd (upd (upd (upd (upd (fun _ => 0) (0 : Int32).toNatClampNeg (wI * hI)) (1 : Int32).toNatClampNeg wI) (2 : Int32).toNatClampNeg (0 : Int32)) (3 : Int32).toNatClampNeg (0 : Int32)) (4 : Int32).toNatClampNeg (0 : Int32))))])) ++ (zpl cI Wn Hn r gS gA gD)) Hq := hP
  replace hD : va_D A ((xw a cI cJ ho ke hc tr fo fr st co ro cA cD su jA jD ++ (z4 c cM wI hI Hn r ++ [(q2, .inl (cI, 9, .inl (upd (upd (upd (upd (upd (fun _ => 0) (0 : Int32).toNatClampNeg (wI * hI)) (1 : Int32).toNatClampNeg wI) (2 : Int32).toNatClampNeg (0 : Int32)) (3 : Int32).toNatClampNeg (0 : Int32)) (4 : Int32).toNatClampNeg (0 : Int32))))])) ++ (zpl cI Wn Hn r gS gA gD)) := hD
  refine lv_dup hx hb dX5_isSame_35 rfl ?_
  refine lv_iconst (v := 5) hx hb dX5_isSame_36 (by decide) ?_
  refine lv_iconst (v := 0) hx hb dX5_isSame_37 (by decide) ?_
  obtain ⟨hb38, hM⟩ := it_x hM
  refine va_iast (D := D) hx hb hK hP hD hS 20 0 rfl rfl hb38 dX5_isSame_38 (fun Hq locs hP hD hS => ?_)
  replace hP : va_P D vwCl ((xw a cI cJ ho ke hc tr fo fr st co ro cA cD su jA jD ++ (z4 c cM wI hI Hn r ++ [(q2, .inl (cI, 9, .inl (upd (upd (upd (upd (upd (upd (fun _ => 0) (0 : Int32).toNatClampNeg (wI * hI)) (1 : Int32).toNatClampNeg wI) (2 : Int32).toNatClampNeg (0 : Int32)) (3 : Int32).toNatClampNeg (0 : Int32)) (4 : Int32).toNatClampNeg (0 : Int32)) (5 : Int32).toNatClampNeg (0 : Int32))))])) ++ (zpl cI Wn Hn r gS gA gD)) Hq := hP
  replace hD : va_D A ((xw a cI cJ ho ke hc tr fo fr st co ro cA cD su jA jD ++ (z4 c cM wI hI Hn r ++ [(q2, .inl (cI, 9, .inl (upd (upd (upd (upd (upd (upd (fun _ => 0) (0 : Int32).toNatClampNeg (wI * hI)) (1 : Int32).toNatClampNeg wI) (2 : Int32).toNatClampNeg (0 : Int32)) (3 : Int32).toNatClampNeg (0 : Int32)) (4 : Int32).toNatClampNeg (0 : Int32)) (5 : Int32).toNatClampNeg (0 : Int32))))])) ++ (zpl cI Wn Hn r gS gA gD)) := hD
  refine lv_dup hx hb dX5_isSame_39 rfl ?_
  refine lv_bipush (v := 6) hx hb dX5_isSame_40 (by decide) ?_
  refine lv_iconst (v := 0) hx hb dX5_isSame_42 (by decide) ?_
  obtain ⟨hb43, hM⟩ := it_x hM
  refine va_iast (D := D) hx hb hK hP hD hS 20 0 rfl rfl hb43 dX5_isSame_43 (fun Hq locs hP hD hS => ?_)
  replace hP : va_P D vwCl ((xw a cI cJ ho ke hc tr fo fr st co ro cA cD su jA jD ++ (z4 c cM wI hI Hn r ++ [(q2, .inl (cI, 9, .inl (upd (upd (upd (upd (upd (upd (upd (fun _ => 0) (0 : Int32).toNatClampNeg (wI * hI)) (1 : Int32).toNatClampNeg wI) (2 : Int32).toNatClampNeg (0 : Int32)) (3 : Int32).toNatClampNeg (0 : Int32)) (4 : Int32).toNatClampNeg (0 : Int32)) (5 : Int32).toNatClampNeg (0 : Int32)) (6 : Int32).toNatClampNeg (0 : Int32))))])) ++ (zpl cI Wn Hn r gS gA gD)) Hq := hP
  replace hD : va_D A ((xw a cI cJ ho ke hc tr fo fr st co ro cA cD su jA jD ++ (z4 c cM wI hI Hn r ++ [(q2, .inl (cI, 9, .inl (upd (upd (upd (upd (upd (upd (upd (fun _ => 0) (0 : Int32).toNatClampNeg (wI * hI)) (1 : Int32).toNatClampNeg wI) (2 : Int32).toNatClampNeg (0 : Int32)) (3 : Int32).toNatClampNeg (0 : Int32)) (4 : Int32).toNatClampNeg (0 : Int32)) (5 : Int32).toNatClampNeg (0 : Int32)) (6 : Int32).toNatClampNeg (0 : Int32))))])) ++ (zpl cI Wn Hn r gS gA gD)) := hD
  refine lv_dup hx hb dX5_isSame_44 rfl ?_
  refine lv_bipush (v := 7) hx hb dX5_isSame_45 (by decide) ?_
  refine lv_iconst (v := 0) hx hb dX5_isSame_47 (by decide) ?_
  obtain ⟨hb48, hM⟩ := it_x hM
  refine va_iast (D := D) hx hb hK hP hD hS 20 0 rfl rfl hb48 dX5_isSame_48 (fun Hq locs hP hD hS => ?_)
  replace hP : va_P D vwCl ((xw a cI cJ ho ke hc tr fo fr st co ro cA cD su jA jD ++ (z4 c cM wI hI Hn r ++ [(q2, .inl (cI, 9, .inl (upd (upd (upd (upd (upd (upd (upd (upd (fun _ => 0) (0 : Int32).toNatClampNeg (wI * hI)) (1 : Int32).toNatClampNeg wI) (2 : Int32).toNatClampNeg (0 : Int32)) (3 : Int32).toNatClampNeg (0 : Int32)) (4 : Int32).toNatClampNeg (0 : Int32)) (5 : Int32).toNatClampNeg (0 : Int32)) (6 : Int32).toNatClampNeg (0 : Int32)) (7 : Int32).toNatClampNeg (0 : Int32))))])) ++ (zpl cI Wn Hn r gS gA gD)) Hq := hP
  replace hD : va_D A ((xw a cI cJ ho ke hc tr fo fr st co ro cA cD su jA jD ++ (z4 c cM wI hI Hn r ++ [(q2, .inl (cI, 9, .inl (upd (upd (upd (upd (upd (upd (upd (upd (fun _ => 0) (0 : Int32).toNatClampNeg (wI * hI)) (1 : Int32).toNatClampNeg wI) (2 : Int32).toNatClampNeg (0 : Int32)) (3 : Int32).toNatClampNeg (0 : Int32)) (4 : Int32).toNatClampNeg (0 : Int32)) (5 : Int32).toNatClampNeg (0 : Int32)) (6 : Int32).toNatClampNeg (0 : Int32)) (7 : Int32).toNatClampNeg (0 : Int32))))])) ++ (zpl cI Wn Hn r gS gA gD)) := hD
  refine lv_dup hx hb dX5_isSame_49 rfl ?_
  refine lv_bipush (v := 8) hx hb dX5_isSame_50 (by decide) ?_
  refine lv_iconst (v := 0) hx hb dX5_isSame_52 (by decide) ?_
  obtain ⟨hb53, hM⟩ := it_x hM
  refine va_iast (D := D) hx hb hK hP hD hS 20 0 rfl rfl hb53 dX5_isSame_53 (fun Hq locs hP hD hS => ?_)
  replace hP : va_P D vwCl ((xw a cI cJ ho ke hc tr fo fr st co ro cA cD su jA jD ++ (z4 c cM wI hI Hn r ++ [(q2, .inl (cI, 9, .inl (upd (upd (upd (upd (upd (upd (upd (upd (upd (fun _ => 0) (0 : Int32).toNatClampNeg (wI * hI)) (1 : Int32).toNatClampNeg wI) (2 : Int32).toNatClampNeg (0 : Int32)) (3 : Int32).toNatClampNeg (0 : Int32)) (4 : Int32).toNatClampNeg (0 : Int32)) (5 : Int32).toNatClampNeg (0 : Int32)) (6 : Int32).toNatClampNeg (0 : Int32)) (7 : Int32).toNatClampNeg (0 : Int32)) (8 : Int32).toNatClampNeg (0 : Int32))))])) ++ (zpl cI Wn Hn r gS gA gD)) Hq := hP
  replace hD : va_D A ((xw a cI cJ ho ke hc tr fo fr st co ro cA cD su jA jD ++ (z4 c cM wI hI Hn r ++ [(q2, .inl (cI, 9, .inl (upd (upd (upd (upd (upd (upd (upd (upd (upd (fun _ => 0) (0 : Int32).toNatClampNeg (wI * hI)) (1 : Int32).toNatClampNeg wI) (2 : Int32).toNatClampNeg (0 : Int32)) (3 : Int32).toNatClampNeg (0 : Int32)) (4 : Int32).toNatClampNeg (0 : Int32)) (5 : Int32).toNatClampNeg (0 : Int32)) (6 : Int32).toNatClampNeg (0 : Int32)) (7 : Int32).toNatClampNeg (0 : Int32)) (8 : Int32).toNatClampNeg (0 : Int32))))])) ++ (zpl cI Wn Hn r gS gA gD)) := hD
  refine lv_astore_n (lv' := [(2, .ref q2), (0, .ref (c 0)), (1, .ref (a 15))]) hx hb dX5_isSame_54 rfl hl (by decide) rfl (fun ls hl => ?_)
  refine lv_iconst (v := 0) hx hb dX5_isSame_55 (by decide) ?_
  refine lv_istore_n (lv' := [(3, .int (0 : Int32)), (2, .ref q2), (0, .ref (c 0)), (1, .ref (a 15))]) hx hb dX5_isSame_56 rfl hl (by decide) rfl (fun ls hl => ?_)
  refine lv_iconst (v := 0) hx hb dX5_isSame_57 (by decide) ?_
  refine lv_istore (lv' := [(4, .int (0 : Int32)), (3, .int (0 : Int32)), (2, .ref q2), (0, .ref (c 0)), (1, .ref (a 15))]) hx hb dX5_isSame_58 hl (by decide) rfl (fun ls hl => ?_)
  refine lv_iconst (v := -1) hx hb dX5_isSame_60 (by decide) ?_
  refine lv_istore (lv' := [(5, .int (-1 : Int32)), (4, .int (0 : Int32)), (3, .int (0 : Int32)), (2, .ref q2), (0, .ref (c 0)), (1, .ref (a 15))]) hx hb dX5_isSame_61 hl (by decide) rfl (fun ls hl => ?_)
  refine lv_bipush (v := 99) hx hb dX5_isSame_63 (by decide) ?_
  refine lv_istore (lv' := [(6, .int (99 : Int32)), (5, .int (-1 : Int32)), (4, .int (0 : Int32)), (3, .int (0 : Int32)), (2, .ref q2), (0, .ref (c 0)), (1, .ref (a 15))]) hx hb dX5_isSame_65 hl (by decide) rfl (fun ls hl => ?_)
  refine lv_iconst (v := 0) hx hb dX5_isSame_67 (by decide) ?_
  refine lv_istore (lv' := [(7, .int (0 : Int32)), (6, .int (99 : Int32)), (5, .int (-1 : Int32)), (4, .int (0 : Int32)), (3, .int (0 : Int32)), (2, .ref q2), (0, .ref (c 0)), (1, .ref (a 15))]) hx hb dX5_isSame_68 hl (by decide) rfl (fun ls hl => ?_)
  exact c70 37 (upd (upd (upd (upd (upd (upd (upd (upd (upd (fun _ => 0) (0 : Int32).toNatClampNeg (wI * hI)) (1 : Int32).toNatClampNeg wI) (2 : Int32).toNatClampNeg (0 : Int32)) (3 : Int32).toNatClampNeg (0 : Int32)) (4 : Int32).toNatClampNeg (0 : Int32)) (5 : Int32).toNatClampNeg (0 : Int32)) (6 : Int32).toNatClampNeg (0 : Int32)) (7 : Int32).toNatClampNeg (0 : Int32)) (8 : Int32).toNatClampNeg (0 : Int32)) (0 : Int32) (0 : Int32) (-1 : Int32) (99 : Int32) (0 : Int32) gS hM q2 jA jD 1 9 (by omega) (by omega) Hq locs ls hP hD hS (lv_sub hl [6, 7, 5, 4, 3, 2, 1, 0] rfl)
