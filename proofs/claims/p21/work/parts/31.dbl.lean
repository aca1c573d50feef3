def mX1_meanOfNumbers_6 (N : Nat) (st : RowI) (co : Int32) (ro : Int32) (cA : CS) (cD : CS) (su : RowJ) : Nat → Int32 → Int32 → Int32 → Option UInt64
  | 0 => fun _ _ _ => none
  | n + 1 => fun v1 v2 v3 => ((mX1_cells N co ro).bind fun x8 =>
  (if x8 ≤ v3 then
  (if v1 = 0 then
  some FP.dconst0
  else
  some (FP.ddiv (FP.i2d v2) (FP.i2d v1)))
  else
  ((mX1_isHole N st v3).bind fun x16 =>
  (if x16 = 0 then
  (mX1_meanOfNumbers_6 N st co ro cA cD su n v1 v2 (v3 + 1))
  else
  ((mX1_numbersFor N st cA cD su v3).bind fun x28 =>
  (mX1_meanOfNumbers_6 N st co ro cA cD su n (v1 + 1) (v2 + (bc x28)) (v3 + 1)))))))
def mX1_meanOfNumbers (N : Nat) (st : RowI) (co : Int32) (ro : Int32) (cA : CS) (cD : CS) (su : RowJ) : Option UInt64 :=
  (mX1_meanOfNumbers_6 N st co ro cA cD su N (0 : Int32) (0 : Int32) (0 : Int32))
abbrev rmX1_meanOfNumbers : Room := { frames := 4, cells := 0, slots := 0, locals := 95 }
set_option maxHeartbeats 4000000 in
set_option maxRecDepth 100000 in
theorem kX1_meanOfNumbers {l : Launch} {D : va_G} {cI cJ : ClassId} (N : Nat) (a : Nat → Nat) {st : RowI} {co : Int32} {ro : Int32} {cA : CS} {cD : CS} {su : RowJ} {jA : JT} {jD : JT} {o : UInt64} (hM : mX1_meanOfNumbers N st co ro cA cD su = some o) (sz : Nat) : MetD lw_cs l yX1_meanOfNumbers wsX1_meanOfNumbers rmX1_meanOfNumbers (va_Pc [.ref (a 0)] (Pre D cI cJ (fw a cI cJ st co ro cA cD su jA jD) sz)) (va_Qd (fun (r : UInt64) (_ : JT × JT) => alike64 r o = true) (aft D (fw a cI cJ st co ro cA cD su jA jD) sz (fun (u : JT × JT) => (fw a cI cJ st co ro cA cD su u.1 u.2))) (va_A (fw a cI cJ st co ro cA cD su jA jD) sz)) 0 0 (va_A (fw a cI cJ st co ro cA cD su jA jD) sz) := by
  refine xofD (cc := cX1_meanOfNumbers) (maxL := 4) (ret := (some .double)) rfl (by decide) rfl ?_
  intro p e s m args below meth c ls Q A hQ hAe hx hb hr hml hown hts hlocks hN hK H locs hP hD hS hA hl
  replace hown : s.vm.findClass RX1 = some m.cls := hown
  replace hl : lv_has ls 4 [(0, .ref (a 0))] := hl
  have c6 : ∀ (n : Nat), ∀ (v1 : Int32) (v2 : Int32) (v3 : Int32), mX1_meanOfNumbers_6 N st co ro cA cD su n v1 v2 v3 = some o → ∀ (jA' : JT) (jD' : JT) (H : Heap) (locs : List Loc) (ls : Array Slot), va_P D vwCl (fw a cI cJ st co ro cA cD su jA' jD') H → va_D A (fw a cI cJ st co ro cA cD su jA' jD') → va_S A s.heap H locs → lv_has ls 4 [(0, .ref (a 0)), (1, .int v1), (2, .int v2), (3, .int v3)] → W p l e rmX1_meanOfNumbers s m args below meth c H locs 0 0 Q (F0 m 6 ls []) := by
    intro n
    induction n with
    | zero =>
      intro v1 v2 v3 hM
      rw [mX1_meanOfNumbers_6] at hM
      cases hM
    | succ n ih =>
      intro v1 v2 v3 hM jA' jD' H locs ls hP hD hS hl
      rw [mX1_meanOfNumbers_6] at hM
      refine lv_iload_n hx hb dX1_meanOfNumbers_6 rfl (lv_at hl 3 rfl) ?_
      refine lv_aload_n hx hb dX1_meanOfNumbers_7 rfl (lv_at hl 0 rfl) ?_
      obtain ⟨x8, hC, hM⟩ := bd_s hM
      refine cR_i (va_runV (As := []) (rest := [.int v3]) ⟨hx, hb, hml, hown, hts⟩ (kX1_cells (l := l) (D := D) (cI := cI) (cJ := cJ) N a (st := st) (co := co) (ro := ro) (cA := cA) (cD := cD) (su := su) (jA := jA') (jD := jD') hC H.size) (cwV 0 hts gX1_meanOfNumbers_X1_cells rfl rfl rfl (by decide +kernel) ⟨Nat.le_of_ble_eq_true rfl, Nat.le_of_ble_eq_true rfl⟩) (preV [] hN hK hP hD (ci := 1) (q0 := 0) rfl rfl) rfl rfl hl.1 rfl (lv_room (Nat.le_of_ble_eq_true rfl)) dX1_meanOfNumbers_8 ⟨Nat.le_of_ble_eq_true rfl, Nat.le_of_ble_eq_true rfl⟩) hP hS (fun r u H locs hw hP hS => ?_)
      rw [hw]
      refine lv_icmp_ge (tgt := 42) hx hb dX1_meanOfNumbers_11 (by decide) (fun hcc => ?_) (fun hcc => ?_)
      · replace hM := it_p hcc hM
        refine lv_iload_n hx hb dX1_meanOfNumbers_42 rfl (lv_at hl 1 rfl) ?_
        refine lv_if_ne (tgt := 50) hx hb dX1_meanOfNumbers_43 (by decide) (fun hcc => ?_) (fun hcc => ?_)
        · replace hM := it_n hcc hM
          refine lv_iload_n hx hb dX1_meanOfNumbers_50 rfl (lv_at hl 2 rfl) ?_
          refine lv_i2d hx hb dX1_meanOfNumbers_51 ?_
          refine lv_iload_n hx hb dX1_meanOfNumbers_52 rfl (lv_at hl 1 rfl) ?_
          refine lv_i2d hx hb dX1_meanOfNumbers_53 ?_
          refine W.base ?_
          refine lv_ddiv_any (Drawn.sameBut.refl s.drawn lw_cs) lw_bits hx hb dX1_meanOfNumbers_54 (fun r9 d1 hal hd1 => ?_)
          obtain rfl := Option.some.inj hM
          subst hQ hAe
          refine W.endD hd1 ?_
          exact W.dret (v := r9) hx hb hr (fun t ht hW => ⟨⟨r9, (jA', jD'), rfl, hal, ⟨by rw [ht]; exact hP, hD⟩⟩, hS.F ht⟩) hS.2.2 dX1_meanOfNumbers_55
        · replace hM := it_p hcc hM
          refine lv_dconst0 hx hb dX1_meanOfNumbers_46 ?_
          refine lv_goto (tgt := 55) hx hb dX1_meanOfNumbers_47 (by decide) ?_
          obtain rfl := Option.some.inj hM
          subst hQ hAe
          refine W.base ?_
          refine W.endD (Drawn.sameBut.refl s.drawn lw_cs) ?_
          exact W.dret (v := FP.dconst0) hx hb hr (fun t ht hW => ⟨⟨FP.dconst0, (jA', jD'), rfl, al_rfl _, ⟨by rw [ht]; exact hP, hD⟩⟩, hS.F ht⟩) hS.2.2 dX1_meanOfNumbers_55
      · replace hM := it_n hcc hM
        refine lv_aload_n hx hb dX1_meanOfNumbers_14 rfl (lv_at hl 0 rfl) ?_
        refine lv_iload_n hx hb dX1_meanOfNumbers_15 rfl (lv_at hl 3 rfl) ?_
        obtain ⟨x16, hC, hM⟩ := bd_s hM
        refine cR_i (va_runV (As := [.int v3]) (rest := []) ⟨hx, hb, hml, hown, hts⟩ (kX1_isHole (l := l) (D := D) (cI := cI) (cJ := cJ) N a (st := st) (co := co) (ro := ro) (cA := cA) (cD := cD) (su := su) (jA := jA') (jD := jD') (p1 := v3) hC H.size) (cwV 1 hts gX1_meanOfNumbers_X1_isHole rfl rfl rfl (by decide +kernel) ⟨Nat.le_of_ble_eq_true rfl, Nat.le_of_ble_eq_true rfl⟩) (preV [.int v3] hN hK hP hD (ci := 1) (q0 := 0) rfl rfl) rfl rfl hl.1 rfl (lv_room (Nat.le_of_ble_eq_true rfl)) dX1_meanOfNumbers_16 ⟨Nat.le_of_ble_eq_true rfl, Nat.le_of_ble_eq_true rfl⟩) hP hS (fun r u H locs hw hP hS => ?_)
        obtain ⟨hw, hz16⟩ := hw
        rw [hw] at hz16
        rw [hw]
        refine lv_if_eq (tgt := 36) hx hb dX1_meanOfNumbers_19 (by decide) (fun hcc => ?_) (fun hcc => ?_)
        · replace hM := it_p hcc hM
          refine lv_iinc (v := (v3 + 1)) (lv' := [(3, .int (v3 + 1)), (0, .ref (a 0)), (1, .int v1), (2, .int v2)]) hx hb dX1_meanOfNumbers_36 hl (k := 3) rfl (by rfl) (by decide) rfl (fun ls hl => ?_)
          refine lv_goto (tgt := 6) hx hb dX1_meanOfNumbers_39 (by decide) ?_
          exact ih v1 v2 (v3 + 1) hM jA' jD' H locs ls hP hD hS (lv_sub hl [1, 2, 3, 0] rfl)
        · replace hM := it_n hcc hM
          refine lv_iinc (v := (v1 + 1)) (lv' := [(1, .int (v1 + 1)), (0, .ref (a 0)), (2, .int v2), (3, .int v3)]) hx hb dX1_meanOfNumbers_22 hl (k := 1) rfl (by rfl) (by decide) rfl (fun ls hl => ?_)
          refine lv_iload_n hx hb dX1_meanOfNumbers_25 rfl (lv_at hl 2 rfl) ?_
          refine lv_aload_n hx hb dX1_meanOfNumbers_26 rfl (lv_at hl 1 rfl) ?_
          refine lv_iload_n hx hb dX1_meanOfNumbers_27 rfl (lv_at hl 3 rfl) ?_
          obtain ⟨x28, hC, hM⟩ := bd_s hM
          refine cW_i [0, 1, 2, 3, 4, 5, 6, 7, 8, 9, 10, 11] [] (va_runV (As := [.int v3]) (rest := [.int v2]) ⟨hx, hb, hml, hown, hts⟩ (kX1_numbersFor (l := l) (D := D) (cI := cI) (cJ := cJ) N a (st := st) (co := co) (ro := ro) (cA := cA) (cD := cD) (su := su) (jA := jA') (jD := jD') (p1 := v3) hC H.size) (cwV 1 hts gX1_meanOfNumbers_X1_numbersFor rfl rfl rfl (by decide +kernel) ⟨Nat.le_of_ble_eq_true rfl, Nat.le_of_ble_eq_true rfl⟩) (preV [.int v3] hN hK hP hD (ci := 1) (q0 := 0) rfl rfl) rfl rfl hl.1 rfl (lv_room (Nat.le_of_ble_eq_true rfl)) dX1_meanOfNumbers_28 ⟨Nat.le_of_ble_eq_true rfl, Nat.le_of_ble_eq_true rfl⟩) hP hD hS hA rfl (wr := []) rfl (by decide) (by decide) (fun r u28 H locs hw hP hD hS => ?_)
          replace hP : va_P D vwCl (fw a cI cJ st co ro cA cD su u28.1 u28.2) H := hP
          replace hD : va_D A (fw a cI cJ st co ro cA cD su u28.1 u28.2) := hD
          rw [hw]
          refine cR_i (va_runS (As := [.int x28]) (rest := [.int v2]) ⟨hx, hb, hml, hown, hts⟩ (kJ6_bitCount (D := D) (cI := cI) (cJ := cJ) x28 H.size) (va_cwS 1 hts gX1_meanOfNumbers_J6_bitCount_0f7a4 rfl rfl rfl (by decide +kernel) ⟨Nat.le_of_ble_eq_true rfl, Nat.le_of_ble_eq_true rfl⟩) (preS [.int x28] hN hK (hP.sub (ws' := zw) [] rfl) (hD.sub (ws' := zw) [] (by decide) rfl)) rfl rfl hl.1 rfl (lv_room (Nat.le_of_ble_eq_true rfl)) dX1_meanOfNumbers_31 ⟨Nat.le_of_ble_eq_true rfl, Nat.le_of_ble_eq_true rfl⟩) hP hS (fun r u H locs hw hP hS => ?_)
          rw [hw]
          refine lv_iadd hx hb dX1_meanOfNumbers_34 ?_
          refine lv_istore_n (lv' := [(2, .int (v2 + (bc x28))), (1, .int (v1 + 1)), (0, .ref (a 0)), (3, .int v3)]) hx hb dX1_meanOfNumbers_35 rfl hl (by decide) rfl (fun ls hl => ?_)
          refine lv_iinc (v := (v3 + 1)) (lv' := [(3, .int (v3 + 1)), (2, .int (v2 + (bc x28))), (1, .int (v1 + 1)), (0, .ref (a 0))]) hx hb dX1_meanOfNumbers_36 hl (k := 3) rfl (by rfl) (by decide) rfl (fun ls hl => ?_)
          refine lv_goto (tgt := 6) hx hb dX1_meanOfNumbers_39 (by decide) ?_
          exact ih (v1 + 1) (v2 + (bc x28)) (v3 + 1) hM u28.1 u28.2 H locs ls hP hD hS (lv_sub hl [3, 2, 1, 0] rfl)
  rw [mX1_meanOfNumbers] at hM
  refine lv_iconst (v := 0) hx hb dX1_meanOfNumbers_0 (by decide) ?_
  refine lv_istore_n (lv' := [(1, .int (0 : Int32)), (0, .ref (a 0))]) hx hb dX1_meanOfNumbers_1 rfl hl (by decide) rfl (fun ls hl => ?_)
  refine lv_iconst (v := 0) hx hb dX1_meanOfNumbers_2 (by decide) ?_
  refine lv_istore_n (lv' := [(2, .int (0 : Int32)), (1, .int (0 : Int32)), (0, .ref (a 0))]) hx hb dX1_meanOfNumbers_3 rfl hl (by decide) rfl (fun ls hl => ?_)
  refine lv_iconst (v := 0) hx hb dX1_meanOfNumbers_4 (by decide) ?_
  refine lv_istore_n (lv' := [(3, .int (0 : Int32)), (2, .int (0 : Int32)), (1, .int (0 : Int32)), (0, .ref (a 0))]) hx hb dX1_meanOfNumbers_5 rfl hl (by decide) rfl (fun ls hl => ?_)
  exact c6 N (0 : Int32) (0 : Int32) (0 : Int32) hM jA jD H locs ls hP hD hS (lv_sub hl [3, 2, 1, 0] rfl)
def mX4_mean (N : Nat) (st : RowI) (co : Int32) (ro : Int32) (cA : CS) (cD : CS) (su : RowJ) : Option UInt64 :=
  ((mX1_meanOfNumbers N st co ro cA cD su).bind fun x4 =>
  some x4)
abbrev rmX4_mean : Room := { frames := 5, cells := 0, slots := 0, locals := 118 }
set_option maxHeartbeats 4000000 in
set_option maxRecDepth 100000 in
theorem kX4_mean {l : Launch} {D : va_G} {cI cJ : ClassId} (N : Nat) (a : Nat → Nat) {ho : RowI} {ke : RowI} {hc : Int32} {tr : Int32} {fo : Int32} {fr : Int32} {st : RowI} {co : Int32} {ro : Int32} {cA : CS} {cD : CS} {su : RowJ} {jA : JT} {jD : JT} {o : UInt64} (hM : mX4_mean N st co ro cA cD su = some o) (sz : Nat) : MetD lw_cs l yX4_mean wsX4_mean rmX4_mean (va_Pc [.ref (a 15)] (Pre D cI cJ (xw a cI cJ ho ke hc tr fo fr st co ro cA cD su jA jD) sz)) (va_Qd (fun (r : UInt64) (_ : JT × JT) => alike64 r o = true) (aft D (xw a cI cJ ho ke hc tr fo fr st co ro cA cD su jA jD) sz (fun (u : JT × JT) => (xw a cI cJ ho ke hc tr fo fr st co ro cA cD su u.1 u.2))) (va_A (xw a cI cJ ho ke hc tr fo fr st co ro cA cD su jA jD) sz)) 0 0 (va_A (xw a cI cJ ho ke hc tr fo fr st co ro cA cD su jA jD) sz) := by
  refine xofD (cc := cX4_mean) (maxL := 1) (ret := (some .double)) rfl (by decide) rfl ?_
  intro p e s m args below meth c ls Q A hQ hAe hx hb hr hml hown hts hlocks hN hK H locs hP hD hS hA hl
  replace hown : s.vm.findClass RX4 = some m.cls := hown
  replace hl : lv_has ls 1 [(0, .ref (a 15))] := hl
  have iX4 : ∀ w ∈ wsX40, w ∈ wsX4_mean := by decide +kernel
  have f10 := hts (.fieldLink RX4 10 "CryptSums" "floor" "LCryptSums$Floor;") (by decide +kernel)
  rw [mX4_mean] at hM
  refine lv_aload_n hx hb dX4_mean_0 rfl (lv_at hl 0 rfl) ?_
  refine va_get (D := D) (ci := 4) (v := .ref (a 0)) (C := RX4) (T := TX4) (N := 2) hx hb hts iX4 hown hK hP 3 rfl rfl 0 (by decide) f10 (fun _ h9 => h9) rfl dX4_mean_1 ?_
  obtain ⟨x4, hC, hM⟩ := bd_s hM
  refine W.base ?_
  refine cD_d (Drawn.sameBut.refl s.drawn lw_cs) [4, 5, 6, 7, 8, 9, 10, 11, 12, 13, 14, 15] [0, 1, 2, 3] (va_runV_D (As := []) (rest := []) ⟨hx, hb, hml, hown, hts⟩ (kX1_meanOfNumbers (l := l) (D := D) (cI := cI) (cJ := cJ) N a (st := st) (co := co) (ro := ro) (cA := cA) (cD := cD) (su := su) (jA := jA) (jD := jD) hC H.size) (cwV 0 hts gX4_mean_X1_meanOfNumbers rfl rfl rfl (by decide +kernel) ⟨Nat.le_of_ble_eq_true rfl, Nat.le_of_ble_eq_true rfl⟩) (preV [] hN hK (hP.sub (ws' := (fw a cI cJ st co ro cA cD su jA jD)) [4, 5, 6, 7, 8, 9, 10, 11, 12, 13, 14, 15] rfl) (hD.sub (ws' := (fw a cI cJ st co ro cA cD su jA jD)) [4, 5, 6, 7, 8, 9, 10, 11, 12, 13, 14, 15] (by decide) rfl) (ci := 1) (q0 := 0) rfl rfl) rfl rfl hl.1 rfl (lv_room (Nat.le_of_ble_eq_true rfl)) dX4_mean_4 ⟨Nat.le_of_ble_eq_true rfl, Nat.le_of_ble_eq_true rfl⟩) hP hD hS hA rfl (wr := ((xw a cI cJ ho ke hc tr fo fr st co ro cA cD su jA jD)).take 4) rfl (by decide) (by decide) (fun r9 u4 H locs hal hP hD hS d1 hd1 => ?_)
  replace hP : va_P D vwCl (xw a cI cJ ho ke hc tr fo fr st co ro cA cD su u4.1 u4.2) H := hP
  replace hD : va_D A (xw a cI cJ ho ke hc tr fo fr st co ro cA cD su u4.1 u4.2) := hD
  obtain rfl := Option.some.inj hM
  subst hQ hAe
  refine W.endD hd1 ?_
  exact W.dret (v := r9) hx hb hr (fun t ht hW => ⟨⟨r9, (u4.1, u4.2), rfl, hal, ⟨by rw [ht]; exact hP, hD⟩⟩, hS.F ht⟩) hS.2.2 dX4_mean_7
