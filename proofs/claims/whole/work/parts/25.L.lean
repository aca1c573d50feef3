def mL_setFloor (N : Nat) (ou : RowJ) (fr : Int32) (st : RowI) (co : Int32) (ro : Int32) (cA : CS) (cD : CS) (p2 : Int32) (p3 : Int32) : Option (Int32 × RowJ × Int32 × RowI × Int32 × Int32 × CS × CS) :=
  ((mX4_setFloor N fr st co ro cA cD p2 p3).bind fun x5 => Sum.elim (fun k => (if k = 2 then some ((1 : Int32), ou, fr, st, co, ro, cA, cD) else none)) (fun y5 =>
  (if bad (0 : Int32) 1 then none else
  some ((0 : Int32), (vp_updL ou (0 : Int32).toNatClampNeg (y5.1.toInt64)), y5.2.1, y5.2.2.1, y5.2.2.2.1, y5.2.2.2.2.1, y5.2.2.2.2.2.1, y5.2.2.2.2.2.2))) x5)
abbrev rmL_setFloor : Room := { frames := 7, cells := 1, slots := 6, locals := 118 }
set_option maxHeartbeats 4000000 in
set_option maxRecDepth 100000 in
theorem kL_setFloor {l : Launch} {D : va_G} {cI cJ : ClassId} (hlt : l.stackTraces = false) (N : Nat) (a : Nat → Nat) {ou : RowJ} {ho : RowI} {ke : RowI} {hc : Int32} {tr : Int32} {fo : Int32} {fr : Int32} {st : RowI} {co : Int32} {ro : Int32} {cA : CS} {cD : CS} {su : RowJ} {jA : JT} {jD : JT} {p2 : Int32} {p3 : Int32} {o : (Int32 × RowJ × Int32 × RowI × Int32 × Int32 × CS × CS)} (hM : mL_setFloor N ou fr st co ro cA cD p2 p3 = some o) (sz : Nat) : Met l yL_setFloor wsL_setFloor rmL_setFloor (va_Pc [.ref (a 15), .int p2, .int p3, .ref (a 16)] (PreT D cI cJ (ow a cI cJ ou ho ke hc tr fo fr st co ro cA cD su jA jD) sz)) (va_Qi (fun (r : Int32) (_ : Unit) => r = o.1) (aft D (ow a cI cJ ou ho ke hc tr fo fr st co ro cA cD su jA jD) sz (fun (_ : Unit) => (ow a cI cJ o.2.1 ho ke hc tr fo o.2.2.1 o.2.2.2.1 o.2.2.2.2.1 o.2.2.2.2.2.1 o.2.2.2.2.2.2.1 o.2.2.2.2.2.2.2 su jA jD))) (va_A (ow a cI cJ ou ho ke hc tr fo fr st co ro cA cD su jA jD) sz)) 1 6 (va_A (ow a cI cJ ou ho ke hc tr fo fr st co ro cA cD su jA jD) sz) := by
  refine xofH (cc := cL_setFloor) (maxL := 5) (ret := (some .int)) rfl (by decide) rfl ?_
  intro p e s m args below meth c ls Q A hQ hAe hx hb hr hml hown hts hlocks htab hTX hN hK H locs hP hD hS hA hl
  replace hown : s.vm.findClass RL = some m.cls := hown
  replace hl : lv_has ls 5 [(0, .ref (a 15)), (1, .int p2), (2, .int p3), (3, .ref (a 16))] := hl
  rw [mL_setFloor] at hM
  refine lv_aload_n hx hb dL_setFloor_0 rfl (lv_at hl 3 rfl) ?_
  refine lv_iconst (v := 0) hx hb dL_setFloor_1 (by decide) ?_
  refine lv_aload_n hx hb dL_setFloor_2 rfl (lv_at hl 0 rfl) ?_
  refine lv_iload_n hx hb dL_setFloor_3 rfl (lv_at hl 1 rfl) ?_
  refine lv_iload_n hx hb dL_setFloor_4 rfl (lv_at hl 2 rfl) ?_
  obtain ⟨x5, hC, hM⟩ := bd_s hM
  refine cT_i [1, 2, 3, 4, 5, 6, 7, 8, 9, 10, 11, 12, 13, 14, 15, 16] [0] [0, 1, 2, 3, 4, 5, 6, 7, 8, 9, 10, 11, 12, 13, 14, 15, 16] (vx_runV (As := [.int p2, .int p3]) (rest := [.int (0 : Int32), .ref (a 16)]) ⟨hx, hb, hml, hown, hts⟩ (kX4_setFloor (l := l) (D := D) (cI := cI) (cJ := cJ) hlt N a (ho := ho) (ke := ke) (hc := hc) (tr := tr) (fo := fo) (fr := fr) (st := st) (co := co) (ro := ro) (cA := cA) (cD := cD) (su := su) (jA := jA) (jD := jD) (p1 := p2) (p2 := p3) hC H.size) (cwV 2 hts gL_setFloor_X4_setFloor rfl rfl rfl (by decide +kernel) ⟨Nat.le_of_ble_eq_true rfl, Nat.le_of_ble_eq_true rfl⟩) (preVT [.int p2, .int p3] hTX hS (va_free (wc := (xw a cI cJ ho ke hc tr fo fr st co ro cA cD su jA jD)) hD hS hA [1, 2, 3, 4, 5, 6, 7, 8, 9, 10, 11, 12, 13, 14, 15, 16] rfl) hN hK (hP.sub (ws' := (xw a cI cJ ho ke hc tr fo fr st co ro cA cD su jA jD)) [1, 2, 3, 4, 5, 6, 7, 8, 9, 10, 11, 12, 13, 14, 15, 16] rfl) (hD.sub (ws' := (xw a cI cJ ho ke hc tr fo fr st co ro cA cD su jA jD)) [1, 2, 3, 4, 5, 6, 7, 8, 9, 10, 11, 12, 13, 14, 15, 16] (by decide) rfl) (ci := 4) (q0 := 3) rfl rfl) rfl rfl hl.1 rfl (lv_room (Nat.le_of_ble_eq_true rfl)) dL_setFloor_5 ⟨Nat.le_of_ble_eq_true rfl, Nat.le_of_ble_eq_true rfl⟩) hP hD hS hA rfl (wr := (((ow a cI cJ ou ho ke hc tr fo fr st co ro cA cD su jA jD)).take 1)) rfl (by decide) (by decide) rfl (by decide) rfl (fun E ce q9 H locs hE hP hD hS h1 h2 h3 => ?_) (fun r u5 H locs hw hP hD hS => ?_)
  · obtain ⟨k, hk, hE⟩ := hE
    subst hk
    dsimp only [Sum.elim] at hM
    by_cases hk2 : k = 2
    · replace hM := it_p hk2 hM
      subst hk2
      replace hE : E = xIA := hE
      subst hE
      refine catch1 (cls := xIA) (Ts := wsL_setFloor) [] (0, 10, 13, 13) [] hown htab hts hTX (fun z hz => absurd hz List.not_mem_nil) (by decide) (by decide) (by decide +kernel) (by decide +kernel) h1 h2 h3 ?_
      refine W.eq (g2 := F0 m 13 ls [.ref q9]) rfl ?_
      refine lv_astore (lv' := [(4, .ref q9), (0, .ref (a 15)), (1, .int p2), (2, .int p3), (3, .ref (a 16))]) hx hb dL_setFloor_13 hl (by decide) rfl (fun ls hl => ?_)
      refine lv_iconst (v := 1) hx hb dL_setFloor_15 (by decide) ?_
      obtain rfl := Option.some.inj hM
      subst hQ hAe
      refine W.widen (k := 1) (n := 6) (by decide) (by decide) ?_
      exact W.iret (v := (1 : Int32)) hx hb hr (fun t ht hW => ⟨⟨(1 : Int32), (), rfl, rfl, ⟨by rw [ht]; exact hP, hD⟩⟩, hS.F ht⟩) hS.2.2 dL_setFloor_16
    replace hM := it_n hk2 hM
    cases hM
  obtain ⟨hxx, hw⟩ := hw
  subst hxx
  dsimp only [Sum.elim] at hM
  replace hP : va_P D vwCl (ow a cI cJ ou ho ke hc tr fo u5.1.2.1 u5.1.2.2.1 u5.1.2.2.2.1 u5.1.2.2.2.2.1 u5.1.2.2.2.2.2.1 u5.1.2.2.2.2.2.2 su jA jD) H := hP
  replace hD : va_D A (ow a cI cJ ou ho ke hc tr fo u5.1.2.1 u5.1.2.2.1 u5.1.2.2.2.1 u5.1.2.2.2.2.1 u5.1.2.2.2.2.2.1 u5.1.2.2.2.2.2.2 su jA jD) := hD
  rw [hw]
  refine lv_i2l (v := u5.1.1.toInt64) hx hb dL_setFloor_8 rfl ?_
  obtain ⟨hb9, hM⟩ := it_x hM
  refine va_last (D := D) hx hb hK hP hD hS 0 1 rfl rfl hb9 dL_setFloor_9 (fun H locs hP hD hS => ?_)
  replace hP : va_P D vwCl (ow a cI cJ (vp_updL ou (0 : Int32).toNatClampNeg (u5.1.1.toInt64)) ho ke hc tr fo u5.1.2.1 u5.1.2.2.1 u5.1.2.2.2.1 u5.1.2.2.2.2.1 u5.1.2.2.2.2.2.1 u5.1.2.2.2.2.2.2 su jA jD) H := hP
  replace hD : va_D A (ow a cI cJ (vp_updL ou (0 : Int32).toNatClampNeg (u5.1.1.toInt64)) ho ke hc tr fo u5.1.2.1 u5.1.2.2.1 u5.1.2.2.2.1 u5.1.2.2.2.2.1 u5.1.2.2.2.2.2.1 u5.1.2.2.2.2.2.2 su jA jD) := hD
  refine lv_goto (tgt := 17) hx hb dL_setFloor_10 (by decide) ?_
  refine lv_iconst (v := 0) hx hb dL_setFloor_17 (by decide) ?_
  obtain rfl := Option.some.inj hM
  subst hQ hAe
  refine W.widen (k := 1) (n := 6) (by decide) (by decide) ?_
  exact W.iret (v := (0 : Int32)) hx hb hr (fun t ht hW => ⟨⟨(0 : Int32), (), rfl, rfl, ⟨by rw [ht]; exact hP, hD⟩⟩, hS.F ht⟩) hS.2.2 dL_setFloor_18
def mL_pillar (N : Nat) (ou : RowJ) (fr : Int32) (st : RowI) (co : Int32) (ro : Int32) (cA : CS) (cD : CS) (p2 : Int32) : Option (Int32 × RowJ × Int32 × RowI × CS × CS) :=
  ((mX4_pillar N fr st co ro cA cD p2).bind fun x4 => Sum.elim (fun k => (if k = 1 then some ((1 : Int32), ou, fr, st, cA, cD) else none)) (fun y4 =>
  (if y4.1 = 0 then
  (if bad (0 : Int32) 1 then none else
  some ((0 : Int32), (vp_updL ou (0 : Int32).toNatClampNeg (0 : Int64)), y4.2.1, y4.2.2.1, y4.2.2.2.1, y4.2.2.2.2))
  else
  (if bad (0 : Int32) 1 then none else
  some ((0 : Int32), (vp_updL ou (0 : Int32).toNatClampNeg (1 : Int64)), y4.2.1, y4.2.2.1, y4.2.2.2.1, y4.2.2.2.2)))) x4)
abbrev rmL_pillar : Room := { frames := 8, cells := 1, slots := 6, locals := 138 }
set_option maxHeartbeats 4000000 in
set_option maxRecDepth 100000 in
theorem kL_pillar {l : Launch} {D : va_G} {cI cJ : ClassId} (hlt : l.stackTraces = false) (N : Nat) (a : Nat → Nat) {ou : RowJ} {ho : RowI} {ke : RowI} {hc : Int32} {tr : Int32} {fo : Int32} {fr : Int32} {st : RowI} {co : Int32} {ro : Int32} {cA : CS} {cD : CS} {su : RowJ} {jA : JT} {jD : JT} {p2 : Int32} {o : (Int32 × RowJ × Int32 × RowI × CS × CS)} (hM : mL_pillar N ou fr st co ro cA cD p2 = some o) (sz : Nat) : Met l yL_pillar wsL_pillar rmL_pillar (va_Pc [.ref (a 15), .int p2, .ref (a 16)] (PreT D cI cJ (ow a cI cJ ou ho ke hc tr fo fr st co ro cA cD su jA jD) sz)) (va_Qi (fun (r : Int32) (_ : Unit) => r = o.1) (aft D (ow a cI cJ ou ho ke hc tr fo fr st co ro cA cD su jA jD) sz (fun (_ : Unit) => (ow a cI cJ o.2.1 ho ke hc tr fo o.2.2.1 o.2.2.2.1 co ro o.2.2.2.2.1 o.2.2.2.2.2 su jA jD))) (va_A (ow a cI cJ ou ho ke hc tr fo fr st co ro cA cD su jA jD) sz)) 1 6 (va_A (ow a cI cJ ou ho ke hc tr fo fr st co ro cA cD su jA jD) sz) := by
  refine xofH (cc := cL_pillar) (maxL := 4) (ret := (some .int)) rfl (by decide) rfl ?_
  intro p e s m args below meth c ls Q A hQ hAe hx hb hr hml hown hts hlocks htab hTX hN hK H locs hP hD hS hA hl
  replace hown : s.vm.findClass RL = some m.cls := hown
  replace hl : lv_has ls 4 [(0, .ref (a 15)), (1, .int p2), (2, .ref (a 16))] := hl
  rw [mL_pillar] at hM
  refine lv_aload_n hx hb dL_pillar_0 rfl (lv_at hl 2 rfl) ?_
  refine lv_iconst (v := 0) hx hb dL_pillar_1 (by decide) ?_
  refine lv_aload_n hx hb dL_pillar_2 rfl (lv_at hl 0 rfl) ?_
  refine lv_iload_n hx hb dL_pillar_3 rfl (lv_at hl 1 rfl) ?_
  obtain ⟨x4, hC, hM⟩ := bd_s hM
  refine cT_i [1, 2, 3, 4, 5, 6, 7, 8, 9, 10, 11, 12, 13, 14, 15, 16] [0] [0, 1, 2, 3, 4, 5, 6, 7, 8, 9, 10, 11, 12, 13, 14, 15, 16] (vx_runV (As := [.int p2]) (rest := [.int (0 : Int32), .ref (a 16)]) ⟨hx, hb, hml, hown, hts⟩ (kX4_pillar (l := l) (D := D) (cI := cI) (cJ := cJ) hlt N a (ho := ho) (ke := ke) (hc := hc) (tr := tr) (fo := fo) (fr := fr) (st := st) (co := co) (ro := ro) (cA := cA) (cD := cD) (su := su) (jA := jA) (jD := jD) (p1 := p2) hC H.size) (cwV 1 hts gL_pillar_X4_pillar rfl rfl rfl (by decide +kernel) ⟨Nat.le_of_ble_eq_true rfl, Nat.le_of_ble_eq_true rfl⟩) (preVT [.int p2] hTX hS (va_free (wc := (xw a cI cJ ho ke hc tr fo fr st co ro cA cD su jA jD)) hD hS hA [1, 2, 3, 4, 5, 6, 7, 8, 9, 10, 11, 12, 13, 14, 15, 16] rfl) hN hK (hP.sub (ws' := (xw a cI cJ ho ke hc tr fo fr st co ro cA cD su jA jD)) [1, 2, 3, 4, 5, 6, 7, 8, 9, 10, 11, 12, 13, 14, 15, 16] rfl) (hD.sub (ws' := (xw a cI cJ ho ke hc tr fo fr st co ro cA cD su jA jD)) [1, 2, 3, 4, 5, 6, 7, 8, 9, 10, 11, 12, 13, 14, 15, 16] (by decide) rfl) (ci := 4) (q0 := 3) rfl rfl) rfl rfl hl.1 rfl (lv_room (Nat.le_of_ble_eq_true rfl)) dL_pillar_4 ⟨Nat.le_of_ble_eq_true rfl, Nat.le_of_ble_eq_true rfl⟩) hP hD hS hA rfl (wr := (((ow a cI cJ ou ho ke hc tr fo fr st co ro cA cD su jA jD)).take 1)) rfl (by decide) (by decide) rfl (by decide) rfl (fun E ce q9 H locs hE hP hD hS h1 h2 h3 => ?_) (fun r u4 H locs hw hP hD hS => ?_)
  · obtain ⟨k, hk, hE⟩ := hE
    subst hk
    dsimp only [Sum.elim] at hM
    by_cases hk1 : k = 1
    · replace hM := it_p hk1 hM
      subst hk1
      replace hE : E = xIO := hE
      subst hE
      refine catch1 (cls := xIO) (Ts := wsL_pillar) [] (0, 16, 19, 19) [] hown htab hts hTX (fun z hz => absurd hz List.not_mem_nil) (by decide) (by decide) (by decide +kernel) (by decide +kernel) h1 h2 h3 ?_
      refine W.eq (g2 := F0 m 19 ls [.ref q9]) rfl ?_
      refine lv_astore_n (lv' := [(3, .ref q9), (0, .ref (a 15)), (1, .int p2), (2, .ref (a 16))]) hx hb dL_pillar_19 rfl hl (by decide) rfl (fun ls hl => ?_)
      refine lv_iconst (v := 1) hx hb dL_pillar_20 (by decide) ?_
      obtain rfl := Option.some.inj hM
      subst hQ hAe
      refine W.widen (k := 1) (n := 6) (by decide) (by decide) ?_
      exact W.iret (v := (1 : Int32)) hx hb hr (fun t ht hW => ⟨⟨(1 : Int32), (), rfl, rfl, ⟨by rw [ht]; exact hP, hD⟩⟩, hS.F ht⟩) hS.2.2 dL_pillar_21
    replace hM := it_n hk1 hM
    cases hM
  obtain ⟨hxx, hw⟩ := hw
  subst hxx
  dsimp only [Sum.elim] at hM
  replace hP : va_P D vwCl (ow a cI cJ ou ho ke hc tr fo u4.1.2.1 u4.1.2.2.1 co ro u4.1.2.2.2.1 u4.1.2.2.2.2 su jA jD) H := hP
  replace hD : va_D A (ow a cI cJ ou ho ke hc tr fo u4.1.2.1 u4.1.2.2.1 co ro u4.1.2.2.2.1 u4.1.2.2.2.2 su jA jD) := hD
  obtain ⟨hw, hz4⟩ := hw
  rw [hw] at hz4
  rw [hw]
  refine lv_if_eq (tgt := 14) hx hb dL_pillar_7 (by decide) (fun hcc => ?_) (fun hcc => ?_)
  · replace hM := it_p hcc hM
    refine lv_lconst (v := 0) hx hb dL_pillar_14 (by decide) ?_
    obtain ⟨hb15, hM⟩ := it_x hM
    refine va_last (D := D) hx hb hK hP hD hS 0 1 rfl rfl hb15 dL_pillar_15 (fun H locs hP hD hS => ?_)
    replace hP : va_P D vwCl (ow a cI cJ (vp_updL ou (0 : Int32).toNatClampNeg (0 : Int64)) ho ke hc tr fo u4.1.2.1 u4.1.2.2.1 co ro u4.1.2.2.2.1 u4.1.2.2.2.2 su jA jD) H := hP
    replace hD : va_D A (ow a cI cJ (vp_updL ou (0 : Int32).toNatClampNeg (0 : Int64)) ho ke hc tr fo u4.1.2.1 u4.1.2.2.1 co ro u4.1.2.2.2.1 u4.1.2.2.2.2 su jA jD) := hD
    refine lv_goto (tgt := 22) hx hb dL_pillar_16 (by decide) ?_
    refine lv_iconst (v := 0) hx hb dL_pillar_22 (by decide) ?_
    obtain rfl := Option.some.inj hM
    subst hQ hAe
    refine W.widen (k := 1) (n := 6) (by decide) (by decide) ?_
    exact W.iret (v := (0 : Int32)) hx hb hr (fun t ht hW => ⟨⟨(0 : Int32), (), rfl, rfl, ⟨by rw [ht]; exact hP, hD⟩⟩, hS.F ht⟩) hS.2.2 dL_pillar_23
  · replace hM := it_n hcc hM
    refine lv_lconst (v := 1) hx hb dL_pillar_10 (by decide) ?_
    refine lv_goto (tgt := 15) hx hb dL_pillar_11 (by decide) ?_
    obtain ⟨hb15, hM⟩ := it_x hM
    refine va_last (D := D) hx hb hK hP hD hS 0 1 rfl rfl hb15 dL_pillar_15 (fun H locs hP hD hS => ?_)
    replace hP : va_P D vwCl (ow a cI cJ (vp_updL ou (0 : Int32).toNatClampNeg (1 : Int64)) ho ke hc tr fo u4.1.2.1 u4.1.2.2.1 co ro u4.1.2.2.2.1 u4.1.2.2.2.2 su jA jD) H := hP
    replace hD : va_D A (ow a cI cJ (vp_updL ou (0 : Int32).toNatClampNeg (1 : Int64)) ho ke hc tr fo u4.1.2.1 u4.1.2.2.1 co ro u4.1.2.2.2.1 u4.1.2.2.2.2 su jA jD) := hD
    refine lv_goto (tgt := 22) hx hb dL_pillar_16 (by decide) ?_
    refine lv_iconst (v := 0) hx hb dL_pillar_22 (by decide) ?_
    obtain rfl := Option.some.inj hM
    subst hQ hAe
    refine W.widen (k := 1) (n := 6) (by decide) (by decide) ?_
    exact W.iret (v := (0 : Int32)) hx hb hr (fun t ht hW => ⟨⟨(0 : Int32), (), rfl, rfl, ⟨by rw [ht]; exact hP, hD⟩⟩, hS.F ht⟩) hS.2.2 dL_pillar_23
def mL_setSum (N : Nat) (ou : RowJ) (fr : Int32) (co : Int32) (ro : Int32) (cA : CS) (cD : CS) (p2 : Int32) (p3 : Int32) (p4 : Int32) : Option (Int32 × RowJ × Int32 × CS × CS) :=
  ((mX4_setSum N fr co ro cA cD p2 p3 p4).bind fun x7 => Sum.elim (fun k => (if k = 1 then some ((1 : Int32), ou, fr, cA, cD) else (if k = 2 then some ((2 : Int32), ou, fr, cA, cD) else none))) (fun y7 =>
  (if bad (0 : Int32) 1 then none else
  some ((0 : Int32), (vp_updL ou (0 : Int32).toNatClampNeg (y7.1.toInt64)), y7.2.1, y7.2.2.1, y7.2.2.2))) x7)
abbrev rmL_setSum : Room := { frames := 8, cells := 2, slots := 12, locals := 140 }
set_option maxHeartbeats 4000000 in
set_option maxRecDepth 100000 in
theorem kL_setSum {l : Launch} {D : va_G} {cI cJ : ClassId} (hlt : l.stackTraces = false) (N : Nat) (a : Nat → Nat) {ou : RowJ} {ho : RowI} {ke : RowI} {hc : Int32} {tr : Int32} {fo : Int32} {fr : Int32} {st : RowI} {co : Int32} {ro : Int32} {cA : CS} {cD : CS} {su : RowJ} {jA : JT} {jD : JT} {p2 : Int32} {p3 : Int32} {p4 : Int32} {o : (Int32 × RowJ × Int32 × CS × CS)} (hM : mL_setSum N ou fr co ro cA cD p2 p3 p4 = some o) (sz : Nat) : Met l yL_setSum wsL_setSum rmL_setSum (va_Pc [.ref (a 15), .int p2, .int p3, .int p4, .ref (a 16)] (PreT D cI cJ (ow a cI cJ ou ho ke hc tr fo fr st co ro cA cD su jA jD) sz)) (va_Qi (fun (r : Int32) (_ : Unit) => r = o.1) (aft D (ow a cI cJ ou ho ke hc tr fo fr st co ro cA cD su jA jD) sz (fun (_ : Unit) => (ow a cI cJ o.2.1 ho ke hc tr fo o.2.2.1 st co ro o.2.2.2.1 o.2.2.2.2 su jA jD))) (va_A (ow a cI cJ ou ho ke hc tr fo fr st co ro cA cD su jA jD) sz)) 2 12 (va_A (ow a cI cJ ou ho ke hc tr fo fr st co ro cA cD su jA jD) sz) := by
  refine xofH (cc := cL_setSum) (maxL := 6) (ret := (some .int)) rfl (by decide) rfl ?_
  intro p e s m args below meth c ls Q A hQ hAe hx hb hr hml hown hts hlocks htab hTX hN hK H locs hP hD hS hA hl
  replace hown : s.vm.findClass RL = some m.cls := hown
  replace hl : lv_has ls 6 [(0, .ref (a 15)), (1, .int p2), (2, .int p3), (3, .int p4), (4, .ref (a 16))] := hl
  rw [mL_setSum] at hM
  refine lv_aload hx hb dL_setSum_0 (lv_at hl 4 rfl) ?_
  refine lv_iconst (v := 0) hx hb dL_setSum_2 (by decide) ?_
  refine lv_aload_n hx hb dL_setSum_3 rfl (lv_at hl 0 rfl) ?_
  refine lv_iload_n hx hb dL_setSum_4 rfl (lv_at hl 1 rfl) ?_
  refine lv_iload_n hx hb dL_setSum_5 rfl (lv_at hl 2 rfl) ?_
  refine lv_iload_n hx hb dL_setSum_6 rfl (lv_at hl 3 rfl) ?_
  obtain ⟨x7, hC, hM⟩ := bd_s hM
  refine cT_i [1, 2, 3, 4, 5, 6, 7, 8, 9, 10, 11, 12, 13, 14, 15, 16] [0] [0, 1, 2, 3, 4, 5, 6, 7, 8, 9, 10, 11, 12, 13, 14, 15, 16] (vx_runV (As := [.int p2, .int p3, .int p4]) (rest := [.int (0 : Int32), .ref (a 16)]) ⟨hx, hb, hml, hown, hts⟩ (kX4_setSum (l := l) (D := D) (cI := cI) (cJ := cJ) hlt N a (ho := ho) (ke := ke) (hc := hc) (tr := tr) (fo := fo) (fr := fr) (st := st) (co := co) (ro := ro) (cA := cA) (cD := cD) (su := su) (jA := jA) (jD := jD) (p1 := p2) (p2 := p3) (p3 := p4) hC H.size) (cwV 3 hts gL_setSum_X4_setSum rfl rfl rfl (by decide +kernel) ⟨Nat.le_of_ble_eq_true rfl, Nat.le_of_ble_eq_true rfl⟩) (preVT [.int p2, .int p3, .int p4] hTX hS (va_free (wc := (xw a cI cJ ho ke hc tr fo fr st co ro cA cD su jA jD)) hD hS hA [1, 2, 3, 4, 5, 6, 7, 8, 9, 10, 11, 12, 13, 14, 15, 16] rfl) hN hK (hP.sub (ws' := (xw a cI cJ ho ke hc tr fo fr st co ro cA cD su jA jD)) [1, 2, 3, 4, 5, 6, 7, 8, 9, 10, 11, 12, 13, 14, 15, 16] rfl) (hD.sub (ws' := (xw a cI cJ ho ke hc tr fo fr st co ro cA cD su jA jD)) [1, 2, 3, 4, 5, 6, 7, 8, 9, 10, 11, 12, 13, 14, 15, 16] (by decide) rfl) (ci := 4) (q0 := 3) rfl rfl) rfl rfl hl.1 rfl (lv_room (Nat.le_of_ble_eq_true rfl)) dL_setSum_7 ⟨Nat.le_of_ble_eq_true rfl, Nat.le_of_ble_eq_true rfl⟩) hP hD hS hA rfl (wr := (((ow a cI cJ ou ho ke hc tr fo fr st co ro cA cD su jA jD)).take 1)) rfl (by decide) (by decide) rfl (by decide) rfl (fun E ce q9 H locs hE hP hD hS h1 h2 h3 => ?_) (fun r u7 H locs hw hP hD hS => ?_)
  · obtain ⟨k, hk, hE⟩ := hE
    subst hk
    dsimp only [Sum.elim] at hM
    by_cases hk1 : k = 1
    · replace hM := it_p hk1 hM
      subst hk1
      replace hE : E = xIO := hE
      subst hE
      refine catch1 (cls := xIO) (Ts := wsL_setSum) [] (0, 12, 15, 19) [(0, 12, 19, 13)] hown htab hts hTX (fun z hz => absurd hz List.not_mem_nil) (by decide) (by decide) (by decide +kernel) (by decide +kernel) h1 h2 h3 ?_
      refine W.eq (g2 := F0 m 15 ls [.ref q9]) rfl ?_
      refine lv_astore (lv' := [(5, .ref q9), (0, .ref (a 15)), (1, .int p2), (2, .int p3), (3, .int p4), (4, .ref (a 16))]) hx hb dL_setSum_15 hl (by decide) rfl (fun ls hl => ?_)
      refine lv_iconst (v := 1) hx hb dL_setSum_17 (by decide) ?_
      obtain rfl := Option.some.inj hM
      subst hQ hAe
      refine W.widen (k := 2) (n := 12) (by decide) (by decide) ?_
      exact W.iret (v := (1 : Int32)) hx hb hr (fun t ht hW => ⟨⟨(1 : Int32), (), rfl, rfl, ⟨by rw [ht]; exact hP, hD⟩⟩, hS.F ht⟩) hS.2.2 dL_setSum_18
    replace hM := it_n hk1 hM
    by_cases hk2 : k = 2
    · replace hM := it_p hk2 hM
      subst hk2
      replace hE : E = xIA := hE
      subst hE
      refine catch1 (cls := xIA) (Ts := wsL_setSum) [(0, 12, 15, 19)] (0, 12, 19, 13) [] hown htab hts hTX (fun z hz => by
        simp only [List.mem_cons, List.not_mem_nil, or_false] at hz
        rcases hz with rfl
        · exact ⟨by decide, xIO, by decide +kernel, hTX.2.2.2.2.1⟩) (by decide) (by decide) (by decide +kernel) (by decide +kernel) h1 h2 h3 ?_
      refine W.eq (g2 := F0 m 19 ls [.ref q9]) rfl ?_
      refine lv_astore (lv' := [(5, .ref q9), (0, .ref (a 15)), (1, .int p2), (2, .int p3), (3, .int p4), (4, .ref (a 16))]) hx hb dL_setSum_19 hl (by decide) rfl (fun ls hl => ?_)
      refine lv_iconst (v := 2) hx hb dL_setSum_21 (by decide) ?_
      obtain rfl := Option.some.inj hM
      subst hQ hAe
      refine W.widen (k := 2) (n := 12) (by decide) (by decide) ?_
      exact W.iret (v := (2 : Int32)) hx hb hr (fun t ht hW => ⟨⟨(2 : Int32), (), rfl, rfl, ⟨by rw [ht]; exact hP, hD⟩⟩, hS.F ht⟩) hS.2.2 dL_setSum_22
    replace hM := it_n hk2 hM
    cases hM
  obtain ⟨hxx, hw⟩ := hw
  subst hxx
  dsimp only [Sum.elim] at hM
  replace hP : va_P D vwCl (ow a cI cJ ou ho ke hc tr fo u7.1.2.1 st co ro u7.1.2.2.1 u7.1.2.2.2 su jA jD) H := hP
  replace hD : va_D A (ow a cI cJ ou ho ke hc tr fo u7.1.2.1 st co ro u7.1.2.2.1 u7.1.2.2.2 su jA jD) := hD
  rw [hw]
  refine lv_i2l (v := u7.1.1.toInt64) hx hb dL_setSum_10 rfl ?_
  obtain ⟨hb11, hM⟩ := it_x hM
  refine va_last (D := D) hx hb hK hP hD hS 0 1 rfl rfl hb11 dL_setSum_11 (fun H locs hP hD hS => ?_)
  replace hP : va_P D vwCl (ow a cI cJ (vp_updL ou (0 : Int32).toNatClampNeg (u7.1.1.toInt64)) ho ke hc tr fo u7.1.2.1 st co ro u7.1.2.2.1 u7.1.2.2.2 su jA jD) H := hP
  replace hD : va_D A (ow a cI cJ (vp_updL ou (0 : Int32).toNatClampNeg (u7.1.1.toInt64)) ho ke hc tr fo u7.1.2.1 st co ro u7.1.2.2.1 u7.1.2.2.2 su jA jD) := hD
  refine lv_goto (tgt := 23) hx hb dL_setSum_12 (by decide) ?_
  refine lv_iconst (v := 0) hx hb dL_setSum_23 (by decide) ?_
  obtain rfl := Option.some.inj hM
  subst hQ hAe
  refine W.widen (k := 2) (n := 12) (by decide) (by decide) ?_
  exact W.iret (v := (0 : Int32)) hx hb hr (fun t ht hW => ⟨⟨(0 : Int32), (), rfl, rfl, ⟨by rw [ht]; exact hP, hD⟩⟩, hS.F ht⟩) hS.2.2 dL_setSum_24
def mL_put (N : Nat) (ou : RowJ) (fr : Int32) (st : RowI) (co : Int32) (ro : Int32) (p2 : Int32) (p3 : Int32) : Option (Int32 × RowJ × Int32 × RowI) :=
  ((mX4_put N fr st co ro p2 p3).bind fun x5 => Sum.elim (fun k => (if k = 1 then some ((1 : Int32), ou, fr, st) else (if k = 2 then some ((2 : Int32), ou, fr, st) else (if k = 3 then some ((3 : Int32), ou, fr, st) else none)))) (fun y5 =>
  (if bad (0 : Int32) 1 then none else
  some ((0 : Int32), (vp_updL ou (0 : Int32).toNatClampNeg (y5.1.toInt64)), y5.2.1, y5.2.2))) x5)
abbrev rmL_put : Room := { frames := 8, cells := 2, slots := 12, locals := 140 }
set_option maxHeartbeats 4000000 in
set_option maxRecDepth 100000 in
theorem kL_put {l : Launch} {D : va_G} {cI cJ : ClassId} (hlt : l.stackTraces = false) (N : Nat) (a : Nat → Nat) {ou : RowJ} {ho : RowI} {ke : RowI} {hc : Int32} {tr : Int32} {fo : Int32} {fr : Int32} {st : RowI} {co : Int32} {ro : Int32} {cA : CS} {cD : CS} {su : RowJ} {jA : JT} {jD : JT} {p2 : Int32} {p3 : Int32} {o : (Int32 × RowJ × Int32 × RowI)} (hM : mL_put N ou fr st co ro p2 p3 = some o) (sz : Nat) : Met l yL_put wsL_put rmL_put (va_Pc [.ref (a 15), .int p2, .int p3, .ref (a 16)] (PreT D cI cJ (ow a cI cJ ou ho ke hc tr fo fr st co ro cA cD su jA jD) sz)) (va_Qi (fun (r : Int32) (_ : Unit) => r = o.1) (aft D (ow a cI cJ ou ho ke hc tr fo fr st co ro cA cD su jA jD) sz (fun (_ : Unit) => (ow a cI cJ o.2.1 ho ke hc tr fo o.2.2.1 o.2.2.2 co ro cA cD su jA jD))) (va_A (ow a cI cJ ou ho ke hc tr fo fr st co ro cA cD su jA jD) sz)) 2 12 (va_A (ow a cI cJ ou ho ke hc tr fo fr st co ro cA cD su jA jD) sz) := by
  refine xofH (cc := cL_put) (maxL := 5) (ret := (some .int)) rfl (by decide) rfl ?_
  intro p e s m args below meth c ls Q A hQ hAe hx hb hr hml hown hts hlocks htab hTX hN hK H locs hP hD hS hA hl
  replace hown : s.vm.findClass RL = some m.cls := hown
  replace hl : lv_has ls 5 [(0, .ref (a 15)), (1, .int p2), (2, .int p3), (3, .ref (a 16))] := hl
  rw [mL_put] at hM
  refine lv_aload_n hx hb dL_put_0 rfl (lv_at hl 3 rfl) ?_
  refine lv_iconst (v := 0) hx hb dL_put_1 (by decide) ?_
  refine lv_aload_n hx hb dL_put_2 rfl (lv_at hl 0 rfl) ?_
  refine lv_iload_n hx hb dL_put_3 rfl (lv_at hl 1 rfl) ?_
  refine lv_iload_n hx hb dL_put_4 rfl (lv_at hl 2 rfl) ?_
  obtain ⟨x5, hC, hM⟩ := bd_s hM
  refine cT_i [1, 2, 3, 4, 5, 6, 7, 8, 9, 10, 11, 12, 13, 14, 15, 16] [0] [0, 1, 2, 3, 4, 5, 6, 7, 8, 9, 10, 11, 12, 13, 14, 15, 16] (vx_runV (As := [.int p2, .int p3]) (rest := [.int (0 : Int32), .ref (a 16)]) ⟨hx, hb, hml, hown, hts⟩ (kX4_put (l := l) (D := D) (cI := cI) (cJ := cJ) hlt N a (ho := ho) (ke := ke) (hc := hc) (tr := tr) (fo := fo) (fr := fr) (st := st) (co := co) (ro := ro) (cA := cA) (cD := cD) (su := su) (jA := jA) (jD := jD) (p1 := p2) (p2 := p3) hC H.size) (cwV 2 hts gL_put_X4_put rfl rfl rfl (by decide +kernel) ⟨Nat.le_of_ble_eq_true rfl, Nat.le_of_ble_eq_true rfl⟩) (preVT [.int p2, .int p3] hTX hS (va_free (wc := (xw a cI cJ ho ke hc tr fo fr st co ro cA cD su jA jD)) hD hS hA [1, 2, 3, 4, 5, 6, 7, 8, 9, 10, 11, 12, 13, 14, 15, 16] rfl) hN hK (hP.sub (ws' := (xw a cI cJ ho ke hc tr fo fr st co ro cA cD su jA jD)) [1, 2, 3, 4, 5, 6, 7, 8, 9, 10, 11, 12, 13, 14, 15, 16] rfl) (hD.sub (ws' := (xw a cI cJ ho ke hc tr fo fr st co ro cA cD su jA jD)) [1, 2, 3, 4, 5, 6, 7, 8, 9, 10, 11, 12, 13, 14, 15, 16] (by decide) rfl) (ci := 4) (q0 := 3) rfl rfl) rfl rfl hl.1 rfl (lv_room (Nat.le_of_ble_eq_true rfl)) dL_put_5 ⟨Nat.le_of_ble_eq_true rfl, Nat.le_of_ble_eq_true rfl⟩) hP hD hS hA rfl (wr := (((ow a cI cJ ou ho ke hc tr fo fr st co ro cA cD su jA jD)).take 1)) rfl (by decide) (by decide) rfl (by decide) rfl (fun E ce q9 H locs hE hP hD hS h1 h2 h3 => ?_) (fun r u5 H locs hw hP hD hS => ?_)
  · obtain ⟨k, hk, hE⟩ := hE
    subst hk
    dsimp only [Sum.elim] at hM
    by_cases hk1 : k = 1
    · replace hM := it_p hk1 hM
      subst hk1
      replace hE : E = xIO := hE
      subst hE
      refine catch1 (cls := xIO) (Ts := wsL_put) [] (0, 10, 13, 19) [(0, 10, 17, 13), (0, 10, 21, 28)] hown htab hts hTX (fun z hz => absurd hz List.not_mem_nil) (by decide) (by decide) (by decide +kernel) (by decide +kernel) h1 h2 h3 ?_
      refine W.eq (g2 := F0 m 13 ls [.ref q9]) rfl ?_
      refine lv_astore (lv' := [(4, .ref q9), (0, .ref (a 15)), (1, .int p2), (2, .int p3), (3, .ref (a 16))]) hx hb dL_put_13 hl (by decide) rfl (fun ls hl => ?_)
      refine lv_iconst (v := 1) hx hb dL_put_15 (by decide) ?_
      obtain rfl := Option.some.inj hM
      subst hQ hAe
      refine W.widen (k := 2) (n := 12) (by decide) (by decide) ?_
      exact W.iret (v := (1 : Int32)) hx hb hr (fun t ht hW => ⟨⟨(1 : Int32), (), rfl, rfl, ⟨by rw [ht]; exact hP, hD⟩⟩, hS.F ht⟩) hS.2.2 dL_put_16
    replace hM := it_n hk1 hM
    by_cases hk2 : k = 2
    · replace hM := it_p hk2 hM
      subst hk2
      replace hE : E = xIA := hE
      subst hE
      refine catch1 (cls := xIA) (Ts := wsL_put) [(0, 10, 13, 19)] (0, 10, 17, 13) [(0, 10, 21, 28)] hown htab hts hTX (fun z hz => by
        simp only [List.mem_cons, List.not_mem_nil, or_false] at hz
        rcases hz with rfl
        · exact ⟨by decide, xIO, by decide +kernel, hTX.2.2.2.2.1⟩) (by decide) (by decide) (by decide +kernel) (by decide +kernel) h1 h2 h3 ?_
      refine W.eq (g2 := F0 m 17 ls [.ref q9]) rfl ?_
      refine lv_astore (lv' := [(4, .ref q9), (0, .ref (a 15)), (1, .int p2), (2, .int p3), (3, .ref (a 16))]) hx hb dL_put_17 hl (by decide) rfl (fun ls hl => ?_)
      refine lv_iconst (v := 2) hx hb dL_put_19 (by decide) ?_
      obtain rfl := Option.some.inj hM
      subst hQ hAe
      refine W.widen (k := 2) (n := 12) (by decide) (by decide) ?_
      exact W.iret (v := (2 : Int32)) hx hb hr (fun t ht hW => ⟨⟨(2 : Int32), (), rfl, rfl, ⟨by rw [ht]; exact hP, hD⟩⟩, hS.F ht⟩) hS.2.2 dL_put_20
    replace hM := it_n hk2 hM
    by_cases hk3 : k = 3
    · replace hM := it_p hk3 hM
      subst hk3
      replace hE : E = xIS := hE
      subst hE
      refine catch1 (cls := xIS) (Ts := wsL_put) [(0, 10, 13, 19), (0, 10, 17, 13)] (0, 10, 21, 28) [] hown htab hts hTX (fun z hz => by
        simp only [List.mem_cons, List.not_mem_nil, or_false] at hz
        rcases hz with rfl | rfl
        · exact ⟨by decide, xIO, by decide +kernel, hTX.2.2.2.2.2.1⟩
        · exact ⟨by decide, xIA, by decide +kernel, hTX.2.2.2.2.2.2⟩) (by decide) (by decide) (by decide +kernel) (by decide +kernel) h1 h2 h3 ?_
      refine W.eq (g2 := F0 m 21 ls [.ref q9]) rfl ?_
      refine lv_astore (lv' := [(4, .ref q9), (0, .ref (a 15)), (1, .int p2), (2, .int p3), (3, .ref (a 16))]) hx hb dL_put_21 hl (by decide) rfl (fun ls hl => ?_)
      refine lv_iconst (v := 3) hx hb dL_put_23 (by decide) ?_
      obtain rfl := Option.some.inj hM
      subst hQ hAe
      refine W.widen (k := 2) (n := 12) (by decide) (by decide) ?_
      exact W.iret (v := (3 : Int32)) hx hb hr (fun t ht hW => ⟨⟨(3 : Int32), (), rfl, rfl, ⟨by rw [ht]; exact hP, hD⟩⟩, hS.F ht⟩) hS.2.2 dL_put_24
    replace hM := it_n hk3 hM
    cases hM
  obtain ⟨hxx, hw⟩ := hw
  subst hxx
  dsimp only [Sum.elim] at hM
  replace hP : va_P D vwCl (ow a cI cJ ou ho ke hc tr fo u5.1.2.1 u5.1.2.2 co ro cA cD su jA jD) H := hP
  replace hD : va_D A (ow a cI cJ ou ho ke hc tr fo u5.1.2.1 u5.1.2.2 co ro cA cD su jA jD) := hD
  rw [hw]
  refine lv_i2l (v := u5.1.1.toInt64) hx hb dL_put_8 rfl ?_
  obtain ⟨hb9, hM⟩ := it_x hM
  refine va_last (D := D) hx hb hK hP hD hS 0 1 rfl rfl hb9 dL_put_9 (fun H locs hP hD hS => ?_)
  replace hP : va_P D vwCl (ow a cI cJ (vp_updL ou (0 : Int32).toNatClampNeg (u5.1.1.toInt64)) ho ke hc tr fo u5.1.2.1 u5.1.2.2 co ro cA cD su jA jD) H := hP
  replace hD : va_D A (ow a cI cJ (vp_updL ou (0 : Int32).toNatClampNeg (u5.1.1.toInt64)) ho ke hc tr fo u5.1.2.1 u5.1.2.2 co ro cA cD su jA jD) := hD
  refine lv_goto (tgt := 25) hx hb dL_put_10 (by decide) ?_
  refine lv_iconst (v := 0) hx hb dL_put_25 (by decide) ?_
  obtain rfl := Option.some.inj hM
  subst hQ hAe
  refine W.widen (k := 2) (n := 12) (by decide) (by decide) ?_
  exact W.iret (v := (0 : Int32)) hx hb hr (fun t ht hW => ⟨⟨(0 : Int32), (), rfl, rfl, ⟨by rw [ht]; exact hP, hD⟩⟩, hS.F ht⟩) hS.2.2 dL_put_26
def mL_stone (N : Nat) (ou : RowJ) (st : RowI) (co : Int32) (ro : Int32) (p2 : Int32) : Option (Int32 × RowJ) :=
  ((mX4_stone N st co ro p2).bind fun x4 => Sum.elim (fun k => (if k = 1 then some ((1 : Int32), ou) else none)) (fun y4 =>
  (if bad (0 : Int32) 1 then none else
  some ((0 : Int32), (vp_updL ou (0 : Int32).toNatClampNeg (y4.toInt64))))) x4)
abbrev rmL_stone : Room := { frames := 8, cells := 1, slots := 6, locals := 138 }
set_option maxHeartbeats 4000000 in
set_option maxRecDepth 100000 in
theorem kL_stone {l : Launch} {D : va_G} {cI cJ : ClassId} (hlt : l.stackTraces = false) (N : Nat) (a : Nat → Nat) {ou : RowJ} {ho : RowI} {ke : RowI} {hc : Int32} {tr : Int32} {fo : Int32} {fr : Int32} {st : RowI} {co : Int32} {ro : Int32} {cA : CS} {cD : CS} {su : RowJ} {jA : JT} {jD : JT} {p2 : Int32} {o : (Int32 × RowJ)} (hM : mL_stone N ou st co ro p2 = some o) (sz : Nat) : Met l yL_stone wsL_stone rmL_stone (va_Pc [.ref (a 15), .int p2, .ref (a 16)] (PreT D cI cJ (ow a cI cJ ou ho ke hc tr fo fr st co ro cA cD su jA jD) sz)) (va_Qi (fun (r : Int32) (_ : Unit) => r = o.1) (aft D (ow a cI cJ ou ho ke hc tr fo fr st co ro cA cD su jA jD) sz (fun (_ : Unit) => (ow a cI cJ o.2 ho ke hc tr fo fr st co ro cA cD su jA jD))) (va_A (ow a cI cJ ou ho ke hc tr fo fr st co ro cA cD su jA jD) sz)) 1 6 (va_A (ow a cI cJ ou ho ke hc tr fo fr st co ro cA cD su jA jD) sz) := by
  refine xofH (cc := cL_stone) (maxL := 4) (ret := (some .int)) rfl (by decide) rfl ?_
  intro p e s m args below meth c ls Q A hQ hAe hx hb hr hml hown hts hlocks htab hTX hN hK H locs hP hD hS hA hl
  replace hown : s.vm.findClass RL = some m.cls := hown
  replace hl : lv_has ls 4 [(0, .ref (a 15)), (1, .int p2), (2, .ref (a 16))] := hl
  rw [mL_stone] at hM
  refine lv_aload_n hx hb dL_stone_0 rfl (lv_at hl 2 rfl) ?_
  refine lv_iconst (v := 0) hx hb dL_stone_1 (by decide) ?_
  refine lv_aload_n hx hb dL_stone_2 rfl (lv_at hl 0 rfl) ?_
  refine lv_iload_n hx hb dL_stone_3 rfl (lv_at hl 1 rfl) ?_
  obtain ⟨x4, hC, hM⟩ := bd_s hM
  refine cT_i [1, 2, 3, 4, 5, 6, 7, 8, 9, 10, 11, 12, 13, 14, 15, 16] [0] [0, 1, 2, 3, 4, 5, 6, 7, 8, 9, 10, 11, 12, 13, 14, 15, 16] (vx_runV (As := [.int p2]) (rest := [.int (0 : Int32), .ref (a 16)]) ⟨hx, hb, hml, hown, hts⟩ (kX4_stone (l := l) (D := D) (cI := cI) (cJ := cJ) hlt N a (ho := ho) (ke := ke) (hc := hc) (tr := tr) (fo := fo) (fr := fr) (st := st) (co := co) (ro := ro) (cA := cA) (cD := cD) (su := su) (jA := jA) (jD := jD) (p1 := p2) hC H.size) (cwV 1 hts gL_stone_X4_stone rfl rfl rfl (by decide +kernel) ⟨Nat.le_of_ble_eq_true rfl, Nat.le_of_ble_eq_true rfl⟩) (preVT [.int p2] hTX hS (va_free (wc := (xw a cI cJ ho ke hc tr fo fr st co ro cA cD su jA jD)) hD hS hA [1, 2, 3, 4, 5, 6, 7, 8, 9, 10, 11, 12, 13, 14, 15, 16] rfl) hN hK (hP.sub (ws' := (xw a cI cJ ho ke hc tr fo fr st co ro cA cD su jA jD)) [1, 2, 3, 4, 5, 6, 7, 8, 9, 10, 11, 12, 13, 14, 15, 16] rfl) (hD.sub (ws' := (xw a cI cJ ho ke hc tr fo fr st co ro cA cD su jA jD)) [1, 2, 3, 4, 5, 6, 7, 8, 9, 10, 11, 12, 13, 14, 15, 16] (by decide) rfl) (ci := 4) (q0 := 3) rfl rfl) rfl rfl hl.1 rfl (lv_room (Nat.le_of_ble_eq_true rfl)) dL_stone_4 ⟨Nat.le_of_ble_eq_true rfl, Nat.le_of_ble_eq_true rfl⟩) hP hD hS hA rfl (wr := (((ow a cI cJ ou ho ke hc tr fo fr st co ro cA cD su jA jD)).take 1)) rfl (by decide) (by decide) rfl (by decide) rfl (fun E ce q9 H locs hE hP hD hS h1 h2 h3 => ?_) (fun r u4 H locs hw hP hD hS => ?_)
  · obtain ⟨k, hk, hE⟩ := hE
    subst hk
    dsimp only [Sum.elim] at hM
    by_cases hk1 : k = 1
    · replace hM := it_p hk1 hM
      subst hk1
      replace hE : E = xIO := hE
      subst hE
      refine catch1 (cls := xIO) (Ts := wsL_stone) [] (0, 9, 12, 19) [] hown htab hts hTX (fun z hz => absurd hz List.not_mem_nil) (by decide) (by decide) (by decide +kernel) (by decide +kernel) h1 h2 h3 ?_
      refine W.eq (g2 := F0 m 12 ls [.ref q9]) rfl ?_
      refine lv_astore_n (lv' := [(3, .ref q9), (0, .ref (a 15)), (1, .int p2), (2, .ref (a 16))]) hx hb dL_stone_12 rfl hl (by decide) rfl (fun ls hl => ?_)
      refine lv_iconst (v := 1) hx hb dL_stone_13 (by decide) ?_
      obtain rfl := Option.some.inj hM
      subst hQ hAe
      refine W.widen (k := 1) (n := 6) (by decide) (by decide) ?_
      exact W.iret (v := (1 : Int32)) hx hb hr (fun t ht hW => ⟨⟨(1 : Int32), (), rfl, rfl, ⟨by rw [ht]; exact hP, hD⟩⟩, hS.F ht⟩) hS.2.2 dL_stone_14
    replace hM := it_n hk1 hM
    cases hM
  obtain ⟨hxx, hw⟩ := hw
  subst hxx
  dsimp only [Sum.elim] at hM
  replace hP : va_P D vwCl (ow a cI cJ ou ho ke hc tr fo fr st co ro cA cD su jA jD) H := hP
  replace hD : va_D A (ow a cI cJ ou ho ke hc tr fo fr st co ro cA cD su jA jD) := hD
  rw [hw]
  refine lv_i2l (v := u4.1.toInt64) hx hb dL_stone_7 rfl ?_
  obtain ⟨hb8, hM⟩ := it_x hM
  refine va_last (D := D) hx hb hK hP hD hS 0 1 rfl rfl hb8 dL_stone_8 (fun H locs hP hD hS => ?_)
  replace hP : va_P D vwCl (ow a cI cJ (vp_updL ou (0 : Int32).toNatClampNeg (u4.1.toInt64)) ho ke hc tr fo fr st co ro cA cD su jA jD) H := hP
  replace hD : va_D A (ow a cI cJ (vp_updL ou (0 : Int32).toNatClampNeg (u4.1.toInt64)) ho ke hc tr fo fr st co ro cA cD su jA jD) := hD
  refine lv_goto (tgt := 15) hx hb dL_stone_9 (by decide) ?_
  refine lv_iconst (v := 0) hx hb dL_stone_15 (by decide) ?_
  obtain rfl := Option.some.inj hM
  subst hQ hAe
  refine W.widen (k := 1) (n := 6) (by decide) (by decide) ?_
  exact W.iret (v := (0 : Int32)) hx hb hr (fun t ht hW => ⟨⟨(0 : Int32), (), rfl, rfl, ⟨by rw [ht]; exact hP, hD⟩⟩, hS.F ht⟩) hS.2.2 dL_stone_16
def mL_corridor (N : Nat) (ou : RowJ) (st : RowI) (co : Int32) (ro : Int32) (cA : CS) (cD : CS) (su : RowJ) (p2 : Int32) (p3 : Int32) (p4 : Int32) : Option (Int32 × RowJ) :=
  ((mX4_corridor N st co ro cA cD su p2 p3 p4).bind fun x7 => Sum.elim (fun k => (if k = 1 then some ((1 : Int32), ou) else none)) (fun y7 =>
  (if bad (0 : Int32) 1 then none else
  some ((0 : Int32), (vp_updL ou (0 : Int32).toNatClampNeg (y7.toInt64))))) x7)
abbrev rmL_corridor : Room := { frames := 8, cells := 2, slots := 12, locals := 140 }
set_option maxHeartbeats 4000000 in
set_option maxRecDepth 100000 in
theorem kL_corridor {l : Launch} {D : va_G} {cI cJ : ClassId} (hlt : l.stackTraces = false) (N : Nat) (a : Nat → Nat) {ou : RowJ} {ho : RowI} {ke : RowI} {hc : Int32} {tr : Int32} {fo : Int32} {fr : Int32} {st : RowI} {co : Int32} {ro : Int32} {cA : CS} {cD : CS} {su : RowJ} {jA : JT} {jD : JT} {p2 : Int32} {p3 : Int32} {p4 : Int32} {o : (Int32 × RowJ)} (hM : mL_corridor N ou st co ro cA cD su p2 p3 p4 = some o) (sz : Nat) : Met l yL_corridor wsL_corridor rmL_corridor (va_Pc [.ref (a 15), .int p2, .int p3, .int p4, .ref (a 16)] (PreT D cI cJ (ow a cI cJ ou ho ke hc tr fo fr st co ro cA cD su jA jD) sz)) (va_Qi (fun (r : Int32) (_ : JT × JT) => r = o.1) (aft D (ow a cI cJ ou ho ke hc tr fo fr st co ro cA cD su jA jD) sz (fun (u : JT × JT) => (ow a cI cJ o.2 ho ke hc tr fo fr st co ro cA cD su u.1 u.2))) (va_A (ow a cI cJ ou ho ke hc tr fo fr st co ro cA cD su jA jD) sz)) 2 12 (va_A (ow a cI cJ ou ho ke hc tr fo fr st co ro cA cD su jA jD) sz) := by
  refine xofH (cc := cL_corridor) (maxL := 6) (ret := (some .int)) rfl (by decide) rfl ?_
  intro p e s m args below meth c ls Q A hQ hAe hx hb hr hml hown hts hlocks htab hTX hN hK H locs hP hD hS hA hl
  replace hown : s.vm.findClass RL = some m.cls := hown
  replace hl : lv_has ls 6 [(0, .ref (a 15)), (1, .int p2), (2, .int p3), (3, .int p4), (4, .ref (a 16))] := hl
  rw [mL_corridor] at hM
  refine lv_aload hx hb dL_corridor_0 (lv_at hl 4 rfl) ?_
  refine lv_iconst (v := 0) hx hb dL_corridor_2 (by decide) ?_
  refine lv_aload_n hx hb dL_corridor_3 rfl (lv_at hl 0 rfl) ?_
  refine lv_iload_n hx hb dL_corridor_4 rfl (lv_at hl 1 rfl) ?_
  refine lv_iload_n hx hb dL_corridor_5 rfl (lv_at hl 2 rfl) ?_
  refine lv_iload_n hx hb dL_corridor_6 rfl (lv_at hl 3 rfl) ?_
  obtain ⟨x7, hC, hM⟩ := bd_s hM
  refine cT_i [1, 2, 3, 4, 5, 6, 7, 8, 9, 10, 11, 12, 13, 14, 15, 16] [0] [0, 1, 2, 3, 4, 5, 6, 7, 8, 9, 10, 11, 12, 13, 14, 15, 16] (vx_runV (As := [.int p2, .int p3, .int p4]) (rest := [.int (0 : Int32), .ref (a 16)]) ⟨hx, hb, hml, hown, hts⟩ (kX4_corridor (l := l) (D := D) (cI := cI) (cJ := cJ) hlt N a (ho := ho) (ke := ke) (hc := hc) (tr := tr) (fo := fo) (fr := fr) (st := st) (co := co) (ro := ro) (cA := cA) (cD := cD) (su := su) (jA := jA) (jD := jD) (p1 := p2) (p2 := p3) (p3 := p4) hC H.size) (cwV 3 hts gL_corridor_X4_corridor rfl rfl rfl (by decide +kernel) ⟨Nat.le_of_ble_eq_true rfl, Nat.le_of_ble_eq_true rfl⟩) (preVT [.int p2, .int p3, .int p4] hTX hS (va_free (wc := (xw a cI cJ ho ke hc tr fo fr st co ro cA cD su jA jD)) hD hS hA [1, 2, 3, 4, 5, 6, 7, 8, 9, 10, 11, 12, 13, 14, 15, 16] rfl) hN hK (hP.sub (ws' := (xw a cI cJ ho ke hc tr fo fr st co ro cA cD su jA jD)) [1, 2, 3, 4, 5, 6, 7, 8, 9, 10, 11, 12, 13, 14, 15, 16] rfl) (hD.sub (ws' := (xw a cI cJ ho ke hc tr fo fr st co ro cA cD su jA jD)) [1, 2, 3, 4, 5, 6, 7, 8, 9, 10, 11, 12, 13, 14, 15, 16] (by decide) rfl) (ci := 4) (q0 := 3) rfl rfl) rfl rfl hl.1 rfl (lv_room (Nat.le_of_ble_eq_true rfl)) dL_corridor_7 ⟨Nat.le_of_ble_eq_true rfl, Nat.le_of_ble_eq_true rfl⟩) hP hD hS hA rfl (wr := (((ow a cI cJ ou ho ke hc tr fo fr st co ro cA cD su jA jD)).take 1)) rfl (by decide) (by decide) rfl (by decide) rfl (fun E ce q9 H locs hE hP hD hS h1 h2 h3 => ?_) (fun r u7 H locs hw hP hD hS => ?_)
  · obtain ⟨k, hk, hE⟩ := hE
    subst hk
    dsimp only [Sum.elim] at hM
    by_cases hk1 : k = 1
    · replace hM := it_p hk1 hM
      subst hk1
      replace hE : E = xIO := hE
      subst hE
      refine catch1 (cls := xIO) (Ts := wsL_corridor) [] (0, 12, 15, 19) [] hown htab hts hTX (fun z hz => absurd hz List.not_mem_nil) (by decide) (by decide) (by decide +kernel) (by decide +kernel) h1 h2 h3 ?_
      refine W.eq (g2 := F0 m 15 ls [.ref q9]) rfl ?_
      refine lv_astore (lv' := [(5, .ref q9), (0, .ref (a 15)), (1, .int p2), (2, .int p3), (3, .int p4), (4, .ref (a 16))]) hx hb dL_corridor_15 hl (by decide) rfl (fun ls hl => ?_)
      refine lv_iconst (v := 1) hx hb dL_corridor_17 (by decide) ?_
      obtain rfl := Option.some.inj hM
      subst hQ hAe
      refine W.widen (k := 2) (n := 12) (by decide) (by decide) ?_
      exact W.iret (v := (1 : Int32)) hx hb hr (fun t ht hW => ⟨⟨(1 : Int32), (jA, jD), rfl, rfl, ⟨by rw [ht]; exact hP, hD⟩⟩, hS.F ht⟩) hS.2.2 dL_corridor_18
    replace hM := it_n hk1 hM
    cases hM
  obtain ⟨hxx, hw⟩ := hw
  subst hxx
  dsimp only [Sum.elim] at hM
  replace hP : va_P D vwCl (ow a cI cJ ou ho ke hc tr fo fr st co ro cA cD su u7.2.1 u7.2.2) H := hP
  replace hD : va_D A (ow a cI cJ ou ho ke hc tr fo fr st co ro cA cD su u7.2.1 u7.2.2) := hD
  rw [hw]
  refine lv_i2l (v := u7.1.toInt64) hx hb dL_corridor_10 rfl ?_
  obtain ⟨hb11, hM⟩ := it_x hM
  refine va_last (D := D) hx hb hK hP hD hS 0 1 rfl rfl hb11 dL_corridor_11 (fun H locs hP hD hS => ?_)
  replace hP : va_P D vwCl (ow a cI cJ (vp_updL ou (0 : Int32).toNatClampNeg (u7.1.toInt64)) ho ke hc tr fo fr st co ro cA cD su u7.2.1 u7.2.2) H := hP
  replace hD : va_D A (ow a cI cJ (vp_updL ou (0 : Int32).toNatClampNeg (u7.1.toInt64)) ho ke hc tr fo fr st co ro cA cD su u7.2.1 u7.2.2) := hD
  refine lv_goto (tgt := 19) hx hb dL_corridor_12 (by decide) ?_
  refine lv_iconst (v := 0) hx hb dL_corridor_19 (by decide) ?_
  obtain rfl := Option.some.inj hM
  subst hQ hAe
  refine W.widen (k := 2) (n := 12) (by decide) (by decide) ?_
  exact W.iret (v := (0 : Int32)) hx hb hr (fun t ht hW => ⟨⟨(0 : Int32), (u7.2.1, u7.2.2), rfl, rfl, ⟨by rw [ht]; exact hP, hD⟩⟩, hS.F ht⟩) hS.2.2 dL_corridor_20
def mL_can (N : Nat) (ou : RowJ) (st : RowI) (co : Int32) (ro : Int32) (cA : CS) (cD : CS) (su : RowJ) (p2 : Int32) : Option (Int32 × RowJ) :=
  ((mX4_can N st co ro cA cD su p2).bind fun x4 => Sum.elim (fun k => (if k = 1 then some ((1 : Int32), ou) else none)) (fun y4 =>
  (if bad (0 : Int32) 1 then none else
  some ((0 : Int32), (vp_updL ou (0 : Int32).toNatClampNeg (y4.toInt64))))) x4)
abbrev rmL_can : Room := { frames := 8, cells := 1, slots := 6, locals := 138 }
set_option maxHeartbeats 4000000 in
set_option maxRecDepth 100000 in
theorem kL_can {l : Launch} {D : va_G} {cI cJ : ClassId} (hlt : l.stackTraces = false) (N : Nat) (a : Nat → Nat) {ou : RowJ} {ho : RowI} {ke : RowI} {hc : Int32} {tr : Int32} {fo : Int32} {fr : Int32} {st : RowI} {co : Int32} {ro : Int32} {cA : CS} {cD : CS} {su : RowJ} {jA : JT} {jD : JT} {p2 : Int32} {o : (Int32 × RowJ)} (hM : mL_can N ou st co ro cA cD su p2 = some o) (sz : Nat) : Met l yL_can wsL_can rmL_can (va_Pc [.ref (a 15), .int p2, .ref (a 16)] (PreT D cI cJ (ow a cI cJ ou ho ke hc tr fo fr st co ro cA cD su jA jD) sz)) (va_Qi (fun (r : Int32) (_ : JT × JT) => r = o.1) (aft D (ow a cI cJ ou ho ke hc tr fo fr st co ro cA cD su jA jD) sz (fun (u : JT × JT) => (ow a cI cJ o.2 ho ke hc tr fo fr st co ro cA cD su u.1 u.2))) (va_A (ow a cI cJ ou ho ke hc tr fo fr st co ro cA cD su jA jD) sz)) 1 6 (va_A (ow a cI cJ ou ho ke hc tr fo fr st co ro cA cD su jA jD) sz) := by
  refine xofH (cc := cL_can) (maxL := 4) (ret := (some .int)) rfl (by decide) rfl ?_
  intro p e s m args below meth c ls Q A hQ hAe hx hb hr hml hown hts hlocks htab hTX hN hK H locs hP hD hS hA hl
  replace hown : s.vm.findClass RL = some m.cls := hown
  replace hl : lv_has ls 4 [(0, .ref (a 15)), (1, .int p2), (2, .ref (a 16))] := hl
  rw [mL_can] at hM
  refine lv_aload_n hx hb dL_can_0 rfl (lv_at hl 2 rfl) ?_
  refine lv_iconst (v := 0) hx hb dL_can_1 (by decide) ?_
  refine lv_aload_n hx hb dL_can_2 rfl (lv_at hl 0 rfl) ?_
  refine lv_iload_n hx hb dL_can_3 rfl (lv_at hl 1 rfl) ?_
  obtain ⟨x4, hC, hM⟩ := bd_s hM
  refine cT_i [1, 2, 3, 4, 5, 6, 7, 8, 9, 10, 11, 12, 13, 14, 15, 16] [0] [0, 1, 2, 3, 4, 5, 6, 7, 8, 9, 10, 11, 12, 13, 14, 15, 16] (vx_runV (As := [.int p2]) (rest := [.int (0 : Int32), .ref (a 16)]) ⟨hx, hb, hml, hown, hts⟩ (kX4_can (l := l) (D := D) (cI := cI) (cJ := cJ) hlt N a (ho := ho) (ke := ke) (hc := hc) (tr := tr) (fo := fo) (fr := fr) (st := st) (co := co) (ro := ro) (cA := cA) (cD := cD) (su := su) (jA := jA) (jD := jD) (p1 := p2) hC H.size) (cwV 1 hts gL_can_X4_can rfl rfl rfl (by decide +kernel) ⟨Nat.le_of_ble_eq_true rfl, Nat.le_of_ble_eq_true rfl⟩) (preVT [.int p2] hTX hS (va_free (wc := (xw a cI cJ ho ke hc tr fo fr st co ro cA cD su jA jD)) hD hS hA [1, 2, 3, 4, 5, 6, 7, 8, 9, 10, 11, 12, 13, 14, 15, 16] rfl) hN hK (hP.sub (ws' := (xw a cI cJ ho ke hc tr fo fr st co ro cA cD su jA jD)) [1, 2, 3, 4, 5, 6, 7, 8, 9, 10, 11, 12, 13, 14, 15, 16] rfl) (hD.sub (ws' := (xw a cI cJ ho ke hc tr fo fr st co ro cA cD su jA jD)) [1, 2, 3, 4, 5, 6, 7, 8, 9, 10, 11, 12, 13, 14, 15, 16] (by decide) rfl) (ci := 4) (q0 := 3) rfl rfl) rfl rfl hl.1 rfl (lv_room (Nat.le_of_ble_eq_true rfl)) dL_can_4 ⟨Nat.le_of_ble_eq_true rfl, Nat.le_of_ble_eq_true rfl⟩) hP hD hS hA rfl (wr := (((ow a cI cJ ou ho ke hc tr fo fr st co ro cA cD su jA jD)).take 1)) rfl (by decide) (by decide) rfl (by decide) rfl (fun E ce q9 H locs hE hP hD hS h1 h2 h3 => ?_) (fun r u4 H locs hw hP hD hS => ?_)
  · obtain ⟨k, hk, hE⟩ := hE
    subst hk
    dsimp only [Sum.elim] at hM
    by_cases hk1 : k = 1
    · replace hM := it_p hk1 hM
      subst hk1
      replace hE : E = xIO := hE
      subst hE
      refine catch1 (cls := xIO) (Ts := wsL_can) [] (0, 9, 12, 19) [] hown htab hts hTX (fun z hz => absurd hz List.not_mem_nil) (by decide) (by decide) (by decide +kernel) (by decide +kernel) h1 h2 h3 ?_
      refine W.eq (g2 := F0 m 12 ls [.ref q9]) rfl ?_
      refine lv_astore_n (lv' := [(3, .ref q9), (0, .ref (a 15)), (1, .int p2), (2, .ref (a 16))]) hx hb dL_can_12 rfl hl (by decide) rfl (fun ls hl => ?_)
      refine lv_iconst (v := 1) hx hb dL_can_13 (by decide) ?_
      obtain rfl := Option.some.inj hM
      subst hQ hAe
      refine W.widen (k := 1) (n := 6) (by decide) (by decide) ?_
      exact W.iret (v := (1 : Int32)) hx hb hr (fun t ht hW => ⟨⟨(1 : Int32), (jA, jD), rfl, rfl, ⟨by rw [ht]; exact hP, hD⟩⟩, hS.F ht⟩) hS.2.2 dL_can_14
    replace hM := it_n hk1 hM
    cases hM
  obtain ⟨hxx, hw⟩ := hw
  subst hxx
  dsimp only [Sum.elim] at hM
  replace hP : va_P D vwCl (ow a cI cJ ou ho ke hc tr fo fr st co ro cA cD su u4.2.1 u4.2.2) H := hP
  replace hD : va_D A (ow a cI cJ ou ho ke hc tr fo fr st co ro cA cD su u4.2.1 u4.2.2) := hD
  rw [hw]
  refine lv_i2l (v := u4.1.toInt64) hx hb dL_can_7 rfl ?_
  obtain ⟨hb8, hM⟩ := it_x hM
  refine va_last (D := D) hx hb hK hP hD hS 0 1 rfl rfl hb8 dL_can_8 (fun H locs hP hD hS => ?_)
  replace hP : va_P D vwCl (ow a cI cJ (vp_updL ou (0 : Int32).toNatClampNeg (u4.1.toInt64)) ho ke hc tr fo fr st co ro cA cD su u4.2.1 u4.2.2) H := hP
  replace hD : va_D A (ow a cI cJ (vp_updL ou (0 : Int32).toNatClampNeg (u4.1.toInt64)) ho ke hc tr fo fr st co ro cA cD su u4.2.1 u4.2.2) := hD
  refine lv_goto (tgt := 15) hx hb dL_can_9 (by decide) ?_
  refine lv_iconst (v := 0) hx hb dL_can_15 (by decide) ?_
  obtain rfl := Option.some.inj hM
  subst hQ hAe
  refine W.widen (k := 1) (n := 6) (by decide) (by decide) ?_
  exact W.iret (v := (0 : Int32)) hx hb hr (fun t ht hW => ⟨⟨(0 : Int32), (u4.2.1, u4.2.2), rfl, rfl, ⟨by rw [ht]; exact hP, hD⟩⟩, hS.F ht⟩) hS.2.2 dL_can_16
def mL_count (N : Nat) (ou : RowJ) (st : RowI) (co : Int32) (ro : Int32) (cA : CS) (cD : CS) (su : RowJ) (p2 : Int32) : Option (Int32 × RowJ) :=
  ((mX4_count N st co ro cA cD su p2).bind fun x4 => Sum.elim (fun k => (if k = 1 then some ((1 : Int32), ou) else none)) (fun y4 =>
  (if bad (0 : Int32) 1 then none else
  some ((0 : Int32), (vp_updL ou (0 : Int32).toNatClampNeg (y4.toInt64))))) x4)
abbrev rmL_count : Room := { frames := 7, cells := 1, slots := 6, locals := 160 }
set_option maxHeartbeats 4000000 in
set_option maxRecDepth 100000 in
theorem kL_count {l : Launch} {D : va_G} {cI cJ : ClassId} (hlt : l.stackTraces = false) (N : Nat) (a : Nat → Nat) {ou : RowJ} {ho : RowI} {ke : RowI} {hc : Int32} {tr : Int32} {fo : Int32} {fr : Int32} {st : RowI} {co : Int32} {ro : Int32} {cA : CS} {cD : CS} {su : RowJ} {jA : JT} {jD : JT} {p2 : Int32} {o : (Int32 × RowJ)} (hM : mL_count N ou st co ro cA cD su p2 = some o) (sz : Nat) : Met l yL_count wsL_count rmL_count (va_Pc [.ref (a 15), .int p2, .ref (a 16)] (PreT D cI cJ (ow a cI cJ ou ho ke hc tr fo fr st co ro cA cD su jA jD) sz)) (va_Qi (fun (r : Int32) (_ : JT × JT) => r = o.1) (aft D (ow a cI cJ ou ho ke hc tr fo fr st co ro cA cD su jA jD) sz (fun (u : JT × JT) => (ow a cI cJ o.2 ho ke hc tr fo fr st co ro cA cD su u.1 u.2))) (va_A (ow a cI cJ ou ho ke hc tr fo fr st co ro cA cD su jA jD) sz)) 1 6 (va_A (ow a cI cJ ou ho ke hc tr fo fr st co ro cA cD su jA jD) sz) := by
  refine xofH (cc := cL_count) (maxL := 4) (ret := (some .int)) rfl (by decide) rfl ?_
  intro p e s m args below meth c ls Q A hQ hAe hx hb hr hml hown hts hlocks htab hTX hN hK H locs hP hD hS hA hl
  replace hown : s.vm.findClass RL = some m.cls := hown
  replace hl : lv_has ls 4 [(0, .ref (a 15)), (1, .int p2), (2, .ref (a 16))] := hl
  rw [mL_count] at hM
  refine lv_aload_n hx hb dL_count_0 rfl (lv_at hl 2 rfl) ?_
  refine lv_iconst (v := 0) hx hb dL_count_1 (by decide) ?_
  refine lv_aload_n hx hb dL_count_2 rfl (lv_at hl 0 rfl) ?_
  refine lv_iload_n hx hb dL_count_3 rfl (lv_at hl 1 rfl) ?_
  obtain ⟨x4, hC, hM⟩ := bd_s hM
  refine cT_i [1, 2, 3, 4, 5, 6, 7, 8, 9, 10, 11, 12, 13, 14, 15, 16] [0] [0, 1, 2, 3, 4, 5, 6, 7, 8, 9, 10, 11, 12, 13, 14, 15, 16] (vx_runV (As := [.int p2]) (rest := [.int (0 : Int32), .ref (a 16)]) ⟨hx, hb, hml, hown, hts⟩ (kX4_count (l := l) (D := D) (cI := cI) (cJ := cJ) hlt N a (ho := ho) (ke := ke) (hc := hc) (tr := tr) (fo := fo) (fr := fr) (st := st) (co := co) (ro := ro) (cA := cA) (cD := cD) (su := su) (jA := jA) (jD := jD) (p1 := p2) hC H.size) (cwV 1 hts gL_count_X4_count rfl rfl rfl (by decide +kernel) ⟨Nat.le_of_ble_eq_true rfl, Nat.le_of_ble_eq_true rfl⟩) (preVT [.int p2] hTX hS (va_free (wc := (xw a cI cJ ho ke hc tr fo fr st co ro cA cD su jA jD)) hD hS hA [1, 2, 3, 4, 5, 6, 7, 8, 9, 10, 11, 12, 13, 14, 15, 16] rfl) hN hK (hP.sub (ws' := (xw a cI cJ ho ke hc tr fo fr st co ro cA cD su jA jD)) [1, 2, 3, 4, 5, 6, 7, 8, 9, 10, 11, 12, 13, 14, 15, 16] rfl) (hD.sub (ws' := (xw a cI cJ ho ke hc tr fo fr st co ro cA cD su jA jD)) [1, 2, 3, 4, 5, 6, 7, 8, 9, 10, 11, 12, 13, 14, 15, 16] (by decide) rfl) (ci := 4) (q0 := 3) rfl rfl) rfl rfl hl.1 rfl (lv_room (Nat.le_of_ble_eq_true rfl)) dL_count_4 ⟨Nat.le_of_ble_eq_true rfl, Nat.le_of_ble_eq_true rfl⟩) hP hD hS hA rfl (wr := (((ow a cI cJ ou ho ke hc tr fo fr st co ro cA cD su jA jD)).take 1)) rfl (by decide) (by decide) rfl (by decide) rfl (fun E ce q9 H locs hE hP hD hS h1 h2 h3 => ?_) (fun r u4 H locs hw hP hD hS => ?_)
  · obtain ⟨k, hk, hE⟩ := hE
    subst hk
    dsimp only [Sum.elim] at hM
    by_cases hk1 : k = 1
    · replace hM := it_p hk1 hM
      subst hk1
      replace hE : E = xIO := hE
      subst hE
      refine catch1 (cls := xIO) (Ts := wsL_count) [] (0, 9, 12, 19) [] hown htab hts hTX (fun z hz => absurd hz List.not_mem_nil) (by decide) (by decide) (by decide +kernel) (by decide +kernel) h1 h2 h3 ?_
      refine W.eq (g2 := F0 m 12 ls [.ref q9]) rfl ?_
      refine lv_astore_n (lv' := [(3, .ref q9), (0, .ref (a 15)), (1, .int p2), (2, .ref (a 16))]) hx hb dL_count_12 rfl hl (by decide) rfl (fun ls hl => ?_)
      refine lv_iconst (v := 1) hx hb dL_count_13 (by decide) ?_
      obtain rfl := Option.some.inj hM
      subst hQ hAe
      refine W.widen (k := 1) (n := 6) (by decide) (by decide) ?_
      exact W.iret (v := (1 : Int32)) hx hb hr (fun t ht hW => ⟨⟨(1 : Int32), (jA, jD), rfl, rfl, ⟨by rw [ht]; exact hP, hD⟩⟩, hS.F ht⟩) hS.2.2 dL_count_14
    replace hM := it_n hk1 hM
    cases hM
  obtain ⟨hxx, hw⟩ := hw
  subst hxx
  dsimp only [Sum.elim] at hM
  replace hP : va_P D vwCl (ow a cI cJ ou ho ke hc tr fo fr st co ro cA cD su u4.2.1 u4.2.2) H := hP
  replace hD : va_D A (ow a cI cJ ou ho ke hc tr fo fr st co ro cA cD su u4.2.1 u4.2.2) := hD
  rw [hw]
  refine lv_i2l (v := u4.1.toInt64) hx hb dL_count_7 rfl ?_
  obtain ⟨hb8, hM⟩ := it_x hM
  refine va_last (D := D) hx hb hK hP hD hS 0 1 rfl rfl hb8 dL_count_8 (fun H locs hP hD hS => ?_)
  replace hP : va_P D vwCl (ow a cI cJ (vp_updL ou (0 : Int32).toNatClampNeg (u4.1.toInt64)) ho ke hc tr fo fr st co ro cA cD su u4.2.1 u4.2.2) H := hP
  replace hD : va_D A (ow a cI cJ (vp_updL ou (0 : Int32).toNatClampNeg (u4.1.toInt64)) ho ke hc tr fo fr st co ro cA cD su u4.2.1 u4.2.2) := hD
  refine lv_goto (tgt := 15) hx hb dL_count_9 (by decide) ?_
  refine lv_iconst (v := 0) hx hb dL_count_15 (by decide) ?_
  obtain rfl := Option.some.inj hM
  subst hQ hAe
  refine W.widen (k := 1) (n := 6) (by decide) (by decide) ?_
  exact W.iret (v := (0 : Int32)) hx hb hr (fun t ht hW => ⟨⟨(0 : Int32), (u4.2.1, u4.2.2), rfl, rfl, ⟨by rw [ht]; exact hP, hD⟩⟩, hS.F ht⟩) hS.2.2 dL_count_16
def mL_ways (N : Nat) (ou : RowJ) (p2 : Int32) (p3 : Int32) : Option (Int32 × RowJ) :=
  ((mX4_ways N p2 p3).bind fun x5 => Sum.elim (fun k => (if k = 2 then some ((1 : Int32), ou) else none)) (fun y5 =>
  (if bad (0 : Int32) 1 then none else
  some ((0 : Int32), (vp_updL ou (0 : Int32).toNatClampNeg (y5.toInt64))))) x5)
abbrev rmL_ways : Room := { frames := 8, cells := 1, slots := 6, locals := 141 }
set_option maxHeartbeats 4000000 in
set_option maxRecDepth 100000 in
theorem kL_ways {l : Launch} {D : va_G} {cI cJ : ClassId} (hlt : l.stackTraces = false) (N : Nat) (a : Nat → Nat) {ou : RowJ} {ho : RowI} {ke : RowI} {hc : Int32} {tr : Int32} {fo : Int32} {fr : Int32} {st : RowI} {co : Int32} {ro : Int32} {cA : CS} {cD : CS} {su : RowJ} {jA : JT} {jD : JT} {p2 : Int32} {p3 : Int32} {o : (Int32 × RowJ)} (hM : mL_ways N ou p2 p3 = some o) (sz : Nat) : Met l yL_ways wsL_ways rmL_ways (va_Pc [.ref (a 15), .int p2, .int p3, .ref (a 16)] (PreT D cI cJ (ow a cI cJ ou ho ke hc tr fo fr st co ro cA cD su jA jD) sz)) (va_Qi (fun (r : Int32) (_ : Unit) => r = o.1) (aft D (ow a cI cJ ou ho ke hc tr fo fr st co ro cA cD su jA jD) sz (fun (_ : Unit) => (ow a cI cJ o.2 ho ke hc tr fo fr st co ro cA cD su jA jD))) (va_A (ow a cI cJ ou ho ke hc tr fo fr st co ro cA cD su jA jD) sz)) 1 6 (va_A (ow a cI cJ ou ho ke hc tr fo fr st co ro cA cD su jA jD) sz) := by
  refine xofH (cc := cL_ways) (maxL := 5) (ret := (some .int)) rfl (by decide) rfl ?_
  intro p e s m args below meth c ls Q A hQ hAe hx hb hr hml hown hts hlocks htab hTX hN hK H locs hP hD hS hA hl
  replace hown : s.vm.findClass RL = some m.cls := hown
  replace hl : lv_has ls 5 [(0, .ref (a 15)), (1, .int p2), (2, .int p3), (3, .ref (a 16))] := hl
  rw [mL_ways] at hM
  refine lv_aload_n hx hb dL_ways_0 rfl (lv_at hl 3 rfl) ?_
  refine lv_iconst (v := 0) hx hb dL_ways_1 (by decide) ?_
  refine lv_aload_n hx hb dL_ways_2 rfl (lv_at hl 0 rfl) ?_
  refine lv_iload_n hx hb dL_ways_3 rfl (lv_at hl 1 rfl) ?_
  refine lv_iload_n hx hb dL_ways_4 rfl (lv_at hl 2 rfl) ?_
  obtain ⟨x5, hC, hM⟩ := bd_s hM
  refine cT_i [1, 2, 3, 4, 5, 6, 7, 8, 9, 10, 11, 12, 13, 14, 15, 16] [0] [0, 1, 2, 3, 4, 5, 6, 7, 8, 9, 10, 11, 12, 13, 14, 15, 16] (vx_runV (As := [.int p2, .int p3]) (rest := [.int (0 : Int32), .ref (a 16)]) ⟨hx, hb, hml, hown, hts⟩ (kX4_ways (l := l) (D := D) (cI := cI) (cJ := cJ) hlt N a (ho := ho) (ke := ke) (hc := hc) (tr := tr) (fo := fo) (fr := fr) (st := st) (co := co) (ro := ro) (cA := cA) (cD := cD) (su := su) (jA := jA) (jD := jD) (p1 := p2) (p2 := p3) hC H.size) (cwV 2 hts gL_ways_X4_ways rfl rfl rfl (by decide +kernel) ⟨Nat.le_of_ble_eq_true rfl, Nat.le_of_ble_eq_true rfl⟩) (preVT [.int p2, .int p3] hTX hS (va_free (wc := (xw a cI cJ ho ke hc tr fo fr st co ro cA cD su jA jD)) hD hS hA [1, 2, 3, 4, 5, 6, 7, 8, 9, 10, 11, 12, 13, 14, 15, 16] rfl) hN hK (hP.sub (ws' := (xw a cI cJ ho ke hc tr fo fr st co ro cA cD su jA jD)) [1, 2, 3, 4, 5, 6, 7, 8, 9, 10, 11, 12, 13, 14, 15, 16] rfl) (hD.sub (ws' := (xw a cI cJ ho ke hc tr fo fr st co ro cA cD su jA jD)) [1, 2, 3, 4, 5, 6, 7, 8, 9, 10, 11, 12, 13, 14, 15, 16] (by decide) rfl) (ci := 4) (q0 := 3) rfl rfl) rfl rfl hl.1 rfl (lv_room (Nat.le_of_ble_eq_true rfl)) dL_ways_5 ⟨Nat.le_of_ble_eq_true rfl, Nat.le_of_ble_eq_true rfl⟩) hP hD hS hA rfl (wr := (((ow a cI cJ ou ho ke hc tr fo fr st co ro cA cD su jA jD)).take 1)) rfl (by decide) (by decide) rfl (by decide) rfl (fun E ce q9 H locs hE hP hD hS h1 h2 h3 => ?_) (fun r u5 H locs hw hP hD hS => ?_)
  · obtain ⟨k, hk, hE⟩ := hE
    subst hk
    dsimp only [Sum.elim] at hM
    by_cases hk2 : k = 2
    · replace hM := it_p hk2 hM
      subst hk2
      replace hE : E = xIA := hE
      subst hE
      refine catch1 (cls := xIA) (Ts := wsL_ways) [] (0, 10, 13, 13) [] hown htab hts hTX (fun z hz => absurd hz List.not_mem_nil) (by decide) (by decide) (by decide +kernel) (by decide +kernel) h1 h2 h3 ?_
      refine W.eq (g2 := F0 m 13 ls [.ref q9]) rfl ?_
      refine lv_astore (lv' := [(4, .ref q9), (0, .ref (a 15)), (1, .int p2), (2, .int p3), (3, .ref (a 16))]) hx hb dL_ways_13 hl (by decide) rfl (fun ls hl => ?_)
      refine lv_iconst (v := 1) hx hb dL_ways_15 (by decide) ?_
      obtain rfl := Option.some.inj hM
      subst hQ hAe
      refine W.widen (k := 1) (n := 6) (by decide) (by decide) ?_
      exact W.iret (v := (1 : Int32)) hx hb hr (fun t ht hW => ⟨⟨(1 : Int32), (), rfl, rfl, ⟨by rw [ht]; exact hP, hD⟩⟩, hS.F ht⟩) hS.2.2 dL_ways_16
    replace hM := it_n hk2 hM
    cases hM
  obtain ⟨hxx, hw⟩ := hw
  subst hxx
  dsimp only [Sum.elim] at hM
  replace hP : va_P D vwCl (ow a cI cJ ou ho ke hc tr fo fr st co ro cA cD su jA jD) H := hP
  replace hD : va_D A (ow a cI cJ ou ho ke hc tr fo fr st co ro cA cD su jA jD) := hD
  rw [hw]
  refine lv_i2l (v := u5.1.toInt64) hx hb dL_ways_8 rfl ?_
  obtain ⟨hb9, hM⟩ := it_x hM
  refine va_last (D := D) hx hb hK hP hD hS 0 1 rfl rfl hb9 dL_ways_9 (fun H locs hP hD hS => ?_)
  replace hP : va_P D vwCl (ow a cI cJ (vp_updL ou (0 : Int32).toNatClampNeg (u5.1.toInt64)) ho ke hc tr fo fr st co ro cA cD su jA jD) H := hP
  replace hD : va_D A (ow a cI cJ (vp_updL ou (0 : Int32).toNatClampNeg (u5.1.toInt64)) ho ke hc tr fo fr st co ro cA cD su jA jD) := hD
  refine lv_goto (tgt := 17) hx hb dL_ways_10 (by decide) ?_
  refine lv_iconst (v := 0) hx hb dL_ways_17 (by decide) ?_
  obtain rfl := Option.some.inj hM
  subst hQ hAe
  refine W.widen (k := 1) (n := 6) (by decide) (by decide) ?_
  exact W.iret (v := (0 : Int32)) hx hb hr (fun t ht hW => ⟨⟨(0 : Int32), (), rfl, rfl, ⟨by rw [ht]; exact hP, hD⟩⟩, hS.F ht⟩) hS.2.2 dL_ways_18
def mL_forced (N : Nat) (ou : RowJ) (p2 : Int32) (p3 : Int32) : Option (Int32 × RowJ) :=
  ((mX4_forced N p2 p3).bind fun x5 => Sum.elim (fun k => (if k = 2 then some ((1 : Int32), ou) else none)) (fun y5 =>
  (if bad (0 : Int32) 1 then none else
  some ((0 : Int32), (vp_updL ou (0 : Int32).toNatClampNeg (y5.toInt64))))) x5)
abbrev rmL_forced : Room := { frames := 8, cells := 1, slots := 6, locals := 142 }
set_option maxHeartbeats 4000000 in
set_option maxRecDepth 100000 in
theorem kL_forced {l : Launch} {D : va_G} {cI cJ : ClassId} (hlt : l.stackTraces = false) (N : Nat) (a : Nat → Nat) {ou : RowJ} {ho : RowI} {ke : RowI} {hc : Int32} {tr : Int32} {fo : Int32} {fr : Int32} {st : RowI} {co : Int32} {ro : Int32} {cA : CS} {cD : CS} {su : RowJ} {jA : JT} {jD : JT} {p2 : Int32} {p3 : Int32} {o : (Int32 × RowJ)} (hM : mL_forced N ou p2 p3 = some o) (sz : Nat) : Met l yL_forced wsL_forced rmL_forced (va_Pc [.ref (a 15), .int p2, .int p3, .ref (a 16)] (PreT D cI cJ (ow a cI cJ ou ho ke hc tr fo fr st co ro cA cD su jA jD) sz)) (va_Qi (fun (r : Int32) (_ : Unit) => r = o.1) (aft D (ow a cI cJ ou ho ke hc tr fo fr st co ro cA cD su jA jD) sz (fun (_ : Unit) => (ow a cI cJ o.2 ho ke hc tr fo fr st co ro cA cD su jA jD))) (va_A (ow a cI cJ ou ho ke hc tr fo fr st co ro cA cD su jA jD) sz)) 1 6 (va_A (ow a cI cJ ou ho ke hc tr fo fr st co ro cA cD su jA jD) sz) := by
  refine xofH (cc := cL_forced) (maxL := 5) (ret := (some .int)) rfl (by decide) rfl ?_
  intro p e s m args below meth c ls Q A hQ hAe hx hb hr hml hown hts hlocks htab hTX hN hK H locs hP hD hS hA hl
  replace hown : s.vm.findClass RL = some m.cls := hown
  replace hl : lv_has ls 5 [(0, .ref (a 15)), (1, .int p2), (2, .int p3), (3, .ref (a 16))] := hl
  rw [mL_forced] at hM
  refine lv_aload_n hx hb dL_forced_0 rfl (lv_at hl 3 rfl) ?_
  refine lv_iconst (v := 0) hx hb dL_forced_1 (by decide) ?_
  refine lv_aload_n hx hb dL_forced_2 rfl (lv_at hl 0 rfl) ?_
  refine lv_iload_n hx hb dL_forced_3 rfl (lv_at hl 1 rfl) ?_
  refine lv_iload_n hx hb dL_forced_4 rfl (lv_at hl 2 rfl) ?_
  obtain ⟨x5, hC, hM⟩ := bd_s hM
  refine cT_i [1, 2, 3, 4, 5, 6, 7, 8, 9, 10, 11, 12, 13, 14, 15, 16] [0] [0, 1, 2, 3, 4, 5, 6, 7, 8, 9, 10, 11, 12, 13, 14, 15, 16] (vx_runV (As := [.int p2, .int p3]) (rest := [.int (0 : Int32), .ref (a 16)]) ⟨hx, hb, hml, hown, hts⟩ (kX4_forced (l := l) (D := D) (cI := cI) (cJ := cJ) hlt N a (ho := ho) (ke := ke) (hc := hc) (tr := tr) (fo := fo) (fr := fr) (st := st) (co := co) (ro := ro) (cA := cA) (cD := cD) (su := su) (jA := jA) (jD := jD) (p1 := p2) (p2 := p3) hC H.size) (cwV 2 hts gL_forced_X4_forced rfl rfl rfl (by decide +kernel) ⟨Nat.le_of_ble_eq_true rfl, Nat.le_of_ble_eq_true rfl⟩) (preVT [.int p2, .int p3] hTX hS (va_free (wc := (xw a cI cJ ho ke hc tr fo fr st co ro cA cD su jA jD)) hD hS hA [1, 2, 3, 4, 5, 6, 7, 8, 9, 10, 11, 12, 13, 14, 15, 16] rfl) hN hK (hP.sub (ws' := (xw a cI cJ ho ke hc tr fo fr st co ro cA cD su jA jD)) [1, 2, 3, 4, 5, 6, 7, 8, 9, 10, 11, 12, 13, 14, 15, 16] rfl) (hD.sub (ws' := (xw a cI cJ ho ke hc tr fo fr st co ro cA cD su jA jD)) [1, 2, 3, 4, 5, 6, 7, 8, 9, 10, 11, 12, 13, 14, 15, 16] (by decide) rfl) (ci := 4) (q0 := 3) rfl rfl) rfl rfl hl.1 rfl (lv_room (Nat.le_of_ble_eq_true rfl)) dL_forced_5 ⟨Nat.le_of_ble_eq_true rfl, Nat.le_of_ble_eq_true rfl⟩) hP hD hS hA rfl (wr := (((ow a cI cJ ou ho ke hc tr fo fr st co ro cA cD su jA jD)).take 1)) rfl (by decide) (by decide) rfl (by decide) rfl (fun E ce q9 H locs hE hP hD hS h1 h2 h3 => ?_) (fun r u5 H locs hw hP hD hS => ?_)
  · obtain ⟨k, hk, hE⟩ := hE
    subst hk
    dsimp only [Sum.elim] at hM
    by_cases hk2 : k = 2
    · replace hM := it_p hk2 hM
      subst hk2
      replace hE : E = xIA := hE
      subst hE
      refine catch1 (cls := xIA) (Ts := wsL_forced) [] (0, 10, 13, 13) [] hown htab hts hTX (fun z hz => absurd hz List.not_mem_nil) (by decide) (by decide) (by decide +kernel) (by decide +kernel) h1 h2 h3 ?_
      refine W.eq (g2 := F0 m 13 ls [.ref q9]) rfl ?_
      refine lv_astore (lv' := [(4, .ref q9), (0, .ref (a 15)), (1, .int p2), (2, .int p3), (3, .ref (a 16))]) hx hb dL_forced_13 hl (by decide) rfl (fun ls hl => ?_)
      refine lv_iconst (v := 1) hx hb dL_forced_15 (by decide) ?_
      obtain rfl := Option.some.inj hM
      subst hQ hAe
      refine W.widen (k := 1) (n := 6) (by decide) (by decide) ?_
      exact W.iret (v := (1 : Int32)) hx hb hr (fun t ht hW => ⟨⟨(1 : Int32), (), rfl, rfl, ⟨by rw [ht]; exact hP, hD⟩⟩, hS.F ht⟩) hS.2.2 dL_forced_16
    replace hM := it_n hk2 hM
    cases hM
  obtain ⟨hxx, hw⟩ := hw
  subst hxx
  dsimp only [Sum.elim] at hM
  replace hP : va_P D vwCl (ow a cI cJ ou ho ke hc tr fo fr st co ro cA cD su jA jD) H := hP
  replace hD : va_D A (ow a cI cJ ou ho ke hc tr fo fr st co ro cA cD su jA jD) := hD
  rw [hw]
  refine lv_i2l (v := u5.1.toInt64) hx hb dL_forced_8 rfl ?_
  obtain ⟨hb9, hM⟩ := it_x hM
  refine va_last (D := D) hx hb hK hP hD hS 0 1 rfl rfl hb9 dL_forced_9 (fun H locs hP hD hS => ?_)
  replace hP : va_P D vwCl (ow a cI cJ (vp_updL ou (0 : Int32).toNatClampNeg (u5.1.toInt64)) ho ke hc tr fo fr st co ro cA cD su jA jD) H := hP
  replace hD : va_D A (ow a cI cJ (vp_updL ou (0 : Int32).toNatClampNeg (u5.1.toInt64)) ho ke hc tr fo fr st co ro cA cD su jA jD) := hD
  refine lv_goto (tgt := 17) hx hb dL_forced_10 (by decide) ?_
  refine lv_iconst (v := 0) hx hb dL_forced_17 (by decide) ?_
  obtain rfl := Option.some.inj hM
  subst hQ hAe
  refine W.widen (k := 1) (n := 6) (by decide) (by decide) ?_
  exact W.iret (v := (0 : Int32)) hx hb hr (fun t ht hW => ⟨⟨(0 : Int32), (), rfl, rfl, ⟨by rw [ht]; exact hP, hD⟩⟩, hS.F ht⟩) hS.2.2 dL_forced_18
def mL_solved (N : Nat) (ou : RowJ) (ho : RowI) (ke : RowI) (hc : Int32) (tr : Int32) (fo : Int32) (fr : Int32) (st : RowI) (co : Int32) (ro : Int32) (cA : CS) (cD : CS) (su : RowJ) (p2 : Int32) : Option (Int32 × RowJ × RowI × RowI × Int32 × Int32 × Int32 × Int32 × RowI) :=
  ((mX4_solved N ho ke hc tr fo fr st co ro cA cD su p2).bind fun x4 => Sum.elim (fun k => (if k = 1 then some ((1 : Int32), ou, ho, ke, hc, tr, fo, fr, st) else none)) (fun y4 =>
  (if bad (0 : Int32) 1 then none else
  some ((0 : Int32), (vp_updL ou (0 : Int32).toNatClampNeg (y4.1.toInt64)), y4.2.1, y4.2.2.1, y4.2.2.2.1, y4.2.2.2.2.1, y4.2.2.2.2.2.1, y4.2.2.2.2.2.2.1, y4.2.2.2.2.2.2.2))) x4)
abbrev rmL_solved : Room := { frames := 47, cells := 1, slots := 6, locals := 1161 }
set_option maxHeartbeats 4000000 in
set_option maxRecDepth 100000 in
theorem kL_solved {l : Launch} {D : va_G} {cI cJ : ClassId} (hlt : l.stackTraces = false) (N : Nat) (a : Nat → Nat) {ou : RowJ} {ho : RowI} {ke : RowI} {hc : Int32} {tr : Int32} {fo : Int32} {fr : Int32} {st : RowI} {co : Int32} {ro : Int32} {cA : CS} {cD : CS} {su : RowJ} {jA : JT} {jD : JT} {p2 : Int32} {o : (Int32 × RowJ × RowI × RowI × Int32 × Int32 × Int32 × Int32 × RowI)} (hM : mL_solved N ou ho ke hc tr fo fr st co ro cA cD su p2 = some o) (sz : Nat) : Met l yL_solved wsL_solved rmL_solved (va_Pc [.ref (a 15), .int p2, .ref (a 16)] (PreT D cI cJ (ow a cI cJ ou ho ke hc tr fo fr st co ro cA cD su jA jD) sz)) (va_Qi (fun (r : Int32) (_ : JT × JT) => r = o.1) (aft D (ow a cI cJ ou ho ke hc tr fo fr st co ro cA cD su jA jD) sz (fun (u : JT × JT) => (ow a cI cJ o.2.1 o.2.2.1 o.2.2.2.1 o.2.2.2.2.1 o.2.2.2.2.2.1 o.2.2.2.2.2.2.1 o.2.2.2.2.2.2.2.1 o.2.2.2.2.2.2.2.2 co ro cA cD su u.1 u.2))) (va_A (ow a cI cJ ou ho ke hc tr fo fr st co ro cA cD su jA jD) sz)) 1 6 (va_A (ow a cI cJ ou ho ke hc tr fo fr st co ro cA cD su jA jD) sz) := by
  refine xofH (cc := cL_solved) (maxL := 4) (ret := (some .int)) rfl (by decide) rfl ?_
  intro p e s m args below meth c ls Q A hQ hAe hx hb hr hml hown hts hlocks htab hTX hN hK H locs hP hD hS hA hl
  replace hown : s.vm.findClass RL = some m.cls := hown
  replace hl : lv_has ls 4 [(0, .ref (a 15)), (1, .int p2), (2, .ref (a 16))] := hl
  rw [mL_solved] at hM
  refine lv_aload_n hx hb dL_solved_0 rfl (lv_at hl 2 rfl) ?_
  refine lv_iconst (v := 0) hx hb dL_solved_1 (by decide) ?_
  refine lv_aload_n hx hb dL_solved_2 rfl (lv_at hl 0 rfl) ?_
  refine lv_iload_n hx hb dL_solved_3 rfl (lv_at hl 1 rfl) ?_
  obtain ⟨x4, hC, hM⟩ := bd_s hM
  refine cT_i [1, 2, 3, 4, 5, 6, 7, 8, 9, 10, 11, 12, 13, 14, 15, 16] [0] [0, 1, 2, 3, 4, 5, 6, 7, 8, 9, 10, 11, 12, 13, 14, 15, 16] (vx_runV (As := [.int p2]) (rest := [.int (0 : Int32), .ref (a 16)]) ⟨hx, hb, hml, hown, hts⟩ (kX4_solved (l := l) (D := D) (cI := cI) (cJ := cJ) hlt N a (ho := ho) (ke := ke) (hc := hc) (tr := tr) (fo := fo) (fr := fr) (st := st) (co := co) (ro := ro) (cA := cA) (cD := cD) (su := su) (jA := jA) (jD := jD) (p1 := p2) hC H.size) (cwV 1 hts gL_solved_X4_solved rfl rfl rfl (by decide +kernel) ⟨Nat.le_of_ble_eq_true rfl, Nat.le_of_ble_eq_true rfl⟩) (preVT [.int p2] hTX hS (va_free (wc := (xw a cI cJ ho ke hc tr fo fr st co ro cA cD su jA jD)) hD hS hA [1, 2, 3, 4, 5, 6, 7, 8, 9, 10, 11, 12, 13, 14, 15, 16] rfl) hN hK (hP.sub (ws' := (xw a cI cJ ho ke hc tr fo fr st co ro cA cD su jA jD)) [1, 2, 3, 4, 5, 6, 7, 8, 9, 10, 11, 12, 13, 14, 15, 16] rfl) (hD.sub (ws' := (xw a cI cJ ho ke hc tr fo fr st co ro cA cD su jA jD)) [1, 2, 3, 4, 5, 6, 7, 8, 9, 10, 11, 12, 13, 14, 15, 16] (by decide) rfl) (ci := 4) (q0 := 3) rfl rfl) rfl rfl hl.1 rfl (lv_room (Nat.le_of_ble_eq_true rfl)) dL_solved_4 ⟨Nat.le_of_ble_eq_true rfl, Nat.le_of_ble_eq_true rfl⟩) hP hD hS hA rfl (wr := (((ow a cI cJ ou ho ke hc tr fo fr st co ro cA cD su jA jD)).take 1)) rfl (by decide) (by decide) rfl (by decide) rfl (fun E ce q9 H locs hE hP hD hS h1 h2 h3 => ?_) (fun r u4 H locs hw hP hD hS => ?_)
  · obtain ⟨k, hk, hE⟩ := hE
    subst hk
    dsimp only [Sum.elim] at hM
    by_cases hk1 : k = 1
    · replace hM := it_p hk1 hM
      subst hk1
      replace hE : E = xIO := hE
      subst hE
      refine catch1 (cls := xIO) (Ts := wsL_solved) [] (0, 9, 12, 19) [] hown htab hts hTX (fun z hz => absurd hz List.not_mem_nil) (by decide) (by decide) (by decide +kernel) (by decide +kernel) h1 h2 h3 ?_
      refine W.eq (g2 := F0 m 12 ls [.ref q9]) rfl ?_
      refine lv_astore_n (lv' := [(3, .ref q9), (0, .ref (a 15)), (1, .int p2), (2, .ref (a 16))]) hx hb dL_solved_12 rfl hl (by decide) rfl (fun ls hl => ?_)
      refine lv_iconst (v := 1) hx hb dL_solved_13 (by decide) ?_
      obtain rfl := Option.some.inj hM
      subst hQ hAe
      refine W.widen (k := 1) (n := 6) (by decide) (by decide) ?_
      exact W.iret (v := (1 : Int32)) hx hb hr (fun t ht hW => ⟨⟨(1 : Int32), (jA, jD), rfl, rfl, ⟨by rw [ht]; exact hP, hD⟩⟩, hS.F ht⟩) hS.2.2 dL_solved_14
    replace hM := it_n hk1 hM
    cases hM
  obtain ⟨hxx, hw⟩ := hw
  subst hxx
  dsimp only [Sum.elim] at hM
  replace hP : va_P D vwCl (ow a cI cJ ou u4.1.2.1 u4.1.2.2.1 u4.1.2.2.2.1 u4.1.2.2.2.2.1 u4.1.2.2.2.2.2.1 u4.1.2.2.2.2.2.2.1 u4.1.2.2.2.2.2.2.2 co ro cA cD su u4.2.1 u4.2.2) H := hP
  replace hD : va_D A (ow a cI cJ ou u4.1.2.1 u4.1.2.2.1 u4.1.2.2.2.1 u4.1.2.2.2.2.1 u4.1.2.2.2.2.2.1 u4.1.2.2.2.2.2.2.1 u4.1.2.2.2.2.2.2.2 co ro cA cD su u4.2.1 u4.2.2) := hD
  rw [hw]
  refine lv_i2l (v := u4.1.1.toInt64) hx hb dL_solved_7 rfl ?_
  obtain ⟨hb8, hM⟩ := it_x hM
  refine va_last (D := D) hx hb hK hP hD hS 0 1 rfl rfl hb8 dL_solved_8 (fun H locs hP hD hS => ?_)
  replace hP : va_P D vwCl (ow a cI cJ (vp_updL ou (0 : Int32).toNatClampNeg (u4.1.1.toInt64)) u4.1.2.1 u4.1.2.2.1 u4.1.2.2.2.1 u4.1.2.2.2.2.1 u4.1.2.2.2.2.2.1 u4.1.2.2.2.2.2.2.1 u4.1.2.2.2.2.2.2.2 co ro cA cD su u4.2.1 u4.2.2) H := hP
  replace hD : va_D A (ow a cI cJ (vp_updL ou (0 : Int32).toNatClampNeg (u4.1.1.toInt64)) u4.1.2.1 u4.1.2.2.1 u4.1.2.2.2.1 u4.1.2.2.2.2.1 u4.1.2.2.2.2.2.1 u4.1.2.2.2.2.2.2.1 u4.1.2.2.2.2.2.2.2 co ro cA cD su u4.2.1 u4.2.2) := hD
  refine lv_goto (tgt := 15) hx hb dL_solved_9 (by decide) ?_
  refine lv_iconst (v := 0) hx hb dL_solved_15 (by decide) ?_
  obtain rfl := Option.some.inj hM
  subst hQ hAe
  refine W.widen (k := 1) (n := 6) (by decide) (by decide) ?_
  exact W.iret (v := (0 : Int32)) hx hb hr (fun t ht hW => ⟨⟨(0 : Int32), (u4.2.1, u4.2.2), rfl, rfl, ⟨by rw [ht]; exact hP, hD⟩⟩, hS.F ht⟩) hS.2.2 dL_solved_16
def mL_would (N : Nat) (ou : RowJ) (ho : RowI) (ke : RowI) (hc : Int32) (tr : Int32) (fo : Int32) (fr : Int32) (st : RowI) (co : Int32) (ro : Int32) (cA : CS) (cD : CS) (su : RowJ) (p2 : Int32) (p3 : Int32) : Option (Int32 × RowJ × RowI × RowI × Int32 × Int32 × Int32 × Int32 × RowI) :=
  ((mX4_would N ho ke hc tr fo fr st co ro cA cD su p2 p3).bind fun x5 => Sum.elim (fun k => (if k = 1 then some ((1 : Int32), ou, ho, ke, hc, tr, fo, fr, st) else (if k = 2 then some ((2 : Int32), ou, ho, ke, hc, tr, fo, fr, st) else (if k = 3 then some ((3 : Int32), ou, ho, ke, hc, tr, fo, fr, st) else none)))) (fun y5 =>
  (if bad (0 : Int32) 1 then none else
  some ((0 : Int32), (vp_updL ou (0 : Int32).toNatClampNeg (y5.1.toInt64)), y5.2.1, y5.2.2.1, y5.2.2.2.1, y5.2.2.2.2.1, y5.2.2.2.2.2.1, y5.2.2.2.2.2.2.1, y5.2.2.2.2.2.2.2))) x5)
abbrev rmL_would : Room := { frames := 47, cells := 2, slots := 12, locals := 1164 }
set_option maxHeartbeats 4000000 in
set_option maxRecDepth 100000 in
theorem kL_would {l : Launch} {D : va_G} {cI cJ : ClassId} (hlt : l.stackTraces = false) (N : Nat) (a : Nat → Nat) {ou : RowJ} {ho : RowI} {ke : RowI} {hc : Int32} {tr : Int32} {fo : Int32} {fr : Int32} {st : RowI} {co : Int32} {ro : Int32} {cA : CS} {cD : CS} {su : RowJ} {jA : JT} {jD : JT} {p2 : Int32} {p3 : Int32} {o : (Int32 × RowJ × RowI × RowI × Int32 × Int32 × Int32 × Int32 × RowI)} (hM : mL_would N ou ho ke hc tr fo fr st co ro cA cD su p2 p3 = some o) (sz : Nat) : Met l yL_would wsL_would rmL_would (va_Pc [.ref (a 15), .int p2, .int p3, .ref (a 16)] (PreT D cI cJ (ow a cI cJ ou ho ke hc tr fo fr st co ro cA cD su jA jD) sz)) (va_Qi (fun (r : Int32) (_ : JT × JT) => r = o.1) (aft D (ow a cI cJ ou ho ke hc tr fo fr st co ro cA cD su jA jD) sz (fun (u : JT × JT) => (ow a cI cJ o.2.1 o.2.2.1 o.2.2.2.1 o.2.2.2.2.1 o.2.2.2.2.2.1 o.2.2.2.2.2.2.1 o.2.2.2.2.2.2.2.1 o.2.2.2.2.2.2.2.2 co ro cA cD su u.1 u.2))) (va_A (ow a cI cJ ou ho ke hc tr fo fr st co ro cA cD su jA jD) sz)) 2 12 (va_A (ow a cI cJ ou ho ke hc tr fo fr st co ro cA cD su jA jD) sz) := by
  refine xofH (cc := cL_would) (maxL := 5) (ret := (some .int)) rfl (by decide) rfl ?_
  intro p e s m args below meth c ls Q A hQ hAe hx hb hr hml hown hts hlocks htab hTX hN hK H locs hP hD hS hA hl
  replace hown : s.vm.findClass RL = some m.cls := hown
  replace hl : lv_has ls 5 [(0, .ref (a 15)), (1, .int p2), (2, .int p3), (3, .ref (a 16))] := hl
  rw [mL_would] at hM
  refine lv_aload_n hx hb dL_would_0 rfl (lv_at hl 3 rfl) ?_
  refine lv_iconst (v := 0) hx hb dL_would_1 (by decide) ?_
  refine lv_aload_n hx hb dL_would_2 rfl (lv_at hl 0 rfl) ?_
  refine lv_iload_n hx hb dL_would_3 rfl (lv_at hl 1 rfl) ?_
  refine lv_iload_n hx hb dL_would_4 rfl (lv_at hl 2 rfl) ?_
  obtain ⟨x5, hC, hM⟩ := bd_s hM
  refine cT_i [1, 2, 3, 4, 5, 6, 7, 8, 9, 10, 11, 12, 13, 14, 15, 16] [0] [0, 1, 2, 3, 4, 5, 6, 7, 8, 9, 10, 11, 12, 13, 14, 15, 16] (vx_runV (As := [.int p2, .int p3]) (rest := [.int (0 : Int32), .ref (a 16)]) ⟨hx, hb, hml, hown, hts⟩ (kX4_would (l := l) (D := D) (cI := cI) (cJ := cJ) hlt N a (ho := ho) (ke := ke) (hc := hc) (tr := tr) (fo := fo) (fr := fr) (st := st) (co := co) (ro := ro) (cA := cA) (cD := cD) (su := su) (jA := jA) (jD := jD) (p1 := p2) (p2 := p3) hC H.size) (cwV 2 hts gL_would_X4_would rfl rfl rfl (by decide +kernel) ⟨Nat.le_of_ble_eq_true rfl, Nat.le_of_ble_eq_true rfl⟩) (preVT [.int p2, .int p3] hTX hS (va_free (wc := (xw a cI cJ ho ke hc tr fo fr st co ro cA cD su jA jD)) hD hS hA [1, 2, 3, 4, 5, 6, 7, 8, 9, 10, 11, 12, 13, 14, 15, 16] rfl) hN hK (hP.sub (ws' := (xw a cI cJ ho ke hc tr fo fr st co ro cA cD su jA jD)) [1, 2, 3, 4, 5, 6, 7, 8, 9, 10, 11, 12, 13, 14, 15, 16] rfl) (hD.sub (ws' := (xw a cI cJ ho ke hc tr fo fr st co ro cA cD su jA jD)) [1, 2, 3, 4, 5, 6, 7, 8, 9, 10, 11, 12, 13, 14, 15, 16] (by decide) rfl) (ci := 4) (q0 := 3) rfl rfl) rfl rfl hl.1 rfl (lv_room (Nat.le_of_ble_eq_true rfl)) dL_would_5 ⟨Nat.le_of_ble_eq_true rfl, Nat.le_of_ble_eq_true rfl⟩) hP hD hS hA rfl (wr := (((ow a cI cJ ou ho ke hc tr fo fr st co ro cA cD su jA jD)).take 1)) rfl (by decide) (by decide) rfl (by decide) rfl (fun E ce q9 H locs hE hP hD hS h1 h2 h3 => ?_) (fun r u5 H locs hw hP hD hS => ?_)
  · obtain ⟨k, hk, hE⟩ := hE
    subst hk
    dsimp only [Sum.elim] at hM
    by_cases hk1 : k = 1
    · replace hM := it_p hk1 hM
      subst hk1
      replace hE : E = xIO := hE
      subst hE
      refine catch1 (cls := xIO) (Ts := wsL_would) [] (0, 10, 13, 19) [(0, 10, 17, 13), (0, 10, 21, 28)] hown htab hts hTX (fun z hz => absurd hz List.not_mem_nil) (by decide) (by decide) (by decide +kernel) (by decide +kernel) h1 h2 h3 ?_
      refine W.eq (g2 := F0 m 13 ls [.ref q9]) rfl ?_
      refine lv_astore (lv' := [(4, .ref q9), (0, .ref (a 15)), (1, .int p2), (2, .int p3), (3, .ref (a 16))]) hx hb dL_would_13 hl (by decide) rfl (fun ls hl => ?_)
      refine lv_iconst (v := 1) hx hb dL_would_15 (by decide) ?_
      obtain rfl := Option.some.inj hM
      subst hQ hAe
      refine W.widen (k := 2) (n := 12) (by decide) (by decide) ?_
      exact W.iret (v := (1 : Int32)) hx hb hr (fun t ht hW => ⟨⟨(1 : Int32), (jA, jD), rfl, rfl, ⟨by rw [ht]; exact hP, hD⟩⟩, hS.F ht⟩) hS.2.2 dL_would_16
    replace hM := it_n hk1 hM
    by_cases hk2 : k = 2
    · replace hM := it_p hk2 hM
      subst hk2
      replace hE : E = xIA := hE
      subst hE
      refine catch1 (cls := xIA) (Ts := wsL_would) [(0, 10, 13, 19)] (0, 10, 17, 13) [(0, 10, 21, 28)] hown htab hts hTX (fun z hz => by
        simp only [List.mem_cons, List.not_mem_nil, or_false] at hz
        rcases hz with rfl
        · exact ⟨by decide, xIO, by decide +kernel, hTX.2.2.2.2.1⟩) (by decide) (by decide) (by decide +kernel) (by decide +kernel) h1 h2 h3 ?_
      refine W.eq (g2 := F0 m 17 ls [.ref q9]) rfl ?_
      refine lv_astore (lv' := [(4, .ref q9), (0, .ref (a 15)), (1, .int p2), (2, .int p3), (3, .ref (a 16))]) hx hb dL_would_17 hl (by decide) rfl (fun ls hl => ?_)
      refine lv_iconst (v := 2) hx hb dL_would_19 (by decide) ?_
      obtain rfl := Option.some.inj hM
      subst hQ hAe
      refine W.widen (k := 2) (n := 12) (by decide) (by decide) ?_
      exact W.iret (v := (2 : Int32)) hx hb hr (fun t ht hW => ⟨⟨(2 : Int32), (jA, jD), rfl, rfl, ⟨by rw [ht]; exact hP, hD⟩⟩, hS.F ht⟩) hS.2.2 dL_would_20
    replace hM := it_n hk2 hM
    by_cases hk3 : k = 3
    · replace hM := it_p hk3 hM
      subst hk3
      replace hE : E = xIS := hE
      subst hE
      refine catch1 (cls := xIS) (Ts := wsL_would) [(0, 10, 13, 19), (0, 10, 17, 13)] (0, 10, 21, 28) [] hown htab hts hTX (fun z hz => by
        simp only [List.mem_cons, List.not_mem_nil, or_false] at hz
        rcases hz with rfl | rfl
        · exact ⟨by decide, xIO, by decide +kernel, hTX.2.2.2.2.2.1⟩
        · exact ⟨by decide, xIA, by decide +kernel, hTX.2.2.2.2.2.2⟩) (by decide) (by decide) (by decide +kernel) (by decide +kernel) h1 h2 h3 ?_
      refine W.eq (g2 := F0 m 21 ls [.ref q9]) rfl ?_
      refine lv_astore (lv' := [(4, .ref q9), (0, .ref (a 15)), (1, .int p2), (2, .int p3), (3, .ref (a 16))]) hx hb dL_would_21 hl (by decide) rfl (fun ls hl => ?_)
      refine lv_iconst (v := 3) hx hb dL_would_23 (by decide) ?_
      obtain rfl := Option.some.inj hM
      subst hQ hAe
      refine W.widen (k := 2) (n := 12) (by decide) (by decide) ?_
      exact W.iret (v := (3 : Int32)) hx hb hr (fun t ht hW => ⟨⟨(3 : Int32), (jA, jD), rfl, rfl, ⟨by rw [ht]; exact hP, hD⟩⟩, hS.F ht⟩) hS.2.2 dL_would_24
    replace hM := it_n hk3 hM
    cases hM
  obtain ⟨hxx, hw⟩ := hw
  subst hxx
  dsimp only [Sum.elim] at hM
  replace hP : va_P D vwCl (ow a cI cJ ou u5.1.2.1 u5.1.2.2.1 u5.1.2.2.2.1 u5.1.2.2.2.2.1 u5.1.2.2.2.2.2.1 u5.1.2.2.2.2.2.2.1 u5.1.2.2.2.2.2.2.2 co ro cA cD su u5.2.1 u5.2.2) H := hP
  replace hD : va_D A (ow a cI cJ ou u5.1.2.1 u5.1.2.2.1 u5.1.2.2.2.1 u5.1.2.2.2.2.1 u5.1.2.2.2.2.2.1 u5.1.2.2.2.2.2.2.1 u5.1.2.2.2.2.2.2.2 co ro cA cD su u5.2.1 u5.2.2) := hD
  rw [hw]
  refine lv_i2l (v := u5.1.1.toInt64) hx hb dL_would_8 rfl ?_
  obtain ⟨hb9, hM⟩ := it_x hM
  refine va_last (D := D) hx hb hK hP hD hS 0 1 rfl rfl hb9 dL_would_9 (fun H locs hP hD hS => ?_)
  replace hP : va_P D vwCl (ow a cI cJ (vp_updL ou (0 : Int32).toNatClampNeg (u5.1.1.toInt64)) u5.1.2.1 u5.1.2.2.1 u5.1.2.2.2.1 u5.1.2.2.2.2.1 u5.1.2.2.2.2.2.1 u5.1.2.2.2.2.2.2.1 u5.1.2.2.2.2.2.2.2 co ro cA cD su u5.2.1 u5.2.2) H := hP
  replace hD : va_D A (ow a cI cJ (vp_updL ou (0 : Int32).toNatClampNeg (u5.1.1.toInt64)) u5.1.2.1 u5.1.2.2.1 u5.1.2.2.2.1 u5.1.2.2.2.2.1 u5.1.2.2.2.2.2.1 u5.1.2.2.2.2.2.2.1 u5.1.2.2.2.2.2.2.2 co ro cA cD su u5.2.1 u5.2.2) := hD
  refine lv_goto (tgt := 25) hx hb dL_would_10 (by decide) ?_
  refine lv_iconst (v := 0) hx hb dL_would_25 (by decide) ?_
  obtain rfl := Option.some.inj hM
  subst hQ hAe
  refine W.widen (k := 2) (n := 12) (by decide) (by decide) ?_
  exact W.iret (v := (0 : Int32)) hx hb hr (fun t ht hW => ⟨⟨(0 : Int32), (u5.2.1, u5.2.2), rfl, rfl, ⟨by rw [ht]; exact hP, hD⟩⟩, hS.F ht⟩) hS.2.2 dL_would_26
