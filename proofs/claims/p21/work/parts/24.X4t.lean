def mX4_checkCell (N : Nat) (co : Int32) (ro : Int32) (p1 : Int32) : Option (Nat ⊕ Unit) :=
  ((mX1_has N co ro p1).bind fun x5 =>
  (if x5 = 0 then
  some (.inl 1)
  else
  some (.inr ())))
abbrev rmX4_checkCell : Room := { frames := 6, cells := 1, slots := 6, locals := 96 }
set_option maxHeartbeats 4000000 in
set_option maxRecDepth 100000 in
theorem kX4_checkCell {l : Launch} {D : va_G} {cI cJ : ClassId} (hlt : l.stackTraces = false) (N : Nat) (a : Nat → Nat) {ho : RowI} {ke : RowI} {hc : Int32} {tr : Int32} {fo : Int32} {fr : Int32} {st : RowI} {co : Int32} {ro : Int32} {cA : CS} {cD : CS} {su : RowJ} {jA : JT} {jD : JT} {p1 : Int32} {o : (Nat ⊕ Unit)} (hM : mX4_checkCell N co ro p1 = some o) (sz : Nat) : vx_Met l yX4_checkCell wsX4_checkCell rmX4_checkCell (va_Pc [.ref (a 15), .int p1] (PreT D cI cJ (xw a cI cJ ho ke hc tr fo fr st co ro cA cD su jA jD) sz)) (va_Qv (fun (u : Unit × (JT × JT)) => o = .inr u.1) (aft D (xw a cI cJ ho ke hc tr fo fr st co ro cA cD su jA jD) sz (fun (u : Unit × (JT × JT)) => (xw a cI cJ ho ke hc tr fo fr st co ro cA cD su jA jD))) (va_A (xw a cI cJ ho ke hc tr fo fr st co ro cA cD su jA jD) sz)) (aftX D (fun E => ∃ k, o = .inl k ∧ E = en k) (xw a cI cJ ho ke hc tr fo fr st co ro cA cD su jA jD) sz) 1 6 (va_A (xw a cI cJ ho ke hc tr fo fr st co ro cA cD su jA jD) sz) := by
  refine xofT (cc := cX4_checkCell) (maxL := 2) (ret := none) rfl (by decide) rfl ?_
  intro p e s m args below meth c ls Q A hQ hAe hx hb hr hml hown hts hlocks hout hTX hN hK H locs hP hD hS hA hl
  replace hown : s.vm.findClass RX4 = some m.cls := hown
  replace hl : lv_has ls 2 [(0, .ref (a 15)), (1, .int p1)] := hl
  have iX4 : ∀ w ∈ wsX40, w ∈ wsX4_checkCell := by decide +kernel
  have f10 := hts (.fieldLink RX4 10 "CryptSums" "floor" "LCryptSums$Floor;") (by decide +kernel)
  rw [mX4_checkCell] at hM
  refine lv_aload_n hx hb dX4_checkCell_0 rfl (lv_at hl 0 rfl) ?_
  refine va_get (D := D) (ci := 4) (v := .ref (a 0)) (C := RX4) (T := TX4) (N := 2) hx hb hts iX4 hown hK hP 3 rfl rfl 0 (by decide) f10 (fun _ h9 => h9) rfl dX4_checkCell_1 ?_
  refine lv_iload_n hx hb dX4_checkCell_4 rfl (lv_at hl 1 rfl) ?_
  obtain ⟨x5, hC, hM⟩ := bd_s hM
  refine cR_i (va_runV (As := [.int p1]) (rest := []) ⟨hx, hb, hml, hown, hts⟩ (kX1_has (l := l) (D := D) (cI := cI) (cJ := cJ) N a (st := st) (co := co) (ro := ro) (cA := cA) (cD := cD) (su := su) (jA := jA) (jD := jD) (p1 := p1) hC H.size) (cwV 1 hts gX4_checkCell_X1_has rfl rfl rfl (by decide +kernel) ⟨Nat.le_of_ble_eq_true rfl, Nat.le_of_ble_eq_true rfl⟩) (preV [.int p1] hN hK (hP.sub (ws' := (fw a cI cJ st co ro cA cD su jA jD)) [4, 5, 6, 7, 8, 9, 10, 11, 12, 13, 14, 15] rfl) (hD.sub (ws' := (fw a cI cJ st co ro cA cD su jA jD)) [4, 5, 6, 7, 8, 9, 10, 11, 12, 13, 14, 15] (by decide) rfl) (ci := 1) (q0 := 0) rfl rfl) rfl rfl hl.1 rfl (lv_room (Nat.le_of_ble_eq_true rfl)) dX4_checkCell_5 ⟨Nat.le_of_ble_eq_true rfl, Nat.le_of_ble_eq_true rfl⟩) hP hS (fun r u H locs hw hP hS => ?_)
  obtain ⟨hw, hz5⟩ := hw
  rw [hw] at hz5
  rw [hw]
  refine lv_if_ne (tgt := 21) hx hb dX4_checkCell_8 (by decide) (fun hcc => ?_) (fun hcc => ?_)
  · replace hM := it_n hcc hM
    obtain rfl := Option.some.inj hM
    subst hQ hAe
    refine vx_ret ?_
    refine W.widen (k := 1) (n := 6) (by decide) (by decide) ?_
    exact W.vret hx hb hr (fun t ht hW => ⟨⟨((), (jA, jD)), rfl, rfl, ⟨by rw [ht]; exact hP, hD⟩⟩, hS.F ht⟩) hS.2.2 dX4_checkCell_21
  · replace hM := it_p hcc hM
    obtain rfl := Option.some.inj hM
    exact thr (cls := xIO) (text := "no such cell") (ik := 87) (is := 149) (ic := 91) (Ts := wsX4_checkCell) (px := fun E => ∃ k, _ = Sum.inl k ∧ E = en k) hx hb hlt hQ hAe (hml.trans hl.1.symm) hown hts hlocks hout hTX hP hD hS (by decide) (by decide +kernel) (by decide +kernel) (by decide +kernel) (by decide +kernel) (by decide +kernel) (by decide +kernel) dX4_checkCell_11 dX4_checkCell_14 dX4_checkCell_15 dX4_checkCell_17 dX4_checkCell_20 ⟨1, rfl, rfl⟩ (by decide) (by decide) (by decide) (by decide) (by decide) (by decide)
def mX4_checkOpen (N : Nat) (st : RowI) (p1 : Int32) : Option (Nat ⊕ Unit) :=
  ((mX1_isPillar N st p1).bind fun x5 =>
  (if x5 = 0 then
  some (.inr ())
  else
  some (.inl 3)))
abbrev rmX4_checkOpen : Room := { frames := 6, cells := 1, slots := 6, locals := 96 }
set_option maxHeartbeats 4000000 in
set_option maxRecDepth 100000 in
theorem kX4_checkOpen {l : Launch} {D : va_G} {cI cJ : ClassId} (hlt : l.stackTraces = false) (N : Nat) (a : Nat → Nat) {ho : RowI} {ke : RowI} {hc : Int32} {tr : Int32} {fo : Int32} {fr : Int32} {st : RowI} {co : Int32} {ro : Int32} {cA : CS} {cD : CS} {su : RowJ} {jA : JT} {jD : JT} {p1 : Int32} {o : (Nat ⊕ Unit)} (hM : mX4_checkOpen N st p1 = some o) (sz : Nat) : vx_Met l yX4_checkOpen wsX4_checkOpen rmX4_checkOpen (va_Pc [.ref (a 15), .int p1] (PreT D cI cJ (xw a cI cJ ho ke hc tr fo fr st co ro cA cD su jA jD) sz)) (va_Qv (fun (u : Unit × (JT × JT)) => o = .inr u.1) (aft D (xw a cI cJ ho ke hc tr fo fr st co ro cA cD su jA jD) sz (fun (u : Unit × (JT × JT)) => (xw a cI cJ ho ke hc tr fo fr st co ro cA cD su jA jD))) (va_A (xw a cI cJ ho ke hc tr fo fr st co ro cA cD su jA jD) sz)) (aftX D (fun E => ∃ k, o = .inl k ∧ E = en k) (xw a cI cJ ho ke hc tr fo fr st co ro cA cD su jA jD) sz) 1 6 (va_A (xw a cI cJ ho ke hc tr fo fr st co ro cA cD su jA jD) sz) := by
  refine xofT (cc := cX4_checkOpen) (maxL := 2) (ret := none) rfl (by decide) rfl ?_
  intro p e s m args below meth c ls Q A hQ hAe hx hb hr hml hown hts hlocks hout hTX hN hK H locs hP hD hS hA hl
  replace hown : s.vm.findClass RX4 = some m.cls := hown
  replace hl : lv_has ls 2 [(0, .ref (a 15)), (1, .int p1)] := hl
  have iX4 : ∀ w ∈ wsX40, w ∈ wsX4_checkOpen := by decide +kernel
  have f10 := hts (.fieldLink RX4 10 "CryptSums" "floor" "LCryptSums$Floor;") (by decide +kernel)
  rw [mX4_checkOpen] at hM
  refine lv_aload_n hx hb dX4_checkOpen_0 rfl (lv_at hl 0 rfl) ?_
  refine va_get (D := D) (ci := 4) (v := .ref (a 0)) (C := RX4) (T := TX4) (N := 2) hx hb hts iX4 hown hK hP 3 rfl rfl 0 (by decide) f10 (fun _ h9 => h9) rfl dX4_checkOpen_1 ?_
  refine lv_iload_n hx hb dX4_checkOpen_4 rfl (lv_at hl 1 rfl) ?_
  obtain ⟨x5, hC, hM⟩ := bd_s hM
  refine cR_i (va_runV (As := [.int p1]) (rest := []) ⟨hx, hb, hml, hown, hts⟩ (kX1_isPillar (l := l) (D := D) (cI := cI) (cJ := cJ) N a (st := st) (co := co) (ro := ro) (cA := cA) (cD := cD) (su := su) (jA := jA) (jD := jD) (p1 := p1) hC H.size) (cwV 1 hts gX4_checkOpen_X1_isPillar rfl rfl rfl (by decide +kernel) ⟨Nat.le_of_ble_eq_true rfl, Nat.le_of_ble_eq_true rfl⟩) (preV [.int p1] hN hK (hP.sub (ws' := (fw a cI cJ st co ro cA cD su jA jD)) [4, 5, 6, 7, 8, 9, 10, 11, 12, 13, 14, 15] rfl) (hD.sub (ws' := (fw a cI cJ st co ro cA cD su jA jD)) [4, 5, 6, 7, 8, 9, 10, 11, 12, 13, 14, 15] (by decide) rfl) (ci := 1) (q0 := 0) rfl rfl) rfl rfl hl.1 rfl (lv_room (Nat.le_of_ble_eq_true rfl)) dX4_checkOpen_5 ⟨Nat.le_of_ble_eq_true rfl, Nat.le_of_ble_eq_true rfl⟩) hP hS (fun r u H locs hw hP hS => ?_)
  obtain ⟨hw, hz5⟩ := hw
  rw [hw] at hz5
  rw [hw]
  refine lv_if_eq (tgt := 21) hx hb dX4_checkOpen_8 (by decide) (fun hcc => ?_) (fun hcc => ?_)
  · replace hM := it_p hcc hM
    obtain rfl := Option.some.inj hM
    subst hQ hAe
    refine vx_ret ?_
    refine W.widen (k := 1) (n := 6) (by decide) (by decide) ?_
    exact W.vret hx hb hr (fun t ht hW => ⟨⟨((), (jA, jD)), rfl, rfl, ⟨by rw [ht]; exact hP, hD⟩⟩, hS.F ht⟩) hS.2.2 dX4_checkOpen_21
  · replace hM := it_n hcc hM
    obtain rfl := Option.some.inj hM
    exact thr (cls := xIS) (text := "the cell is a pillar") (ik := 151) (is := 153) (ic := 155) (Ts := wsX4_checkOpen) (px := fun E => ∃ k, _ = Sum.inl k ∧ E = en k) hx hb hlt hQ hAe (hml.trans hl.1.symm) hown hts hlocks hout hTX hP hD hS (by decide) (by decide +kernel) (by decide +kernel) (by decide +kernel) (by decide +kernel) (by decide +kernel) (by decide +kernel) dX4_checkOpen_11 dX4_checkOpen_14 dX4_checkOpen_15 dX4_checkOpen_17 dX4_checkOpen_20 ⟨3, rfl, rfl⟩ (by decide) (by decide) (by decide) (by decide) (by decide) (by decide)
def mX4_checkPartition (N : Nat) (p1 : Int32) (p2 : Int32) : Option (Nat ⊕ Unit) :=
  (if p1 < (1 : Int32) then
  some (.inl 2)
  else
  (if p1 ≤ (9 : Int32) then
  (if p2 < (1 : Int32) then
  some (.inl 2)
  else
  (if p2 ≤ (45 : Int32) then
  some (.inr ())
  else
  some (.inl 2)))
  else
  some (.inl 2)))
abbrev rmX4_checkPartition : Room := { frames := 6, cells := 1, slots := 6, locals := 96 }
set_option maxHeartbeats 4000000 in
set_option maxRecDepth 100000 in
theorem kX4_checkPartition {l : Launch} {D : va_G} {cI cJ : ClassId} (hlt : l.stackTraces = false) (N : Nat) {p1 : Int32} {p2 : Int32} {o : (Nat ⊕ Unit)} (hM : mX4_checkPartition N p1 p2 = some o) (sz : Nat) : vx_Met l yX4_checkPartition wsX4_checkPartition rmX4_checkPartition (va_Pc [.int p1, .int p2] (PreT D cI cJ (zw) sz)) (va_Qv (fun (u : Unit × (JT × JT)) => o = .inr u.1) (aft D (zw) sz (fun (u : Unit × (JT × JT)) => (zw))) (va_A (zw) sz)) (aftX D (fun E => ∃ k, o = .inl k ∧ E = en k) (zw) sz) 1 6 (va_A (zw) sz) := by
  refine xofT (cc := cX4_checkPartition) (maxL := 2) (ret := none) rfl (by decide) rfl ?_
  intro p e s m args below meth c ls Q A hQ hAe hx hb hr hml hown hts hlocks hout hTX hN hK H locs hP hD hS hA hl
  replace hown : s.vm.findClass RX4 = some m.cls := hown
  replace hl : lv_has ls 2 [(0, .int p1), (1, .int p2)] := hl
  rw [mX4_checkPartition] at hM
  refine lv_iload_n hx hb dX4_checkPartition_0 rfl (lv_at hl 0 rfl) ?_
  refine lv_iconst (v := 1) hx hb dX4_checkPartition_1 (by decide) ?_
  refine lv_icmp_lt (tgt := 11) hx hb dX4_checkPartition_2 (by decide) (fun hcc => ?_) (fun hcc => ?_)
  · replace hM := it_p hcc hM
    obtain rfl := Option.some.inj hM
    exact thr (cls := xIA) (text := "there are not 1 to 9 cells") (ik := 25) (is := 156) (ic := 29) (Ts := wsX4_checkPartition) (px := fun E => ∃ k, _ = Sum.inl k ∧ E = en k) hx hb hlt hQ hAe (hml.trans hl.1.symm) hown hts hlocks hout hTX hP hD hS (by decide) (by decide +kernel) (by decide +kernel) (by decide +kernel) (by decide +kernel) (by decide +kernel) (by decide +kernel) dX4_checkPartition_11 dX4_checkPartition_14 dX4_checkPartition_15 dX4_checkPartition_17 dX4_checkPartition_20 ⟨2, rfl, rfl⟩ (by decide) (by decide) (by decide) (by decide) (by decide) (by decide)
  · replace hM := it_n hcc hM
    refine lv_iload_n hx hb dX4_checkPartition_5 rfl (lv_at hl 0 rfl) ?_
    refine lv_bipush (v := 9) hx hb dX4_checkPartition_6 (by decide) ?_
    refine lv_icmp_le (tgt := 21) hx hb dX4_checkPartition_8 (by decide) (fun hcc => ?_) (fun hcc => ?_)
    · replace hM := it_p hcc hM
      refine lv_iload_n hx hb dX4_checkPartition_21 rfl (lv_at hl 1 rfl) ?_
      refine lv_iconst (v := 1) hx hb dX4_checkPartition_22 (by decide) ?_
      refine lv_icmp_lt (tgt := 32) hx hb dX4_checkPartition_23 (by decide) (fun hcc => ?_) (fun hcc => ?_)
      · replace hM := it_p hcc hM
        obtain rfl := Option.some.inj hM
        exact thr (cls := xIA) (text := "the sum is not 1 to 45") (ik := 25) (is := 158) (ic := 29) (Ts := wsX4_checkPartition) (px := fun E => ∃ k, _ = Sum.inl k ∧ E = en k) hx hb hlt hQ hAe (hml.trans hl.1.symm) hown hts hlocks hout hTX hP hD hS (by decide) (by decide +kernel) (by decide +kernel) (by decide +kernel) (by decide +kernel) (by decide +kernel) (by decide +kernel) dX4_checkPartition_32 dX4_checkPartition_35 dX4_checkPartition_36 dX4_checkPartition_38 dX4_checkPartition_41 ⟨2, rfl, rfl⟩ (by decide) (by decide) (by decide) (by decide) (by decide) (by decide)
      · replace hM := it_n hcc hM
        refine lv_iload_n hx hb dX4_checkPartition_26 rfl (lv_at hl 1 rfl) ?_
        refine lv_bipush (v := 45) hx hb dX4_checkPartition_27 (by decide) ?_
        refine lv_icmp_le (tgt := 42) hx hb dX4_checkPartition_29 (by decide) (fun hcc => ?_) (fun hcc => ?_)
        · replace hM := it_p hcc hM
          obtain rfl := Option.some.inj hM
          subst hQ hAe
          refine vx_ret ?_
          refine W.widen (k := 1) (n := 6) (by decide) (by decide) ?_
          exact W.vret hx hb hr (fun t ht hW => ⟨⟨((), ((0, 0, 0), (0, 0, 0))), rfl, rfl, ⟨by rw [ht]; exact hP, hD⟩⟩, hS.F ht⟩) hS.2.2 dX4_checkPartition_42
        · replace hM := it_n hcc hM
          obtain rfl := Option.some.inj hM
          exact thr (cls := xIA) (text := "the sum is not 1 to 45") (ik := 25) (is := 158) (ic := 29) (Ts := wsX4_checkPartition) (px := fun E => ∃ k, _ = Sum.inl k ∧ E = en k) hx hb hlt hQ hAe (hml.trans hl.1.symm) hown hts hlocks hout hTX hP hD hS (by decide) (by decide +kernel) (by decide +kernel) (by decide +kernel) (by decide +kernel) (by decide +kernel) (by decide +kernel) dX4_checkPartition_32 dX4_checkPartition_35 dX4_checkPartition_36 dX4_checkPartition_38 dX4_checkPartition_41 ⟨2, rfl, rfl⟩ (by decide) (by decide) (by decide) (by decide) (by decide) (by decide)
    · replace hM := it_n hcc hM
      obtain rfl := Option.some.inj hM
      exact thr (cls := xIA) (text := "there are not 1 to 9 cells") (ik := 25) (is := 156) (ic := 29) (Ts := wsX4_checkPartition) (px := fun E => ∃ k, _ = Sum.inl k ∧ E = en k) hx hb hlt hQ hAe (hml.trans hl.1.symm) hown hts hlocks hout hTX hP hD hS (by decide) (by decide +kernel) (by decide +kernel) (by decide +kernel) (by decide +kernel) (by decide +kernel) (by decide +kernel) dX4_checkPartition_11 dX4_checkPartition_14 dX4_checkPartition_15 dX4_checkPartition_17 dX4_checkPartition_20 ⟨2, rfl, rfl⟩ (by decide) (by decide) (by decide) (by decide) (by decide) (by decide)
def mX4_setFloor (N : Nat) (fr : Int32) (st : RowI) (co : Int32) (ro : Int32) (cA : CS) (cD : CS) (p1 : Int32) (p2 : Int32) : Option (Nat ⊕ (Int32 × Int32 × RowI × Int32 × Int32 × CS × CS)) :=
  (if p1 < (2 : Int32) then
  some (.inl 2)
  else
  (if (6 : Int32) < p1 then
  some (.inl 2)
  else
  (if p2 < (2 : Int32) then
  some (.inl 2)
  else
  (if p2 ≤ (6 : Int32) then
  ((mX3_forget N fr).bind fun x36 =>
  ((mX1_clear N st co ro cA cD p1 p2).bind fun x45 =>
  ((mX1_cells N x45.2.1 x45.2.2.1).bind fun x52 =>
  some (.inr (x52, x36, x45.1, x45.2.1, x45.2.2.1, x45.2.2.2.1, x45.2.2.2.2)))))
  else
  some (.inl 2)))))
abbrev rmX4_setFloor : Room := { frames := 6, cells := 1, slots := 6, locals := 96 }
set_option maxHeartbeats 4000000 in
set_option maxRecDepth 100000 in
theorem kX4_setFloor {l : Launch} {D : va_G} {cI cJ : ClassId} (hlt : l.stackTraces = false) (N : Nat) (a : Nat → Nat) {ho : RowI} {ke : RowI} {hc : Int32} {tr : Int32} {fo : Int32} {fr : Int32} {st : RowI} {co : Int32} {ro : Int32} {cA : CS} {cD : CS} {su : RowJ} {jA : JT} {jD : JT} {p1 : Int32} {p2 : Int32} {o : (Nat ⊕ (Int32 × Int32 × RowI × Int32 × Int32 × CS × CS))} (hM : mX4_setFloor N fr st co ro cA cD p1 p2 = some o) (sz : Nat) : vx_Met l yX4_setFloor wsX4_setFloor rmX4_setFloor (va_Pc [.ref (a 15), .int p1, .int p2] (PreT D cI cJ (xw a cI cJ ho ke hc tr fo fr st co ro cA cD su jA jD) sz)) (va_Qi (fun (r : Int32) (u : (Int32 × Int32 × RowI × Int32 × Int32 × CS × CS) × (JT × JT)) => o = .inr u.1 ∧ r = u.1.1) (aft D (xw a cI cJ ho ke hc tr fo fr st co ro cA cD su jA jD) sz (fun (u : (Int32 × Int32 × RowI × Int32 × Int32 × CS × CS) × (JT × JT)) => (xw a cI cJ ho ke hc tr fo u.1.2.1 u.1.2.2.1 u.1.2.2.2.1 u.1.2.2.2.2.1 u.1.2.2.2.2.2.1 u.1.2.2.2.2.2.2 su jA jD))) (va_A (xw a cI cJ ho ke hc tr fo fr st co ro cA cD su jA jD) sz)) (aftX D (fun E => ∃ k, o = .inl k ∧ E = en k) (xw a cI cJ ho ke hc tr fo fr st co ro cA cD su jA jD) sz) 1 6 (va_A (xw a cI cJ ho ke hc tr fo fr st co ro cA cD su jA jD) sz) := by
  refine xofT (cc := cX4_setFloor) (maxL := 3) (ret := (some .int)) rfl (by decide) rfl ?_
  intro p e s m args below meth c ls Q A hQ hAe hx hb hr hml hown hts hlocks hout hTX hN hK H locs hP hD hS hA hl
  replace hown : s.vm.findClass RX4 = some m.cls := hown
  replace hl : lv_has ls 3 [(0, .ref (a 15)), (1, .int p1), (2, .int p2)] := hl
  have iX4 : ∀ w ∈ wsX40, w ∈ wsX4_setFloor := by decide +kernel
  have f10 := hts (.fieldLink RX4 10 "CryptSums" "floor" "LCryptSums$Floor;") (by decide +kernel)
  have f21 := hts (.fieldLink RX4 21 "CryptSums" "search" "LCryptSums$Search;") (by decide +kernel)
  rw [mX4_setFloor] at hM
  refine lv_iload_n hx hb dX4_setFloor_0 rfl (lv_at hl 1 rfl) ?_
  refine lv_iconst (v := 2) hx hb dX4_setFloor_1 (by decide) ?_
  refine lv_icmp_lt (tgt := 22) hx hb dX4_setFloor_2 (by decide) (fun hcc => ?_) (fun hcc => ?_)
  · replace hM := it_p hcc hM
    obtain rfl := Option.some.inj hM
    exact thr (cls := xIA) (text := "a side is not 2 to 6") (ik := 25) (is := 27) (ic := 29) (Ts := wsX4_setFloor) (px := fun E => ∃ k, _ = Sum.inl k ∧ E = en k) hx hb hlt hQ hAe (hml.trans hl.1.symm) hown hts hlocks hout hTX hP hD hS (by decide) (by decide +kernel) (by decide +kernel) (by decide +kernel) (by decide +kernel) (by decide +kernel) (by decide +kernel) dX4_setFloor_22 dX4_setFloor_25 dX4_setFloor_26 dX4_setFloor_28 dX4_setFloor_31 ⟨2, rfl, rfl⟩ (by decide) (by decide) (by decide) (by decide) (by decide) (by decide)
  · replace hM := it_n hcc hM
    refine lv_iload_n hx hb dX4_setFloor_5 rfl (lv_at hl 1 rfl) ?_
    refine lv_bipush (v := 6) hx hb dX4_setFloor_6 (by decide) ?_
    refine lv_icmp_gt (tgt := 22) hx hb dX4_setFloor_8 (by decide) (fun hcc => ?_) (fun hcc => ?_)
    · replace hM := it_p hcc hM
      obtain rfl := Option.some.inj hM
      exact thr (cls := xIA) (text := "a side is not 2 to 6") (ik := 25) (is := 27) (ic := 29) (Ts := wsX4_setFloor) (px := fun E => ∃ k, _ = Sum.inl k ∧ E = en k) hx hb hlt hQ hAe (hml.trans hl.1.symm) hown hts hlocks hout hTX hP hD hS (by decide) (by decide +kernel) (by decide +kernel) (by decide +kernel) (by decide +kernel) (by decide +kernel) (by decide +kernel) dX4_setFloor_22 dX4_setFloor_25 dX4_setFloor_26 dX4_setFloor_28 dX4_setFloor_31 ⟨2, rfl, rfl⟩ (by decide) (by decide) (by decide) (by decide) (by decide) (by decide)
    · replace hM := it_n hcc hM
      refine lv_iload_n hx hb dX4_setFloor_11 rfl (lv_at hl 2 rfl) ?_
      refine lv_iconst (v := 2) hx hb dX4_setFloor_12 (by decide) ?_
      refine lv_icmp_lt (tgt := 22) hx hb dX4_setFloor_13 (by decide) (fun hcc => ?_) (fun hcc => ?_)
      · replace hM := it_p hcc hM
        obtain rfl := Option.some.inj hM
        exact thr (cls := xIA) (text := "a side is not 2 to 6") (ik := 25) (is := 27) (ic := 29) (Ts := wsX4_setFloor) (px := fun E => ∃ k, _ = Sum.inl k ∧ E = en k) hx hb hlt hQ hAe (hml.trans hl.1.symm) hown hts hlocks hout hTX hP hD hS (by decide) (by decide +kernel) (by decide +kernel) (by decide +kernel) (by decide +kernel) (by decide +kernel) (by decide +kernel) dX4_setFloor_22 dX4_setFloor_25 dX4_setFloor_26 dX4_setFloor_28 dX4_setFloor_31 ⟨2, rfl, rfl⟩ (by decide) (by decide) (by decide) (by decide) (by decide) (by decide)
      · replace hM := it_n hcc hM
        refine lv_iload_n hx hb dX4_setFloor_16 rfl (lv_at hl 2 rfl) ?_
        refine lv_bipush (v := 6) hx hb dX4_setFloor_17 (by decide) ?_
        refine lv_icmp_le (tgt := 32) hx hb dX4_setFloor_19 (by decide) (fun hcc => ?_) (fun hcc => ?_)
        · replace hM := it_p hcc hM
          refine lv_aload_n hx hb dX4_setFloor_32 rfl (lv_at hl 0 rfl) ?_
          refine va_get (D := D) (ci := 4) (v := .ref (a 12)) (C := RX4) (T := TX4) (N := 2) hx hb hts iX4 hown hK hP 3 rfl rfl 1 (by decide) f21 (fun _ h9 => h9) rfl dX4_setFloor_33 ?_
          obtain ⟨x36, hC, hM⟩ := bd_s hM
          refine cW_v [0, 1, 2, 3, 4, 5, 6, 7, 8, 9, 10, 11, 12, 13, 14, 15] [] (va_runV (As := []) (rest := []) ⟨hx, hb, hml, hown, hts⟩ (kX3_forget (l := l) (D := D) (cI := cI) (cJ := cJ) N a (ho := ho) (ke := ke) (hc := hc) (tr := tr) (fo := fo) (fr := fr) (st := st) (co := co) (ro := ro) (cA := cA) (cD := cD) (su := su) (jA := jA) (jD := jD) hC H.size) (cwV 0 hts gX4_setFloor_X3_forget rfl rfl rfl (by decide +kernel) ⟨Nat.le_of_ble_eq_true rfl, Nat.le_of_ble_eq_true rfl⟩) (preV [] hN hK hP hD (ci := 3) (q0 := 0) rfl rfl) rfl rfl hl.1 rfl (lv_room (Nat.le_of_ble_eq_true rfl)) dX4_setFloor_36 ⟨Nat.le_of_ble_eq_true rfl, Nat.le_of_ble_eq_true rfl⟩) hP hD hS hA rfl (wr := []) rfl (by decide) (by decide) (fun u36 H locs hw hP hD hS => ?_)
          replace hP : va_P D vwCl (xw a cI cJ ho ke hc tr fo x36 st co ro cA cD su jA jD) H := hP
          replace hD : va_D A (xw a cI cJ ho ke hc tr fo x36 st co ro cA cD su jA jD) := hD
          refine lv_aload_n hx hb dX4_setFloor_39 rfl (lv_at hl 0 rfl) ?_
          refine va_get (D := D) (ci := 4) (v := .ref (a 0)) (C := RX4) (T := TX4) (N := 2) hx hb hts iX4 hown hK hP 3 rfl rfl 0 (by decide) f10 (fun _ h9 => h9) rfl dX4_setFloor_40 ?_
          refine lv_iload_n hx hb dX4_setFloor_43 rfl (lv_at hl 1 rfl) ?_
          refine lv_iload_n hx hb dX4_setFloor_44 rfl (lv_at hl 2 rfl) ?_
          obtain ⟨x45, hC, hM⟩ := bd_s hM
          refine cW_v [4, 5, 6, 7, 8, 9, 10, 11, 12, 13, 14, 15] [0, 1, 2, 3] (va_runV (As := [.int p1, .int p2]) (rest := []) ⟨hx, hb, hml, hown, hts⟩ (kX1_clear (l := l) (D := D) (cI := cI) (cJ := cJ) N a (st := st) (co := co) (ro := ro) (cA := cA) (cD := cD) (su := su) (jA := jA) (jD := jD) (p1 := p1) (p2 := p2) hC H.size) (cwV 2 hts gX4_setFloor_X1_clear rfl rfl rfl (by decide +kernel) ⟨Nat.le_of_ble_eq_true rfl, Nat.le_of_ble_eq_true rfl⟩) (preV [.int p1, .int p2] hN hK (hP.sub (ws' := (fw a cI cJ st co ro cA cD su jA jD)) [4, 5, 6, 7, 8, 9, 10, 11, 12, 13, 14, 15] rfl) (hD.sub (ws' := (fw a cI cJ st co ro cA cD su jA jD)) [4, 5, 6, 7, 8, 9, 10, 11, 12, 13, 14, 15] (by decide) rfl) (ci := 1) (q0 := 0) rfl rfl) rfl rfl hl.1 rfl (lv_room (Nat.le_of_ble_eq_true rfl)) dX4_setFloor_45 ⟨Nat.le_of_ble_eq_true rfl, Nat.le_of_ble_eq_true rfl⟩) hP hD hS hA rfl (wr := ((xw a cI cJ ho ke hc tr fo x36 st co ro cA cD su jA jD)).take 4) rfl (by decide) (by decide) (fun u45 H locs hw hP hD hS => ?_)
          replace hP : va_P D vwCl (xw a cI cJ ho ke hc tr fo x36 x45.1 x45.2.1 x45.2.2.1 x45.2.2.2.1 x45.2.2.2.2 su jA jD) H := hP
          replace hD : va_D A (xw a cI cJ ho ke hc tr fo x36 x45.1 x45.2.1 x45.2.2.1 x45.2.2.2.1 x45.2.2.2.2 su jA jD) := hD
          refine lv_aload_n hx hb dX4_setFloor_48 rfl (lv_at hl 0 rfl) ?_
          refine va_get (D := D) (ci := 4) (v := .ref (a 0)) (C := RX4) (T := TX4) (N := 2) hx hb hts iX4 hown hK hP 3 rfl rfl 0 (by decide) f10 (fun _ h9 => h9) rfl dX4_setFloor_49 ?_
          obtain ⟨x52, hC, hM⟩ := bd_s hM
          refine cR_i (va_runV (As := []) (rest := []) ⟨hx, hb, hml, hown, hts⟩ (kX1_cells (l := l) (D := D) (cI := cI) (cJ := cJ) N a (st := x45.1) (co := x45.2.1) (ro := x45.2.2.1) (cA := x45.2.2.2.1) (cD := x45.2.2.2.2) (su := su) (jA := jA) (jD := jD) hC H.size) (cwV 0 hts gX4_setFloor_X1_cells rfl rfl rfl (by decide +kernel) ⟨Nat.le_of_ble_eq_true rfl, Nat.le_of_ble_eq_true rfl⟩) (preV [] hN hK (hP.sub (ws' := (fw a cI cJ x45.1 x45.2.1 x45.2.2.1 x45.2.2.2.1 x45.2.2.2.2 su jA jD)) [4, 5, 6, 7, 8, 9, 10, 11, 12, 13, 14, 15] rfl) (hD.sub (ws' := (fw a cI cJ x45.1 x45.2.1 x45.2.2.1 x45.2.2.2.1 x45.2.2.2.2 su jA jD)) [4, 5, 6, 7, 8, 9, 10, 11, 12, 13, 14, 15] (by decide) rfl) (ci := 1) (q0 := 0) rfl rfl) rfl rfl hl.1 rfl (lv_room (Nat.le_of_ble_eq_true rfl)) dX4_setFloor_52 ⟨Nat.le_of_ble_eq_true rfl, Nat.le_of_ble_eq_true rfl⟩) hP hS (fun r u H locs hw hP hS => ?_)
          rw [hw]
          obtain rfl := Option.some.inj hM
          subst hQ hAe
          refine vx_ret ?_
          refine W.widen (k := 1) (n := 6) (by decide) (by decide) ?_
          exact W.iret (v := x52) hx hb hr (fun t ht hW => ⟨⟨x52, ((x52, x36, x45.1, x45.2.1, x45.2.2.1, x45.2.2.2.1, x45.2.2.2.2), (jA, jD)), rfl, ⟨rfl, rfl⟩, ⟨by rw [ht]; exact hP, hD⟩⟩, hS.F ht⟩) hS.2.2 dX4_setFloor_55
        · replace hM := it_n hcc hM
          obtain rfl := Option.some.inj hM
          exact thr (cls := xIA) (text := "a side is not 2 to 6") (ik := 25) (is := 27) (ic := 29) (Ts := wsX4_setFloor) (px := fun E => ∃ k, _ = Sum.inl k ∧ E = en k) hx hb hlt hQ hAe (hml.trans hl.1.symm) hown hts hlocks hout hTX hP hD hS (by decide) (by decide +kernel) (by decide +kernel) (by decide +kernel) (by decide +kernel) (by decide +kernel) (by decide +kernel) dX4_setFloor_22 dX4_setFloor_25 dX4_setFloor_26 dX4_setFloor_28 dX4_setFloor_31 ⟨2, rfl, rfl⟩ (by decide) (by decide) (by decide) (by decide) (by decide) (by decide)
def mX4_pillar (N : Nat) (fr : Int32) (st : RowI) (co : Int32) (ro : Int32) (cA : CS) (cD : CS) (p1 : Int32) : Option (Nat ⊕ (Int32 × Int32 × RowI × CS × CS)) :=
  ((mX4_checkCell N co ro p1).bind fun x2 => Sum.elim (fun k => some (.inl k)) (fun y2 =>
  ((mX3_forget N fr).bind fun x9 =>
  ((mX1_turnPillar N st co ro cA cD p1).bind fun x17 =>
  ((mX1_isPillar N x17.1 p1).bind fun x25 =>
  some (.inr (x25, x9, x17.1, x17.2.1, x17.2.2)))))) x2)
abbrev rmX4_pillar : Room := { frames := 7, cells := 1, slots := 6, locals := 117 }
set_option maxHeartbeats 4000000 in
set_option maxRecDepth 100000 in
theorem kX4_pillar {l : Launch} {D : va_G} {cI cJ : ClassId} (hlt : l.stackTraces = false) (N : Nat) (a : Nat → Nat) {ho : RowI} {ke : RowI} {hc : Int32} {tr : Int32} {fo : Int32} {fr : Int32} {st : RowI} {co : Int32} {ro : Int32} {cA : CS} {cD : CS} {su : RowJ} {jA : JT} {jD : JT} {p1 : Int32} {o : (Nat ⊕ (Int32 × Int32 × RowI × CS × CS))} (hM : mX4_pillar N fr st co ro cA cD p1 = some o) (sz : Nat) : vx_Met l yX4_pillar wsX4_pillar rmX4_pillar (va_Pc [.ref (a 15), .int p1] (PreT D cI cJ (xw a cI cJ ho ke hc tr fo fr st co ro cA cD su jA jD) sz)) (va_Qi (fun (r : Int32) (u : (Int32 × Int32 × RowI × CS × CS) × (JT × JT)) => o = .inr u.1 ∧ r = u.1.1 ∧ bz r) (aft D (xw a cI cJ ho ke hc tr fo fr st co ro cA cD su jA jD) sz (fun (u : (Int32 × Int32 × RowI × CS × CS) × (JT × JT)) => (xw a cI cJ ho ke hc tr fo u.1.2.1 u.1.2.2.1 co ro u.1.2.2.2.1 u.1.2.2.2.2 su jA jD))) (va_A (xw a cI cJ ho ke hc tr fo fr st co ro cA cD su jA jD) sz)) (aftX D (fun E => ∃ k, o = .inl k ∧ E = en k) (xw a cI cJ ho ke hc tr fo fr st co ro cA cD su jA jD) sz) 1 6 (va_A (xw a cI cJ ho ke hc tr fo fr st co ro cA cD su jA jD) sz) := by
  refine xofT (cc := cX4_pillar) (maxL := 2) (ret := (some .boolean)) rfl (by decide) rfl ?_
  intro p e s m args below meth c ls Q A hQ hAe hx hb hr hml hown hts hlocks hout hTX hN hK H locs hP hD hS hA hl
  replace hown : s.vm.findClass RX4 = some m.cls := hown
  replace hl : lv_has ls 2 [(0, .ref (a 15)), (1, .int p1)] := hl
  have iX4 : ∀ w ∈ wsX40, w ∈ wsX4_pillar := by decide +kernel
  have f10 := hts (.fieldLink RX4 10 "CryptSums" "floor" "LCryptSums$Floor;") (by decide +kernel)
  have f21 := hts (.fieldLink RX4 21 "CryptSums" "search" "LCryptSums$Search;") (by decide +kernel)
  rw [mX4_pillar] at hM
  refine lv_aload_n hx hb dX4_pillar_0 rfl (lv_at hl 0 rfl) ?_
  refine lv_iload_n hx hb dX4_pillar_1 rfl (lv_at hl 1 rfl) ?_
  obtain ⟨x2, hC, hM⟩ := bd_s hM
  refine cT_v [0, 1, 2, 3, 4, 5, 6, 7, 8, 9, 10, 11, 12, 13, 14, 15] [] [0, 1, 2, 3, 4, 5, 6, 7, 8, 9, 10, 11, 12, 13, 14, 15] (vx_runV (As := [.int p1]) (rest := []) ⟨hx, hb, hml, hown, hts⟩ (kX4_checkCell (l := l) (D := D) (cI := cI) (cJ := cJ) hlt N a (ho := ho) (ke := ke) (hc := hc) (tr := tr) (fo := fo) (fr := fr) (st := st) (co := co) (ro := ro) (cA := cA) (cD := cD) (su := su) (jA := jA) (jD := jD) (p1 := p1) hC H.size) (cwV 1 hts gX4_pillar_X4_checkCell rfl rfl rfl (by decide +kernel) ⟨Nat.le_of_ble_eq_true rfl, Nat.le_of_ble_eq_true rfl⟩) (preVT [.int p1] hTX hS (va_free (wc := (xw a cI cJ ho ke hc tr fo fr st co ro cA cD su jA jD)) hD hS hA [0, 1, 2, 3, 4, 5, 6, 7, 8, 9, 10, 11, 12, 13, 14, 15] rfl) hN hK hP hD (ci := 4) (q0 := 3) rfl rfl) rfl rfl hl.1 rfl (lv_room (Nat.le_of_ble_eq_true rfl)) dX4_pillar_2 ⟨Nat.le_of_ble_eq_true rfl, Nat.le_of_ble_eq_true rfl⟩) hP hD hS hA rfl (wr := []) rfl (by decide) (by decide) rfl (by decide) rfl (fun E ce q9 H locs hE hP hD hS h1 h2 h3 => ?_) (fun u2 H locs hw hP hD hS => ?_)
  · obtain ⟨k, hk, hE⟩ := hE
    subst hk
    obtain rfl := Option.some.inj (show some (Sum.inl k) = some o from hM)
    exact thr_on (px := fun E => ∃ k, _ = Sum.inl k ∧ E = en k) hQ hAe hout hlocks ⟨k, rfl, hE⟩ hP hD hS h1 h2 h3 (by decide) (by decide)
  have hxx := hw
  subst hxx
  dsimp only [Sum.elim] at hM
  replace hP : va_P D vwCl (xw a cI cJ ho ke hc tr fo fr st co ro cA cD su jA jD) H := hP
  replace hD : va_D A (xw a cI cJ ho ke hc tr fo fr st co ro cA cD su jA jD) := hD
  refine lv_aload_n hx hb dX4_pillar_5 rfl (lv_at hl 0 rfl) ?_
  refine va_get (D := D) (ci := 4) (v := .ref (a 12)) (C := RX4) (T := TX4) (N := 2) hx hb hts iX4 hown hK hP 3 rfl rfl 1 (by decide) f21 (fun _ h9 => h9) rfl dX4_pillar_6 ?_
  obtain ⟨x9, hC, hM⟩ := bd_s hM
  refine cW_v [0, 1, 2, 3, 4, 5, 6, 7, 8, 9, 10, 11, 12, 13, 14, 15] [] (va_runV (As := []) (rest := []) ⟨hx, hb, hml, hown, hts⟩ (kX3_forget (l := l) (D := D) (cI := cI) (cJ := cJ) N a (ho := ho) (ke := ke) (hc := hc) (tr := tr) (fo := fo) (fr := fr) (st := st) (co := co) (ro := ro) (cA := cA) (cD := cD) (su := su) (jA := jA) (jD := jD) hC H.size) (cwV 0 hts gX4_pillar_X3_forget rfl rfl rfl (by decide +kernel) ⟨Nat.le_of_ble_eq_true rfl, Nat.le_of_ble_eq_true rfl⟩) (preV [] hN hK hP hD (ci := 3) (q0 := 0) rfl rfl) rfl rfl hl.1 rfl (lv_room (Nat.le_of_ble_eq_true rfl)) dX4_pillar_9 ⟨Nat.le_of_ble_eq_true rfl, Nat.le_of_ble_eq_true rfl⟩) hP hD hS hA rfl (wr := []) rfl (by decide) (by decide) (fun u9 H locs hw hP hD hS => ?_)
  replace hP : va_P D vwCl (xw a cI cJ ho ke hc tr fo x9 st co ro cA cD su jA jD) H := hP
  replace hD : va_D A (xw a cI cJ ho ke hc tr fo x9 st co ro cA cD su jA jD) := hD
  refine lv_aload_n hx hb dX4_pillar_12 rfl (lv_at hl 0 rfl) ?_
  refine va_get (D := D) (ci := 4) (v := .ref (a 0)) (C := RX4) (T := TX4) (N := 2) hx hb hts iX4 hown hK hP 3 rfl rfl 0 (by decide) f10 (fun _ h9 => h9) rfl dX4_pillar_13 ?_
  refine lv_iload_n hx hb dX4_pillar_16 rfl (lv_at hl 1 rfl) ?_
  obtain ⟨x17, hC, hM⟩ := bd_s hM
  refine cW_v [4, 5, 6, 7, 8, 9, 10, 11, 12, 13, 14, 15] [0, 1, 2, 3] (va_runV (As := [.int p1]) (rest := []) ⟨hx, hb, hml, hown, hts⟩ (kX1_turnPillar (l := l) (D := D) (cI := cI) (cJ := cJ) N a (st := st) (co := co) (ro := ro) (cA := cA) (cD := cD) (su := su) (jA := jA) (jD := jD) (p1 := p1) hC H.size) (cwV 1 hts gX4_pillar_X1_turnPillar rfl rfl rfl (by decide +kernel) ⟨Nat.le_of_ble_eq_true rfl, Nat.le_of_ble_eq_true rfl⟩) (preV [.int p1] hN hK (hP.sub (ws' := (fw a cI cJ st co ro cA cD su jA jD)) [4, 5, 6, 7, 8, 9, 10, 11, 12, 13, 14, 15] rfl) (hD.sub (ws' := (fw a cI cJ st co ro cA cD su jA jD)) [4, 5, 6, 7, 8, 9, 10, 11, 12, 13, 14, 15] (by decide) rfl) (ci := 1) (q0 := 0) rfl rfl) rfl rfl hl.1 rfl (lv_room (Nat.le_of_ble_eq_true rfl)) dX4_pillar_17 ⟨Nat.le_of_ble_eq_true rfl, Nat.le_of_ble_eq_true rfl⟩) hP hD hS hA rfl (wr := ((xw a cI cJ ho ke hc tr fo x9 st co ro cA cD su jA jD)).take 4) rfl (by decide) (by decide) (fun u17 H locs hw hP hD hS => ?_)
  replace hP : va_P D vwCl (xw a cI cJ ho ke hc tr fo x9 x17.1 co ro x17.2.1 x17.2.2 su jA jD) H := hP
  replace hD : va_D A (xw a cI cJ ho ke hc tr fo x9 x17.1 co ro x17.2.1 x17.2.2 su jA jD) := hD
  refine lv_aload_n hx hb dX4_pillar_20 rfl (lv_at hl 0 rfl) ?_
  refine va_get (D := D) (ci := 4) (v := .ref (a 0)) (C := RX4) (T := TX4) (N := 2) hx hb hts iX4 hown hK hP 3 rfl rfl 0 (by decide) f10 (fun _ h9 => h9) rfl dX4_pillar_21 ?_
  refine lv_iload_n hx hb dX4_pillar_24 rfl (lv_at hl 1 rfl) ?_
  obtain ⟨x25, hC, hM⟩ := bd_s hM
  refine cR_i (va_runV (As := [.int p1]) (rest := []) ⟨hx, hb, hml, hown, hts⟩ (kX1_isPillar (l := l) (D := D) (cI := cI) (cJ := cJ) N a (st := x17.1) (co := co) (ro := ro) (cA := x17.2.1) (cD := x17.2.2) (su := su) (jA := jA) (jD := jD) (p1 := p1) hC H.size) (cwV 1 hts gX4_pillar_X1_isPillar rfl rfl rfl (by decide +kernel) ⟨Nat.le_of_ble_eq_true rfl, Nat.le_of_ble_eq_true rfl⟩) (preV [.int p1] hN hK (hP.sub (ws' := (fw a cI cJ x17.1 co ro x17.2.1 x17.2.2 su jA jD)) [4, 5, 6, 7, 8, 9, 10, 11, 12, 13, 14, 15] rfl) (hD.sub (ws' := (fw a cI cJ x17.1 co ro x17.2.1 x17.2.2 su jA jD)) [4, 5, 6, 7, 8, 9, 10, 11, 12, 13, 14, 15] (by decide) rfl) (ci := 1) (q0 := 0) rfl rfl) rfl rfl hl.1 rfl (lv_room (Nat.le_of_ble_eq_true rfl)) dX4_pillar_25 ⟨Nat.le_of_ble_eq_true rfl, Nat.le_of_ble_eq_true rfl⟩) hP hS (fun r u H locs hw hP hS => ?_)
  obtain ⟨hw, hz25⟩ := hw
  rw [hw] at hz25
  rw [hw]
  obtain rfl := Option.some.inj hM
  subst hQ hAe
  refine vx_ret ?_
  refine W.widen (k := 1) (n := 6) (by decide) (by decide) ?_
  exact W.zret (ty := .boolean) (v := x25) hx hb hr (nb_z (hz25)) (fun t ht hW => ⟨⟨x25, ((x25, x9, x17.1, x17.2.1, x17.2.2), (jA, jD)), rfl, ⟨rfl, rfl, hz25⟩, ⟨by rw [ht]; exact hP, hD⟩⟩, hS.F ht⟩) hS.2.2 dX4_pillar_28
def mX4_setSum (N : Nat) (fr : Int32) (co : Int32) (ro : Int32) (cA : CS) (cD : CS) (p1 : Int32) (p2 : Int32) (p3 : Int32) : Option (Nat ⊕ (Int32 × Int32 × CS × CS)) :=
  ((mX4_checkCell N co ro p1).bind fun x2 => Sum.elim (fun k => some (.inl k)) (fun y2 =>
  (if p3 < 0 then
  some (.inl 2)
  else
  (if p3 ≤ (45 : Int32) then
  ((mX3_forget N fr).bind fun x29 =>
  (if p2 = 0 then
  ((mX0_tellSum N cA p1 p3).bind fun x42 =>
  some (.inr (x42.1, x29, x42.2, cD)))
  else
  ((mX0_tellSum N cD p1 p3).bind fun x42 =>
  some (.inr (x42.1, x29, cA, x42.2)))))
  else
  some (.inl 2)))) x2)
abbrev rmX4_setSum : Room := { frames := 7, cells := 2, slots := 12, locals := 117 }
set_option maxHeartbeats 4000000 in
set_option maxRecDepth 100000 in
theorem kX4_setSum {l : Launch} {D : va_G} {cI cJ : ClassId} (hlt : l.stackTraces = false) (N : Nat) (a : Nat → Nat) {ho : RowI} {ke : RowI} {hc : Int32} {tr : Int32} {fo : Int32} {fr : Int32} {st : RowI} {co : Int32} {ro : Int32} {cA : CS} {cD : CS} {su : RowJ} {jA : JT} {jD : JT} {p1 : Int32} {p2 : Int32} {p3 : Int32} {o : (Nat ⊕ (Int32 × Int32 × CS × CS))} (hM : mX4_setSum N fr co ro cA cD p1 p2 p3 = some o) (sz : Nat) : vx_Met l yX4_setSum wsX4_setSum rmX4_setSum (va_Pc [.ref (a 15), .int p1, .int p2, .int p3] (PreT D cI cJ (xw a cI cJ ho ke hc tr fo fr st co ro cA cD su jA jD) sz)) (va_Qi (fun (r : Int32) (u : (Int32 × Int32 × CS × CS) × (JT × JT)) => o = .inr u.1 ∧ r = u.1.1) (aft D (xw a cI cJ ho ke hc tr fo fr st co ro cA cD su jA jD) sz (fun (u : (Int32 × Int32 × CS × CS) × (JT × JT)) => (xw a cI cJ ho ke hc tr fo u.1.2.1 st co ro u.1.2.2.1 u.1.2.2.2 su jA jD))) (va_A (xw a cI cJ ho ke hc tr fo fr st co ro cA cD su jA jD) sz)) (aftX D (fun E => ∃ k, o = .inl k ∧ E = en k) (xw a cI cJ ho ke hc tr fo fr st co ro cA cD su jA jD) sz) 2 12 (va_A (xw a cI cJ ho ke hc tr fo fr st co ro cA cD su jA jD) sz) := by
  refine xofT (cc := cX4_setSum) (maxL := 4) (ret := (some .int)) rfl (by decide) rfl ?_
  intro p e s m args below meth c ls Q A hQ hAe hx hb hr hml hown hts hlocks hout hTX hN hK H locs hP hD hS hA hl
  replace hown : s.vm.findClass RX4 = some m.cls := hown
  replace hl : lv_has ls 4 [(0, .ref (a 15)), (1, .int p1), (2, .int p2), (3, .int p3)] := hl
  have iX4 : ∀ w ∈ wsX40, w ∈ wsX4_setSum := by decide +kernel
  have f10 := hts (.fieldLink RX4 10 "CryptSums" "floor" "LCryptSums$Floor;") (by decide +kernel)
  have f21 := hts (.fieldLink RX4 21 "CryptSums" "search" "LCryptSums$Search;") (by decide +kernel)
  rw [mX4_setSum] at hM
  refine lv_aload_n hx hb dX4_setSum_0 rfl (lv_at hl 0 rfl) ?_
  refine lv_iload_n hx hb dX4_setSum_1 rfl (lv_at hl 1 rfl) ?_
  obtain ⟨x2, hC, hM⟩ := bd_s hM
  refine cT_v [0, 1, 2, 3, 4, 5, 6, 7, 8, 9, 10, 11, 12, 13, 14, 15] [] [0, 1, 2, 3, 4, 5, 6, 7, 8, 9, 10, 11, 12, 13, 14, 15] (vx_runV (As := [.int p1]) (rest := []) ⟨hx, hb, hml, hown, hts⟩ (kX4_checkCell (l := l) (D := D) (cI := cI) (cJ := cJ) hlt N a (ho := ho) (ke := ke) (hc := hc) (tr := tr) (fo := fo) (fr := fr) (st := st) (co := co) (ro := ro) (cA := cA) (cD := cD) (su := su) (jA := jA) (jD := jD) (p1 := p1) hC H.size) (cwV 1 hts gX4_setSum_X4_checkCell rfl rfl rfl (by decide +kernel) ⟨Nat.le_of_ble_eq_true rfl, Nat.le_of_ble_eq_true rfl⟩) (preVT [.int p1] hTX hS (va_free (wc := (xw a cI cJ ho ke hc tr fo fr st co ro cA cD su jA jD)) hD hS hA [0, 1, 2, 3, 4, 5, 6, 7, 8, 9, 10, 11, 12, 13, 14, 15] rfl) hN hK hP hD (ci := 4) (q0 := 3) rfl rfl) rfl rfl hl.1 rfl (lv_room (Nat.le_of_ble_eq_true rfl)) dX4_setSum_2 ⟨Nat.le_of_ble_eq_true rfl, Nat.le_of_ble_eq_true rfl⟩) hP hD hS hA rfl (wr := []) rfl (by decide) (by decide) rfl (by decide) rfl (fun E ce q9 H locs hE hP hD hS h1 h2 h3 => ?_) (fun u2 H locs hw hP hD hS => ?_)
  · obtain ⟨k, hk, hE⟩ := hE
    subst hk
    obtain rfl := Option.some.inj (show some (Sum.inl k) = some o from hM)
    exact thr_on (px := fun E => ∃ k, _ = Sum.inl k ∧ E = en k) hQ hAe hout hlocks ⟨k, rfl, hE⟩ hP hD hS h1 h2 h3 (by decide) (by decide)
  have hxx := hw
  subst hxx
  dsimp only [Sum.elim] at hM
  replace hP : va_P D vwCl (xw a cI cJ ho ke hc tr fo fr st co ro cA cD su jA jD) H := hP
  replace hD : va_D A (xw a cI cJ ho ke hc tr fo fr st co ro cA cD su jA jD) := hD
  refine lv_iload_n hx hb dX4_setSum_5 rfl (lv_at hl 3 rfl) ?_
  refine lv_if_lt (tgt := 15) hx hb dX4_setSum_6 (by decide) (fun hcc => ?_) (fun hcc => ?_)
  · replace hM := it_p hcc hM
    obtain rfl := Option.some.inj hM
    exact thr (cls := xIA) (text := "the sum is not 0 to 45") (ik := 25) (is := 54) (ic := 29) (Ts := wsX4_setSum) (px := fun E => ∃ k, _ = Sum.inl k ∧ E = en k) hx hb hlt hQ hAe (hml.trans hl.1.symm) hown hts hlocks hout hTX hP hD hS (by decide) (by decide +kernel) (by decide +kernel) (by decide +kernel) (by decide +kernel) (by decide +kernel) (by decide +kernel) dX4_setSum_15 dX4_setSum_18 dX4_setSum_19 dX4_setSum_21 dX4_setSum_24 ⟨2, rfl, rfl⟩ (by decide) (by decide) (by decide) (by decide) (by decide) (by decide)
  · replace hM := it_n hcc hM
    refine lv_iload_n hx hb dX4_setSum_9 rfl (lv_at hl 3 rfl) ?_
    refine lv_bipush (v := 45) hx hb dX4_setSum_10 (by decide) ?_
    refine lv_icmp_le (tgt := 25) hx hb dX4_setSum_12 (by decide) (fun hcc => ?_) (fun hcc => ?_)
    · replace hM := it_p hcc hM
      refine lv_aload_n hx hb dX4_setSum_25 rfl (lv_at hl 0 rfl) ?_
      refine va_get (D := D) (ci := 4) (v := .ref (a 12)) (C := RX4) (T := TX4) (N := 2) hx hb hts iX4 hown hK hP 3 rfl rfl 1 (by decide) f21 (fun _ h9 => h9) rfl dX4_setSum_26 ?_
      obtain ⟨x29, hC, hM⟩ := bd_s hM
      refine cW_v [0, 1, 2, 3, 4, 5, 6, 7, 8, 9, 10, 11, 12, 13, 14, 15] [] (va_runV (As := []) (rest := []) ⟨hx, hb, hml, hown, hts⟩ (kX3_forget (l := l) (D := D) (cI := cI) (cJ := cJ) N a (ho := ho) (ke := ke) (hc := hc) (tr := tr) (fo := fo) (fr := fr) (st := st) (co := co) (ro := ro) (cA := cA) (cD := cD) (su := su) (jA := jA) (jD := jD) hC H.size) (cwV 0 hts gX4_setSum_X3_forget rfl rfl rfl (by decide +kernel) ⟨Nat.le_of_ble_eq_true rfl, Nat.le_of_ble_eq_true rfl⟩) (preV [] hN hK hP hD (ci := 3) (q0 := 0) rfl rfl) rfl rfl hl.1 rfl (lv_room (Nat.le_of_ble_eq_true rfl)) dX4_setSum_29 ⟨Nat.le_of_ble_eq_true rfl, Nat.le_of_ble_eq_true rfl⟩) hP hD hS hA rfl (wr := []) rfl (by decide) (by decide) (fun u29 H locs hw hP hD hS => ?_)
      replace hP : va_P D vwCl (xw a cI cJ ho ke hc tr fo x29 st co ro cA cD su jA jD) H := hP
      replace hD : va_D A (xw a cI cJ ho ke hc tr fo x29 st co ro cA cD su jA jD) := hD
      refine lv_aload_n hx hb dX4_setSum_32 rfl (lv_at hl 0 rfl) ?_
      refine va_get (D := D) (ci := 4) (v := .ref (a 0)) (C := RX4) (T := TX4) (N := 2) hx hb hts iX4 hown hK hP 3 rfl rfl 0 (by decide) f10 (fun _ h9 => h9) rfl dX4_setSum_33 ?_
      refine lv_iload_n hx hb dX4_setSum_36 rfl (lv_at hl 2 rfl) ?_
      by_cases hf37 : p2 = 0
      · replace hM := it_p hf37 hM
        refine cR_r (ra := (a 2)) (va_runV (As := [.int p2]) (rest := []) ⟨hx, hb, hml, hown, hts⟩ (kX1_corridors_A (l := l) (D := D) (cI := cI) (cJ := cJ) a (st := st) (co := co) (ro := ro) (cA := cA) (cD := cD) (su := su) (jA := jA) (jD := jD) hf37 H.size) (cwV 1 hts gX4_setSum_X1_corridors rfl rfl rfl (by decide +kernel) ⟨Nat.le_of_ble_eq_true rfl, Nat.le_of_ble_eq_true rfl⟩) (preV [.int p2] hN hK (hP.sub (ws' := (fw a cI cJ st co ro cA cD su jA jD)) [4, 5, 6, 7, 8, 9, 10, 11, 12, 13, 14, 15] rfl) (hD.sub (ws' := (fw a cI cJ st co ro cA cD su jA jD)) [4, 5, 6, 7, 8, 9, 10, 11, 12, 13, 14, 15] (by decide) rfl) (ci := 1) (q0 := 0) rfl rfl) rfl rfl hl.1 rfl (lv_room (Nat.le_of_ble_eq_true rfl)) dX4_setSum_37 ⟨Nat.le_of_ble_eq_true rfl, Nat.le_of_ble_eq_true rfl⟩) hP hS (fun H locs hP hS => ?_)
        refine lv_iload_n hx hb dX4_setSum_40 rfl (lv_at hl 1 rfl) ?_
        refine lv_iload_n hx hb dX4_setSum_41 rfl (lv_at hl 3 rfl) ?_
        obtain ⟨x42, hC, hM⟩ := bd_s hM
        refine cW_i [4, 5, 6, 7, 8, 9, 10, 11, 12, 13, 14, 15] [0, 1, 2, 3] (va_runV (As := [.int p1, .int p3]) (rest := []) ⟨hx, hb, hml, hown, hts⟩ (kX0_tellSum_A (l := l) (D := D) (cI := cI) (cJ := cJ) N a (st := st) (co := co) (ro := ro) (cA := cA) (cD := cD) (su := su) (jA := jA) (jD := jD) (p1 := p1) (p2 := p3) hC H.size) (cwV 2 hts gX4_setSum_X0_tellSum rfl rfl rfl (by decide +kernel) ⟨Nat.le_of_ble_eq_true rfl, Nat.le_of_ble_eq_true rfl⟩) (preV [.int p1, .int p3] hN hK (hP.sub (ws' := (fw a cI cJ st co ro cA cD su jA jD)) [4, 5, 6, 7, 8, 9, 10, 11, 12, 13, 14, 15] rfl) (hD.sub (ws' := (fw a cI cJ st co ro cA cD su jA jD)) [4, 5, 6, 7, 8, 9, 10, 11, 12, 13, 14, 15] (by decide) rfl) (ci := 0) (q0 := 2) rfl rfl) rfl rfl hl.1 rfl (lv_room (Nat.le_of_ble_eq_true rfl)) dX4_setSum_42 ⟨Nat.le_of_ble_eq_true rfl, Nat.le_of_ble_eq_true rfl⟩) hP hD hS hA rfl (wr := ((xw a cI cJ ho ke hc tr fo x29 st co ro cA cD su jA jD)).take 4) rfl (by decide) (by decide) (fun r u42 H locs hw hP hD hS => ?_)
        replace hP : va_P D vwCl (xw a cI cJ ho ke hc tr fo x29 st co ro x42.2 cD su jA jD) H := hP
        replace hD : va_D A (xw a cI cJ ho ke hc tr fo x29 st co ro x42.2 cD su jA jD) := hD
        rw [hw]
        obtain rfl := Option.some.inj hM
        subst hQ hAe
        refine vx_ret ?_
        refine W.widen (k := 2) (n := 12) (by decide) (by decide) ?_
        exact W.iret (v := x42.1) hx hb hr (fun t ht hW => ⟨⟨x42.1, ((x42.1, x29, x42.2, cD), (jA, jD)), rfl, ⟨rfl, rfl⟩, ⟨by rw [ht]; exact hP, hD⟩⟩, hS.F ht⟩) hS.2.2 dX4_setSum_45
      · replace hM := it_n hf37 hM
        refine cR_r (ra := (a 3)) (va_runV (As := [.int p2]) (rest := []) ⟨hx, hb, hml, hown, hts⟩ (kX1_corridors_D (l := l) (D := D) (cI := cI) (cJ := cJ) a (st := st) (co := co) (ro := ro) (cA := cA) (cD := cD) (su := su) (jA := jA) (jD := jD) hf37 H.size) (cwV 1 hts gX4_setSum_X1_corridors rfl rfl rfl (by decide +kernel) ⟨Nat.le_of_ble_eq_true rfl, Nat.le_of_ble_eq_true rfl⟩) (preV [.int p2] hN hK (hP.sub (ws' := (fw a cI cJ st co ro cA cD su jA jD)) [4, 5, 6, 7, 8, 9, 10, 11, 12, 13, 14, 15] rfl) (hD.sub (ws' := (fw a cI cJ st co ro cA cD su jA jD)) [4, 5, 6, 7, 8, 9, 10, 11, 12, 13, 14, 15] (by decide) rfl) (ci := 1) (q0 := 0) rfl rfl) rfl rfl hl.1 rfl (lv_room (Nat.le_of_ble_eq_true rfl)) dX4_setSum_37 ⟨Nat.le_of_ble_eq_true rfl, Nat.le_of_ble_eq_true rfl⟩) hP hS (fun H locs hP hS => ?_)
        refine lv_iload_n hx hb dX4_setSum_40 rfl (lv_at hl 1 rfl) ?_
        refine lv_iload_n hx hb dX4_setSum_41 rfl (lv_at hl 3 rfl) ?_
        obtain ⟨x42, hC, hM⟩ := bd_s hM
        refine cW_i [4, 5, 6, 7, 8, 9, 10, 11, 12, 13, 14, 15] [0, 1, 2, 3] (va_runV (As := [.int p1, .int p3]) (rest := []) ⟨hx, hb, hml, hown, hts⟩ (kX0_tellSum_D (l := l) (D := D) (cI := cI) (cJ := cJ) N a (st := st) (co := co) (ro := ro) (cA := cA) (cD := cD) (su := su) (jA := jA) (jD := jD) (p1 := p1) (p2 := p3) hC H.size) (cwV 2 hts gX4_setSum_X0_tellSum rfl rfl rfl (by decide +kernel) ⟨Nat.le_of_ble_eq_true rfl, Nat.le_of_ble_eq_true rfl⟩) (preV [.int p1, .int p3] hN hK (hP.sub (ws' := (fw a cI cJ st co ro cA cD su jA jD)) [4, 5, 6, 7, 8, 9, 10, 11, 12, 13, 14, 15] rfl) (hD.sub (ws' := (fw a cI cJ st co ro cA cD su jA jD)) [4, 5, 6, 7, 8, 9, 10, 11, 12, 13, 14, 15] (by decide) rfl) (ci := 0) (q0 := 3) rfl rfl) rfl rfl hl.1 rfl (lv_room (Nat.le_of_ble_eq_true rfl)) dX4_setSum_42 ⟨Nat.le_of_ble_eq_true rfl, Nat.le_of_ble_eq_true rfl⟩) hP hD hS hA rfl (wr := ((xw a cI cJ ho ke hc tr fo x29 st co ro cA cD su jA jD)).take 4) rfl (by decide) (by decide) (fun r u42 H locs hw hP hD hS => ?_)
        replace hP : va_P D vwCl (xw a cI cJ ho ke hc tr fo x29 st co ro cA x42.2 su jA jD) H := hP
        replace hD : va_D A (xw a cI cJ ho ke hc tr fo x29 st co ro cA x42.2 su jA jD) := hD
        rw [hw]
        obtain rfl := Option.some.inj hM
        subst hQ hAe
        refine vx_ret ?_
        refine W.widen (k := 2) (n := 12) (by decide) (by decide) ?_
        exact W.iret (v := x42.1) hx hb hr (fun t ht hW => ⟨⟨x42.1, ((x42.1, x29, cA, x42.2), (jA, jD)), rfl, ⟨rfl, rfl⟩, ⟨by rw [ht]; exact hP, hD⟩⟩, hS.F ht⟩) hS.2.2 dX4_setSum_45
    · replace hM := it_n hcc hM
      obtain rfl := Option.some.inj hM
      exact thr (cls := xIA) (text := "the sum is not 0 to 45") (ik := 25) (is := 54) (ic := 29) (Ts := wsX4_setSum) (px := fun E => ∃ k, _ = Sum.inl k ∧ E = en k) hx hb hlt hQ hAe (hml.trans hl.1.symm) hown hts hlocks hout hTX hP hD hS (by decide) (by decide +kernel) (by decide +kernel) (by decide +kernel) (by decide +kernel) (by decide +kernel) (by decide +kernel) dX4_setSum_15 dX4_setSum_18 dX4_setSum_19 dX4_setSum_21 dX4_setSum_24 ⟨2, rfl, rfl⟩ (by decide) (by decide) (by decide) (by decide) (by decide) (by decide)
def mX4_put (N : Nat) (fr : Int32) (st : RowI) (co : Int32) (ro : Int32) (p1 : Int32) (p2 : Int32) : Option (Nat ⊕ (Int32 × Int32 × RowI)) :=
  ((mX4_checkCell N co ro p1).bind fun x2 => Sum.elim (fun k => some (.inl k)) (fun y2 =>
  (if p2 < 0 then
  some (.inl 2)
  else
  (if p2 ≤ (9 : Int32) then
  ((mX4_checkOpen N st p1).bind fun x27 => Sum.elim (fun k => some (.inl k)) (fun y27 =>
  ((mX1_stoneAt N st p1).bind fun x35 =>
  ((mX3_forget N fr).bind fun x43 =>
  ((mX1_lay N st p1 p2).bind fun x52 =>
  some (.inr (x35, x43, x52)))))) x27)
  else
  some (.inl 2)))) x2)
abbrev rmX4_put : Room := { frames := 7, cells := 2, slots := 12, locals := 117 }
set_option maxHeartbeats 4000000 in
set_option maxRecDepth 100000 in
theorem kX4_put {l : Launch} {D : va_G} {cI cJ : ClassId} (hlt : l.stackTraces = false) (N : Nat) (a : Nat → Nat) {ho : RowI} {ke : RowI} {hc : Int32} {tr : Int32} {fo : Int32} {fr : Int32} {st : RowI} {co : Int32} {ro : Int32} {cA : CS} {cD : CS} {su : RowJ} {jA : JT} {jD : JT} {p1 : Int32} {p2 : Int32} {o : (Nat ⊕ (Int32 × Int32 × RowI))} (hM : mX4_put N fr st co ro p1 p2 = some o) (sz : Nat) : vx_Met l yX4_put wsX4_put rmX4_put (va_Pc [.ref (a 15), .int p1, .int p2] (PreT D cI cJ (xw a cI cJ ho ke hc tr fo fr st co ro cA cD su jA jD) sz)) (va_Qi (fun (r : Int32) (u : (Int32 × Int32 × RowI) × (JT × JT)) => o = .inr u.1 ∧ r = u.1.1) (aft D (xw a cI cJ ho ke hc tr fo fr st co ro cA cD su jA jD) sz (fun (u : (Int32 × Int32 × RowI) × (JT × JT)) => (xw a cI cJ ho ke hc tr fo u.1.2.1 u.1.2.2 co ro cA cD su jA jD))) (va_A (xw a cI cJ ho ke hc tr fo fr st co ro cA cD su jA jD) sz)) (aftX D (fun E => ∃ k, o = .inl k ∧ E = en k) (xw a cI cJ ho ke hc tr fo fr st co ro cA cD su jA jD) sz) 2 12 (va_A (xw a cI cJ ho ke hc tr fo fr st co ro cA cD su jA jD) sz) := by
  refine xofT (cc := cX4_put) (maxL := 4) (ret := (some .int)) rfl (by decide) rfl ?_
  intro p e s m args below meth c ls Q A hQ hAe hx hb hr hml hown hts hlocks hout hTX hN hK H locs hP hD hS hA hl
  replace hown : s.vm.findClass RX4 = some m.cls := hown
  replace hl : lv_has ls 4 [(0, .ref (a 15)), (1, .int p1), (2, .int p2)] := hl
  have iX4 : ∀ w ∈ wsX40, w ∈ wsX4_put := by decide +kernel
  have f10 := hts (.fieldLink RX4 10 "CryptSums" "floor" "LCryptSums$Floor;") (by decide +kernel)
  have f21 := hts (.fieldLink RX4 21 "CryptSums" "search" "LCryptSums$Search;") (by decide +kernel)
  rw [mX4_put] at hM
  refine lv_aload_n hx hb dX4_put_0 rfl (lv_at hl 0 rfl) ?_
  refine lv_iload_n hx hb dX4_put_1 rfl (lv_at hl 1 rfl) ?_
  obtain ⟨x2, hC, hM⟩ := bd_s hM
  refine cT_v [0, 1, 2, 3, 4, 5, 6, 7, 8, 9, 10, 11, 12, 13, 14, 15] [] [0, 1, 2, 3, 4, 5, 6, 7, 8, 9, 10, 11, 12, 13, 14, 15] (vx_runV (As := [.int p1]) (rest := []) ⟨hx, hb, hml, hown, hts⟩ (kX4_checkCell (l := l) (D := D) (cI := cI) (cJ := cJ) hlt N a (ho := ho) (ke := ke) (hc := hc) (tr := tr) (fo := fo) (fr := fr) (st := st) (co := co) (ro := ro) (cA := cA) (cD := cD) (su := su) (jA := jA) (jD := jD) (p1 := p1) hC H.size) (cwV 1 hts gX4_put_X4_checkCell rfl rfl rfl (by decide +kernel) ⟨Nat.le_of_ble_eq_true rfl, Nat.le_of_ble_eq_true rfl⟩) (preVT [.int p1] hTX hS (va_free (wc := (xw a cI cJ ho ke hc tr fo fr st co ro cA cD su jA jD)) hD hS hA [0, 1, 2, 3, 4, 5, 6, 7, 8, 9, 10, 11, 12, 13, 14, 15] rfl) hN hK hP hD (ci := 4) (q0 := 3) rfl rfl) rfl rfl hl.1 rfl (lv_room (Nat.le_of_ble_eq_true rfl)) dX4_put_2 ⟨Nat.le_of_ble_eq_true rfl, Nat.le_of_ble_eq_true rfl⟩) hP hD hS hA rfl (wr := []) rfl (by decide) (by decide) rfl (by decide) rfl (fun E ce q9 H locs hE hP hD hS h1 h2 h3 => ?_) (fun u2 H locs hw hP hD hS => ?_)
  · obtain ⟨k, hk, hE⟩ := hE
    subst hk
    obtain rfl := Option.some.inj (show some (Sum.inl k) = some o from hM)
    exact thr_on (px := fun E => ∃ k, _ = Sum.inl k ∧ E = en k) hQ hAe hout hlocks ⟨k, rfl, hE⟩ hP hD hS h1 h2 h3 (by decide) (by decide)
  have hxx := hw
  subst hxx
  dsimp only [Sum.elim] at hM
  replace hP : va_P D vwCl (xw a cI cJ ho ke hc tr fo fr st co ro cA cD su jA jD) H := hP
  replace hD : va_D A (xw a cI cJ ho ke hc tr fo fr st co ro cA cD su jA jD) := hD
  refine lv_iload_n hx hb dX4_put_5 rfl (lv_at hl 2 rfl) ?_
  refine lv_if_lt (tgt := 15) hx hb dX4_put_6 (by decide) (fun hcc => ?_) (fun hcc => ?_)
  · replace hM := it_p hcc hM
    obtain rfl := Option.some.inj hM
    exact thr (cls := xIA) (text := "the number is not 0 to 9") (ik := 25) (is := 66) (ic := 29) (Ts := wsX4_put) (px := fun E => ∃ k, _ = Sum.inl k ∧ E = en k) hx hb hlt hQ hAe (hml.trans hl.1.symm) hown hts hlocks hout hTX hP hD hS (by decide) (by decide +kernel) (by decide +kernel) (by decide +kernel) (by decide +kernel) (by decide +kernel) (by decide +kernel) dX4_put_15 dX4_put_18 dX4_put_19 dX4_put_21 dX4_put_24 ⟨2, rfl, rfl⟩ (by decide) (by decide) (by decide) (by decide) (by decide) (by decide)
  · replace hM := it_n hcc hM
    refine lv_iload_n hx hb dX4_put_9 rfl (lv_at hl 2 rfl) ?_
    refine lv_bipush (v := 9) hx hb dX4_put_10 (by decide) ?_
    refine lv_icmp_le (tgt := 25) hx hb dX4_put_12 (by decide) (fun hcc => ?_) (fun hcc => ?_)
    · replace hM := it_p hcc hM
      refine lv_aload_n hx hb dX4_put_25 rfl (lv_at hl 0 rfl) ?_
      refine lv_iload_n hx hb dX4_put_26 rfl (lv_at hl 1 rfl) ?_
      obtain ⟨x27, hC, hM⟩ := bd_s hM
      refine cT_v [0, 1, 2, 3, 4, 5, 6, 7, 8, 9, 10, 11, 12, 13, 14, 15] [] [0, 1, 2, 3, 4, 5, 6, 7, 8, 9, 10, 11, 12, 13, 14, 15] (vx_runV (As := [.int p1]) (rest := []) ⟨hx, hb, hml, hown, hts⟩ (kX4_checkOpen (l := l) (D := D) (cI := cI) (cJ := cJ) hlt N a (ho := ho) (ke := ke) (hc := hc) (tr := tr) (fo := fo) (fr := fr) (st := st) (co := co) (ro := ro) (cA := cA) (cD := cD) (su := su) (jA := jA) (jD := jD) (p1 := p1) hC H.size) (cwV 1 hts gX4_put_X4_checkOpen rfl rfl rfl (by decide +kernel) ⟨Nat.le_of_ble_eq_true rfl, Nat.le_of_ble_eq_true rfl⟩) (preVT [.int p1] hTX hS (va_free (wc := (xw a cI cJ ho ke hc tr fo fr st co ro cA cD su jA jD)) hD hS hA [0, 1, 2, 3, 4, 5, 6, 7, 8, 9, 10, 11, 12, 13, 14, 15] rfl) hN hK hP hD (ci := 4) (q0 := 3) rfl rfl) rfl rfl hl.1 rfl (lv_room (Nat.le_of_ble_eq_true rfl)) dX4_put_27 ⟨Nat.le_of_ble_eq_true rfl, Nat.le_of_ble_eq_true rfl⟩) hP hD hS hA rfl (wr := []) rfl (by decide) (by decide) rfl (by decide) rfl (fun E ce q9 H locs hE hP hD hS h1 h2 h3 => ?_) (fun u27 H locs hw hP hD hS => ?_)
      · obtain ⟨k, hk, hE⟩ := hE
        subst hk
        obtain rfl := Option.some.inj (show some (Sum.inl k) = some o from hM)
        exact thr_on (px := fun E => ∃ k, _ = Sum.inl k ∧ E = en k) hQ hAe hout hlocks ⟨k, rfl, hE⟩ hP hD hS h1 h2 h3 (by decide) (by decide)
      have hxx := hw
      subst hxx
      dsimp only [Sum.elim] at hM
      replace hP : va_P D vwCl (xw a cI cJ ho ke hc tr fo fr st co ro cA cD su jA jD) H := hP
      replace hD : va_D A (xw a cI cJ ho ke hc tr fo fr st co ro cA cD su jA jD) := hD
      refine lv_aload_n hx hb dX4_put_30 rfl (lv_at hl 0 rfl) ?_
      refine va_get (D := D) (ci := 4) (v := .ref (a 0)) (C := RX4) (T := TX4) (N := 2) hx hb hts iX4 hown hK hP 3 rfl rfl 0 (by decide) f10 (fun _ h9 => h9) rfl dX4_put_31 ?_
      refine lv_iload_n hx hb dX4_put_34 rfl (lv_at hl 1 rfl) ?_
      obtain ⟨x35, hC, hM⟩ := bd_s hM
      refine cR_i (va_runV (As := [.int p1]) (rest := []) ⟨hx, hb, hml, hown, hts⟩ (kX1_stoneAt (l := l) (D := D) (cI := cI) (cJ := cJ) N a (st := st) (co := co) (ro := ro) (cA := cA) (cD := cD) (su := su) (jA := jA) (jD := jD) (p1 := p1) hC H.size) (cwV 1 hts gX4_put_X1_stoneAt rfl rfl rfl (by decide +kernel) ⟨Nat.le_of_ble_eq_true rfl, Nat.le_of_ble_eq_true rfl⟩) (preV [.int p1] hN hK (hP.sub (ws' := (fw a cI cJ st co ro cA cD su jA jD)) [4, 5, 6, 7, 8, 9, 10, 11, 12, 13, 14, 15] rfl) (hD.sub (ws' := (fw a cI cJ st co ro cA cD su jA jD)) [4, 5, 6, 7, 8, 9, 10, 11, 12, 13, 14, 15] (by decide) rfl) (ci := 1) (q0 := 0) rfl rfl) rfl rfl hl.1 rfl (lv_room (Nat.le_of_ble_eq_true rfl)) dX4_put_35 ⟨Nat.le_of_ble_eq_true rfl, Nat.le_of_ble_eq_true rfl⟩) hP hS (fun r u H locs hw hP hS => ?_)
      rw [hw]
      refine lv_istore_n (lv' := [(3, .int x35), (0, .ref (a 15)), (1, .int p1), (2, .int p2)]) hx hb dX4_put_38 rfl hl (by decide) rfl (fun ls hl => ?_)
      refine lv_aload_n hx hb dX4_put_39 rfl (lv_at hl 1 rfl) ?_
      refine va_get (D := D) (ci := 4) (v := .ref (a 12)) (C := RX4) (T := TX4) (N := 2) hx hb hts iX4 hown hK hP 3 rfl rfl 1 (by decide) f21 (fun _ h9 => h9) rfl dX4_put_40 ?_
      obtain ⟨x43, hC, hM⟩ := bd_s hM
      refine cW_v [0, 1, 2, 3, 4, 5, 6, 7, 8, 9, 10, 11, 12, 13, 14, 15] [] (va_runV (As := []) (rest := []) ⟨hx, hb, hml, hown, hts⟩ (kX3_forget (l := l) (D := D) (cI := cI) (cJ := cJ) N a (ho := ho) (ke := ke) (hc := hc) (tr := tr) (fo := fo) (fr := fr) (st := st) (co := co) (ro := ro) (cA := cA) (cD := cD) (su := su) (jA := jA) (jD := jD) hC H.size) (cwV 0 hts gX4_put_X3_forget rfl rfl rfl (by decide +kernel) ⟨Nat.le_of_ble_eq_true rfl, Nat.le_of_ble_eq_true rfl⟩) (preV [] hN hK hP hD (ci := 3) (q0 := 0) rfl rfl) rfl rfl hl.1 rfl (lv_room (Nat.le_of_ble_eq_true rfl)) dX4_put_43 ⟨Nat.le_of_ble_eq_true rfl, Nat.le_of_ble_eq_true rfl⟩) hP hD hS hA rfl (wr := []) rfl (by decide) (by decide) (fun u43 H locs hw hP hD hS => ?_)
      replace hP : va_P D vwCl (xw a cI cJ ho ke hc tr fo x43 st co ro cA cD su jA jD) H := hP
      replace hD : va_D A (xw a cI cJ ho ke hc tr fo x43 st co ro cA cD su jA jD) := hD
      refine lv_aload_n hx hb dX4_put_46 rfl (lv_at hl 1 rfl) ?_
      refine va_get (D := D) (ci := 4) (v := .ref (a 0)) (C := RX4) (T := TX4) (N := 2) hx hb hts iX4 hown hK hP 3 rfl rfl 0 (by decide) f10 (fun _ h9 => h9) rfl dX4_put_47 ?_
      refine lv_iload_n hx hb dX4_put_50 rfl (lv_at hl 2 rfl) ?_
      refine lv_iload_n hx hb dX4_put_51 rfl (lv_at hl 3 rfl) ?_
      obtain ⟨x52, hC, hM⟩ := bd_s hM
      refine cW_v [4, 5, 6, 7, 8, 9, 10, 11, 12, 13, 14, 15] [0, 1, 2, 3] (va_runV (As := [.int p1, .int p2]) (rest := []) ⟨hx, hb, hml, hown, hts⟩ (kX1_lay (l := l) (D := D) (cI := cI) (cJ := cJ) N a (st := st) (co := co) (ro := ro) (cA := cA) (cD := cD) (su := su) (jA := jA) (jD := jD) (p1 := p1) (p2 := p2) hC H.size) (cwV 2 hts gX4_put_X1_lay rfl rfl rfl (by decide +kernel) ⟨Nat.le_of_ble_eq_true rfl, Nat.le_of_ble_eq_true rfl⟩) (preV [.int p1, .int p2] hN hK (hP.sub (ws' := (fw a cI cJ st co ro cA cD su jA jD)) [4, 5, 6, 7, 8, 9, 10, 11, 12, 13, 14, 15] rfl) (hD.sub (ws' := (fw a cI cJ st co ro cA cD su jA jD)) [4, 5, 6, 7, 8, 9, 10, 11, 12, 13, 14, 15] (by decide) rfl) (ci := 1) (q0 := 0) rfl rfl) rfl rfl hl.1 rfl (lv_room (Nat.le_of_ble_eq_true rfl)) dX4_put_52 ⟨Nat.le_of_ble_eq_true rfl, Nat.le_of_ble_eq_true rfl⟩) hP hD hS hA rfl (wr := ((xw a cI cJ ho ke hc tr fo x43 st co ro cA cD su jA jD)).take 4) rfl (by decide) (by decide) (fun u52 H locs hw hP hD hS => ?_)
      replace hP : va_P D vwCl (xw a cI cJ ho ke hc tr fo x43 x52 co ro cA cD su jA jD) H := hP
      replace hD : va_D A (xw a cI cJ ho ke hc tr fo x43 x52 co ro cA cD su jA jD) := hD
      refine lv_iload_n hx hb dX4_put_55 rfl (lv_at hl 0 rfl) ?_
      obtain rfl := Option.some.inj hM
      subst hQ hAe
      refine vx_ret ?_
      refine W.widen (k := 2) (n := 12) (by decide) (by decide) ?_
      exact W.iret (v := x35) hx hb hr (fun t ht hW => ⟨⟨x35, ((x35, x43, x52), (jA, jD)), rfl, ⟨rfl, rfl⟩, ⟨by rw [ht]; exact hP, hD⟩⟩, hS.F ht⟩) hS.2.2 dX4_put_56
    · replace hM := it_n hcc hM
      obtain rfl := Option.some.inj hM
      exact thr (cls := xIA) (text := "the number is not 0 to 9") (ik := 25) (is := 66) (ic := 29) (Ts := wsX4_put) (px := fun E => ∃ k, _ = Sum.inl k ∧ E = en k) hx hb hlt hQ hAe (hml.trans hl.1.symm) hown hts hlocks hout hTX hP hD hS (by decide) (by decide +kernel) (by decide +kernel) (by decide +kernel) (by decide +kernel) (by decide +kernel) (by decide +kernel) dX4_put_15 dX4_put_18 dX4_put_19 dX4_put_21 dX4_put_24 ⟨2, rfl, rfl⟩ (by decide) (by decide) (by decide) (by decide) (by decide) (by decide)
def mX4_stone (N : Nat) (st : RowI) (co : Int32) (ro : Int32) (p1 : Int32) : Option (Nat ⊕ Int32) :=
  ((mX4_checkCell N co ro p1).bind fun x2 => Sum.elim (fun k => some (.inl k)) (fun y2 =>
  ((mX1_stoneAt N st p1).bind fun x10 =>
  some (.inr x10))) x2)
abbrev rmX4_stone : Room := { frames := 7, cells := 1, slots := 6, locals := 117 }
set_option maxHeartbeats 4000000 in
set_option maxRecDepth 100000 in
theorem kX4_stone {l : Launch} {D : va_G} {cI cJ : ClassId} (hlt : l.stackTraces = false) (N : Nat) (a : Nat → Nat) {ho : RowI} {ke : RowI} {hc : Int32} {tr : Int32} {fo : Int32} {fr : Int32} {st : RowI} {co : Int32} {ro : Int32} {cA : CS} {cD : CS} {su : RowJ} {jA : JT} {jD : JT} {p1 : Int32} {o : (Nat ⊕ Int32)} (hM : mX4_stone N st co ro p1 = some o) (sz : Nat) : vx_Met l yX4_stone wsX4_stone rmX4_stone (va_Pc [.ref (a 15), .int p1] (PreT D cI cJ (xw a cI cJ ho ke hc tr fo fr st co ro cA cD su jA jD) sz)) (va_Qi (fun (r : Int32) (u : Int32 × (JT × JT)) => o = .inr u.1 ∧ r = u.1) (aft D (xw a cI cJ ho ke hc tr fo fr st co ro cA cD su jA jD) sz (fun (u : Int32 × (JT × JT)) => (xw a cI cJ ho ke hc tr fo fr st co ro cA cD su jA jD))) (va_A (xw a cI cJ ho ke hc tr fo fr st co ro cA cD su jA jD) sz)) (aftX D (fun E => ∃ k, o = .inl k ∧ E = en k) (xw a cI cJ ho ke hc tr fo fr st co ro cA cD su jA jD) sz) 1 6 (va_A (xw a cI cJ ho ke hc tr fo fr st co ro cA cD su jA jD) sz) := by
  refine xofT (cc := cX4_stone) (maxL := 2) (ret := (some .int)) rfl (by decide) rfl ?_
  intro p e s m args below meth c ls Q A hQ hAe hx hb hr hml hown hts hlocks hout hTX hN hK H locs hP hD hS hA hl
  replace hown : s.vm.findClass RX4 = some m.cls := hown
  replace hl : lv_has ls 2 [(0, .ref (a 15)), (1, .int p1)] := hl
  have iX4 : ∀ w ∈ wsX40, w ∈ wsX4_stone := by decide +kernel
  have f10 := hts (.fieldLink RX4 10 "CryptSums" "floor" "LCryptSums$Floor;") (by decide +kernel)
  rw [mX4_stone] at hM
  refine lv_aload_n hx hb dX4_stone_0 rfl (lv_at hl 0 rfl) ?_
  refine lv_iload_n hx hb dX4_stone_1 rfl (lv_at hl 1 rfl) ?_
  obtain ⟨x2, hC, hM⟩ := bd_s hM
  refine cT_v [0, 1, 2, 3, 4, 5, 6, 7, 8, 9, 10, 11, 12, 13, 14, 15] [] [0, 1, 2, 3, 4, 5, 6, 7, 8, 9, 10, 11, 12, 13, 14, 15] (vx_runV (As := [.int p1]) (rest := []) ⟨hx, hb, hml, hown, hts⟩ (kX4_checkCell (l := l) (D := D) (cI := cI) (cJ := cJ) hlt N a (ho := ho) (ke := ke) (hc := hc) (tr := tr) (fo := fo) (fr := fr) (st := st) (co := co) (ro := ro) (cA := cA) (cD := cD) (su := su) (jA := jA) (jD := jD) (p1 := p1) hC H.size) (cwV 1 hts gX4_stone_X4_checkCell rfl rfl rfl (by decide +kernel) ⟨Nat.le_of_ble_eq_true rfl, Nat.le_of_ble_eq_true rfl⟩) (preVT [.int p1] hTX hS (va_free (wc := (xw a cI cJ ho ke hc tr fo fr st co ro cA cD su jA jD)) hD hS hA [0, 1, 2, 3, 4, 5, 6, 7, 8, 9, 10, 11, 12, 13, 14, 15] rfl) hN hK hP hD (ci := 4) (q0 := 3) rfl rfl) rfl rfl hl.1 rfl (lv_room (Nat.le_of_ble_eq_true rfl)) dX4_stone_2 ⟨Nat.le_of_ble_eq_true rfl, Nat.le_of_ble_eq_true rfl⟩) hP hD hS hA rfl (wr := []) rfl (by decide) (by decide) rfl (by decide) rfl (fun E ce q9 H locs hE hP hD hS h1 h2 h3 => ?_) (fun u2 H locs hw hP hD hS => ?_)
  · obtain ⟨k, hk, hE⟩ := hE
    subst hk
    obtain rfl := Option.some.inj (show some (Sum.inl k) = some o from hM)
    exact thr_on (px := fun E => ∃ k, _ = Sum.inl k ∧ E = en k) hQ hAe hout hlocks ⟨k, rfl, hE⟩ hP hD hS h1 h2 h3 (by decide) (by decide)
  have hxx := hw
  subst hxx
  dsimp only [Sum.elim] at hM
  replace hP : va_P D vwCl (xw a cI cJ ho ke hc tr fo fr st co ro cA cD su jA jD) H := hP
  replace hD : va_D A (xw a cI cJ ho ke hc tr fo fr st co ro cA cD su jA jD) := hD
  refine lv_aload_n hx hb dX4_stone_5 rfl (lv_at hl 0 rfl) ?_
  refine va_get (D := D) (ci := 4) (v := .ref (a 0)) (C := RX4) (T := TX4) (N := 2) hx hb hts iX4 hown hK hP 3 rfl rfl 0 (by decide) f10 (fun _ h9 => h9) rfl dX4_stone_6 ?_
  refine lv_iload_n hx hb dX4_stone_9 rfl (lv_at hl 1 rfl) ?_
  obtain ⟨x10, hC, hM⟩ := bd_s hM
  refine cR_i (va_runV (As := [.int p1]) (rest := []) ⟨hx, hb, hml, hown, hts⟩ (kX1_stoneAt (l := l) (D := D) (cI := cI) (cJ := cJ) N a (st := st) (co := co) (ro := ro) (cA := cA) (cD := cD) (su := su) (jA := jA) (jD := jD) (p1 := p1) hC H.size) (cwV 1 hts gX4_stone_X1_stoneAt rfl rfl rfl (by decide +kernel) ⟨Nat.le_of_ble_eq_true rfl, Nat.le_of_ble_eq_true rfl⟩) (preV [.int p1] hN hK (hP.sub (ws' := (fw a cI cJ st co ro cA cD su jA jD)) [4, 5, 6, 7, 8, 9, 10, 11, 12, 13, 14, 15] rfl) (hD.sub (ws' := (fw a cI cJ st co ro cA cD su jA jD)) [4, 5, 6, 7, 8, 9, 10, 11, 12, 13, 14, 15] (by decide) rfl) (ci := 1) (q0 := 0) rfl rfl) rfl rfl hl.1 rfl (lv_room (Nat.le_of_ble_eq_true rfl)) dX4_stone_10 ⟨Nat.le_of_ble_eq_true rfl, Nat.le_of_ble_eq_true rfl⟩) hP hS (fun r u H locs hw hP hS => ?_)
  rw [hw]
  obtain rfl := Option.some.inj hM
  subst hQ hAe
  refine vx_ret ?_
  refine W.widen (k := 1) (n := 6) (by decide) (by decide) ?_
  exact W.iret (v := x10) hx hb hr (fun t ht hW => ⟨⟨x10, (x10, (jA, jD)), rfl, ⟨rfl, rfl⟩, ⟨by rw [ht]; exact hP, hD⟩⟩, hS.F ht⟩) hS.2.2 dX4_stone_13
def mX4_corridor (N : Nat) (st : RowI) (co : Int32) (ro : Int32) (cA : CS) (cD : CS) (su : RowJ) (p1 : Int32) (p2 : Int32) (p3 : Int32) : Option (Nat ⊕ Int32) :=
  ((mX4_checkCell N co ro p1).bind fun x2 => Sum.elim (fun k => some (.inl k)) (fun y2 =>
  (if p3 < 0 then
  some (.inl 1)
  else
  (if p3 < (6 : Int32) then
  (if p2 = 0 then
  ((mX0_tell N st cA su p1 p3).bind fun x35 =>
  some (.inr x35))
  else
  ((mX0_tell N st cD su p1 p3).bind fun x35 =>
  some (.inr x35)))
  else
  some (.inl 1)))) x2)
abbrev rmX4_corridor : Room := { frames := 7, cells := 2, slots := 12, locals := 117 }
set_option maxHeartbeats 4000000 in
set_option maxRecDepth 100000 in
theorem kX4_corridor {l : Launch} {D : va_G} {cI cJ : ClassId} (hlt : l.stackTraces = false) (N : Nat) (a : Nat → Nat) {ho : RowI} {ke : RowI} {hc : Int32} {tr : Int32} {fo : Int32} {fr : Int32} {st : RowI} {co : Int32} {ro : Int32} {cA : CS} {cD : CS} {su : RowJ} {jA : JT} {jD : JT} {p1 : Int32} {p2 : Int32} {p3 : Int32} {o : (Nat ⊕ Int32)} (hM : mX4_corridor N st co ro cA cD su p1 p2 p3 = some o) (sz : Nat) : vx_Met l yX4_corridor wsX4_corridor rmX4_corridor (va_Pc [.ref (a 15), .int p1, .int p2, .int p3] (PreT D cI cJ (xw a cI cJ ho ke hc tr fo fr st co ro cA cD su jA jD) sz)) (va_Qi (fun (r : Int32) (u : Int32 × (JT × JT)) => o = .inr u.1 ∧ r = u.1) (aft D (xw a cI cJ ho ke hc tr fo fr st co ro cA cD su jA jD) sz (fun (u : Int32 × (JT × JT)) => (xw a cI cJ ho ke hc tr fo fr st co ro cA cD su u.2.1 u.2.2))) (va_A (xw a cI cJ ho ke hc tr fo fr st co ro cA cD su jA jD) sz)) (aftX D (fun E => ∃ k, o = .inl k ∧ E = en k) (xw a cI cJ ho ke hc tr fo fr st co ro cA cD su jA jD) sz) 2 12 (va_A (xw a cI cJ ho ke hc tr fo fr st co ro cA cD su jA jD) sz) := by
  refine xofT (cc := cX4_corridor) (maxL := 4) (ret := (some .int)) rfl (by decide) rfl ?_
  intro p e s m args below meth c ls Q A hQ hAe hx hb hr hml hown hts hlocks hout hTX hN hK H locs hP hD hS hA hl
  replace hown : s.vm.findClass RX4 = some m.cls := hown
  replace hl : lv_has ls 4 [(0, .ref (a 15)), (1, .int p1), (2, .int p2), (3, .int p3)] := hl
  have iX4 : ∀ w ∈ wsX40, w ∈ wsX4_corridor := by decide +kernel
  have f10 := hts (.fieldLink RX4 10 "CryptSums" "floor" "LCryptSums$Floor;") (by decide +kernel)
  rw [mX4_corridor] at hM
  refine lv_aload_n hx hb dX4_corridor_0 rfl (lv_at hl 0 rfl) ?_
  refine lv_iload_n hx hb dX4_corridor_1 rfl (lv_at hl 1 rfl) ?_
  obtain ⟨x2, hC, hM⟩ := bd_s hM
  refine cT_v [0, 1, 2, 3, 4, 5, 6, 7, 8, 9, 10, 11, 12, 13, 14, 15] [] [0, 1, 2, 3, 4, 5, 6, 7, 8, 9, 10, 11, 12, 13, 14, 15] (vx_runV (As := [.int p1]) (rest := []) ⟨hx, hb, hml, hown, hts⟩ (kX4_checkCell (l := l) (D := D) (cI := cI) (cJ := cJ) hlt N a (ho := ho) (ke := ke) (hc := hc) (tr := tr) (fo := fo) (fr := fr) (st := st) (co := co) (ro := ro) (cA := cA) (cD := cD) (su := su) (jA := jA) (jD := jD) (p1 := p1) hC H.size) (cwV 1 hts gX4_corridor_X4_checkCell rfl rfl rfl (by decide +kernel) ⟨Nat.le_of_ble_eq_true rfl, Nat.le_of_ble_eq_true rfl⟩) (preVT [.int p1] hTX hS (va_free (wc := (xw a cI cJ ho ke hc tr fo fr st co ro cA cD su jA jD)) hD hS hA [0, 1, 2, 3, 4, 5, 6, 7, 8, 9, 10, 11, 12, 13, 14, 15] rfl) hN hK hP hD (ci := 4) (q0 := 3) rfl rfl) rfl rfl hl.1 rfl (lv_room (Nat.le_of_ble_eq_true rfl)) dX4_corridor_2 ⟨Nat.le_of_ble_eq_true rfl, Nat.le_of_ble_eq_true rfl⟩) hP hD hS hA rfl (wr := []) rfl (by decide) (by decide) rfl (by decide) rfl (fun E ce q9 H locs hE hP hD hS h1 h2 h3 => ?_) (fun u2 H locs hw hP hD hS => ?_)
  · obtain ⟨k, hk, hE⟩ := hE
    subst hk
    obtain rfl := Option.some.inj (show some (Sum.inl k) = some o from hM)
    exact thr_on (px := fun E => ∃ k, _ = Sum.inl k ∧ E = en k) hQ hAe hout hlocks ⟨k, rfl, hE⟩ hP hD hS h1 h2 h3 (by decide) (by decide)
  have hxx := hw
  subst hxx
  dsimp only [Sum.elim] at hM
  replace hP : va_P D vwCl (xw a cI cJ ho ke hc tr fo fr st co ro cA cD su jA jD) H := hP
  replace hD : va_D A (xw a cI cJ ho ke hc tr fo fr st co ro cA cD su jA jD) := hD
  refine lv_iload_n hx hb dX4_corridor_5 rfl (lv_at hl 3 rfl) ?_
  refine lv_if_lt (tgt := 15) hx hb dX4_corridor_6 (by decide) (fun hcc => ?_) (fun hcc => ?_)
  · replace hM := it_p hcc hM
    obtain rfl := Option.some.inj hM
    exact thr (cls := xIO) (text := "nothing of a corridor has this number") (ik := 87) (is := 89) (ic := 91) (Ts := wsX4_corridor) (px := fun E => ∃ k, _ = Sum.inl k ∧ E = en k) hx hb hlt hQ hAe (hml.trans hl.1.symm) hown hts hlocks hout hTX hP hD hS (by decide) (by decide +kernel) (by decide +kernel) (by decide +kernel) (by decide +kernel) (by decide +kernel) (by decide +kernel) dX4_corridor_15 dX4_corridor_18 dX4_corridor_19 dX4_corridor_21 dX4_corridor_24 ⟨1, rfl, rfl⟩ (by decide) (by decide) (by decide) (by decide) (by decide) (by decide)
  · replace hM := it_n hcc hM
    refine lv_iload_n hx hb dX4_corridor_9 rfl (lv_at hl 3 rfl) ?_
    refine lv_bipush (v := 6) hx hb dX4_corridor_10 (by decide) ?_
    refine lv_icmp_lt (tgt := 25) hx hb dX4_corridor_12 (by decide) (fun hcc => ?_) (fun hcc => ?_)
    · replace hM := it_p hcc hM
      refine lv_aload_n hx hb dX4_corridor_25 rfl (lv_at hl 0 rfl) ?_
      refine va_get (D := D) (ci := 4) (v := .ref (a 0)) (C := RX4) (T := TX4) (N := 2) hx hb hts iX4 hown hK hP 3 rfl rfl 0 (by decide) f10 (fun _ h9 => h9) rfl dX4_corridor_26 ?_
      refine lv_iload_n hx hb dX4_corridor_29 rfl (lv_at hl 2 rfl) ?_
      by_cases hf30 : p2 = 0
      · replace hM := it_p hf30 hM
        refine cR_r (ra := (a 2)) (va_runV (As := [.int p2]) (rest := []) ⟨hx, hb, hml, hown, hts⟩ (kX1_corridors_A (l := l) (D := D) (cI := cI) (cJ := cJ) a (st := st) (co := co) (ro := ro) (cA := cA) (cD := cD) (su := su) (jA := jA) (jD := jD) hf30 H.size) (cwV 1 hts gX4_corridor_X1_corridors rfl rfl rfl (by decide +kernel) ⟨Nat.le_of_ble_eq_true rfl, Nat.le_of_ble_eq_true rfl⟩) (preV [.int p2] hN hK (hP.sub (ws' := (fw a cI cJ st co ro cA cD su jA jD)) [4, 5, 6, 7, 8, 9, 10, 11, 12, 13, 14, 15] rfl) (hD.sub (ws' := (fw a cI cJ st co ro cA cD su jA jD)) [4, 5, 6, 7, 8, 9, 10, 11, 12, 13, 14, 15] (by decide) rfl) (ci := 1) (q0 := 0) rfl rfl) rfl rfl hl.1 rfl (lv_room (Nat.le_of_ble_eq_true rfl)) dX4_corridor_30 ⟨Nat.le_of_ble_eq_true rfl, Nat.le_of_ble_eq_true rfl⟩) hP hS (fun H locs hP hS => ?_)
        refine lv_iload_n hx hb dX4_corridor_33 rfl (lv_at hl 1 rfl) ?_
        refine lv_iload_n hx hb dX4_corridor_34 rfl (lv_at hl 3 rfl) ?_
        obtain ⟨x35, hC, hM⟩ := bd_s hM
        refine cW_i [4, 5, 6, 7, 8, 9, 10, 11, 12, 13, 14, 15] [0, 1, 2, 3] (va_runV (As := [.int p1, .int p3]) (rest := []) ⟨hx, hb, hml, hown, hts⟩ (kX0_tell_A (l := l) (D := D) (cI := cI) (cJ := cJ) N a (st := st) (co := co) (ro := ro) (cA := cA) (cD := cD) (su := su) (jA := jA) (jD := jD) (p1 := p1) (p2 := p3) hC H.size) (cwV 2 hts gX4_corridor_X0_tell rfl rfl rfl (by decide +kernel) ⟨Nat.le_of_ble_eq_true rfl, Nat.le_of_ble_eq_true rfl⟩) (preV [.int p1, .int p3] hN hK (hP.sub (ws' := (fw a cI cJ st co ro cA cD su jA jD)) [4, 5, 6, 7, 8, 9, 10, 11, 12, 13, 14, 15] rfl) (hD.sub (ws' := (fw a cI cJ st co ro cA cD su jA jD)) [4, 5, 6, 7, 8, 9, 10, 11, 12, 13, 14, 15] (by decide) rfl) (ci := 0) (q0 := 2) rfl rfl) rfl rfl hl.1 rfl (lv_room (Nat.le_of_ble_eq_true rfl)) dX4_corridor_35 ⟨Nat.le_of_ble_eq_true rfl, Nat.le_of_ble_eq_true rfl⟩) hP hD hS hA rfl (wr := ((xw a cI cJ ho ke hc tr fo fr st co ro cA cD su jA jD)).take 4) rfl (by decide) (by decide) (fun r u35 H locs hw hP hD hS => ?_)
        replace hP : va_P D vwCl (xw a cI cJ ho ke hc tr fo fr st co ro cA cD su u35.1 u35.2) H := hP
        replace hD : va_D A (xw a cI cJ ho ke hc tr fo fr st co ro cA cD su u35.1 u35.2) := hD
        rw [hw]
        obtain rfl := Option.some.inj hM
        subst hQ hAe
        refine vx_ret ?_
        refine W.widen (k := 2) (n := 12) (by decide) (by decide) ?_
        exact W.iret (v := x35) hx hb hr (fun t ht hW => ⟨⟨x35, (x35, (u35.1, u35.2)), rfl, ⟨rfl, rfl⟩, ⟨by rw [ht]; exact hP, hD⟩⟩, hS.F ht⟩) hS.2.2 dX4_corridor_38
      · replace hM := it_n hf30 hM
        refine cR_r (ra := (a 3)) (va_runV (As := [.int p2]) (rest := []) ⟨hx, hb, hml, hown, hts⟩ (kX1_corridors_D (l := l) (D := D) (cI := cI) (cJ := cJ) a (st := st) (co := co) (ro := ro) (cA := cA) (cD := cD) (su := su) (jA := jA) (jD := jD) hf30 H.size) (cwV 1 hts gX4_corridor_X1_corridors rfl rfl rfl (by decide +kernel) ⟨Nat.le_of_ble_eq_true rfl, Nat.le_of_ble_eq_true rfl⟩) (preV [.int p2] hN hK (hP.sub (ws' := (fw a cI cJ st co ro cA cD su jA jD)) [4, 5, 6, 7, 8, 9, 10, 11, 12, 13, 14, 15] rfl) (hD.sub (ws' := (fw a cI cJ st co ro cA cD su jA jD)) [4, 5, 6, 7, 8, 9, 10, 11, 12, 13, 14, 15] (by decide) rfl) (ci := 1) (q0 := 0) rfl rfl) rfl rfl hl.1 rfl (lv_room (Nat.le_of_ble_eq_true rfl)) dX4_corridor_30 ⟨Nat.le_of_ble_eq_true rfl, Nat.le_of_ble_eq_true rfl⟩) hP hS (fun H locs hP hS => ?_)
        refine lv_iload_n hx hb dX4_corridor_33 rfl (lv_at hl 1 rfl) ?_
        refine lv_iload_n hx hb dX4_corridor_34 rfl (lv_at hl 3 rfl) ?_
        obtain ⟨x35, hC, hM⟩ := bd_s hM
        refine cW_i [4, 5, 6, 7, 8, 9, 10, 11, 12, 13, 14, 15] [0, 1, 2, 3] (va_runV (As := [.int p1, .int p3]) (rest := []) ⟨hx, hb, hml, hown, hts⟩ (kX0_tell_D (l := l) (D := D) (cI := cI) (cJ := cJ) N a (st := st) (co := co) (ro := ro) (cA := cA) (cD := cD) (su := su) (jA := jA) (jD := jD) (p1 := p1) (p2 := p3) hC H.size) (cwV 2 hts gX4_corridor_X0_tell rfl rfl rfl (by decide +kernel) ⟨Nat.le_of_ble_eq_true rfl, Nat.le_of_ble_eq_true rfl⟩) (preV [.int p1, .int p3] hN hK (hP.sub (ws' := (fw a cI cJ st co ro cA cD su jA jD)) [4, 5, 6, 7, 8, 9, 10, 11, 12, 13, 14, 15] rfl) (hD.sub (ws' := (fw a cI cJ st co ro cA cD su jA jD)) [4, 5, 6, 7, 8, 9, 10, 11, 12, 13, 14, 15] (by decide) rfl) (ci := 0) (q0 := 3) rfl rfl) rfl rfl hl.1 rfl (lv_room (Nat.le_of_ble_eq_true rfl)) dX4_corridor_35 ⟨Nat.le_of_ble_eq_true rfl, Nat.le_of_ble_eq_true rfl⟩) hP hD hS hA rfl (wr := ((xw a cI cJ ho ke hc tr fo fr st co ro cA cD su jA jD)).take 4) rfl (by decide) (by decide) (fun r u35 H locs hw hP hD hS => ?_)
        replace hP : va_P D vwCl (xw a cI cJ ho ke hc tr fo fr st co ro cA cD su u35.1 u35.2) H := hP
        replace hD : va_D A (xw a cI cJ ho ke hc tr fo fr st co ro cA cD su u35.1 u35.2) := hD
        rw [hw]
        obtain rfl := Option.some.inj hM
        subst hQ hAe
        refine vx_ret ?_
        refine W.widen (k := 2) (n := 12) (by decide) (by decide) ?_
        exact W.iret (v := x35) hx hb hr (fun t ht hW => ⟨⟨x35, (x35, (u35.1, u35.2)), rfl, ⟨rfl, rfl⟩, ⟨by rw [ht]; exact hP, hD⟩⟩, hS.F ht⟩) hS.2.2 dX4_corridor_38
    · replace hM := it_n hcc hM
      obtain rfl := Option.some.inj hM
      exact thr (cls := xIO) (text := "nothing of a corridor has this number") (ik := 87) (is := 89) (ic := 91) (Ts := wsX4_corridor) (px := fun E => ∃ k, _ = Sum.inl k ∧ E = en k) hx hb hlt hQ hAe (hml.trans hl.1.symm) hown hts hlocks hout hTX hP hD hS (by decide) (by decide +kernel) (by decide +kernel) (by decide +kernel) (by decide +kernel) (by decide +kernel) (by decide +kernel) dX4_corridor_15 dX4_corridor_18 dX4_corridor_19 dX4_corridor_21 dX4_corridor_24 ⟨1, rfl, rfl⟩ (by decide) (by decide) (by decide) (by decide) (by decide) (by decide)
def mX4_can (N : Nat) (st : RowI) (co : Int32) (ro : Int32) (cA : CS) (cD : CS) (su : RowJ) (p1 : Int32) : Option (Nat ⊕ Int32) :=
  ((mX4_checkCell N co ro p1).bind fun x2 => Sum.elim (fun k => some (.inl k)) (fun y2 =>
  ((mX1_numbersFor N st cA cD su p1).bind fun x10 =>
  some (.inr x10))) x2)
abbrev rmX4_can : Room := { frames := 7, cells := 1, slots := 6, locals := 117 }
set_option maxHeartbeats 4000000 in
set_option maxRecDepth 100000 in
theorem kX4_can {l : Launch} {D : va_G} {cI cJ : ClassId} (hlt : l.stackTraces = false) (N : Nat) (a : Nat → Nat) {ho : RowI} {ke : RowI} {hc : Int32} {tr : Int32} {fo : Int32} {fr : Int32} {st : RowI} {co : Int32} {ro : Int32} {cA : CS} {cD : CS} {su : RowJ} {jA : JT} {jD : JT} {p1 : Int32} {o : (Nat ⊕ Int32)} (hM : mX4_can N st co ro cA cD su p1 = some o) (sz : Nat) : vx_Met l yX4_can wsX4_can rmX4_can (va_Pc [.ref (a 15), .int p1] (PreT D cI cJ (xw a cI cJ ho ke hc tr fo fr st co ro cA cD su jA jD) sz)) (va_Qi (fun (r : Int32) (u : Int32 × (JT × JT)) => o = .inr u.1 ∧ r = u.1) (aft D (xw a cI cJ ho ke hc tr fo fr st co ro cA cD su jA jD) sz (fun (u : Int32 × (JT × JT)) => (xw a cI cJ ho ke hc tr fo fr st co ro cA cD su u.2.1 u.2.2))) (va_A (xw a cI cJ ho ke hc tr fo fr st co ro cA cD su jA jD) sz)) (aftX D (fun E => ∃ k, o = .inl k ∧ E = en k) (xw a cI cJ ho ke hc tr fo fr st co ro cA cD su jA jD) sz) 1 6 (va_A (xw a cI cJ ho ke hc tr fo fr st co ro cA cD su jA jD) sz) := by
  refine xofT (cc := cX4_can) (maxL := 2) (ret := (some .int)) rfl (by decide) rfl ?_
  intro p e s m args below meth c ls Q A hQ hAe hx hb hr hml hown hts hlocks hout hTX hN hK H locs hP hD hS hA hl
  replace hown : s.vm.findClass RX4 = some m.cls := hown
  replace hl : lv_has ls 2 [(0, .ref (a 15)), (1, .int p1)] := hl
  have iX4 : ∀ w ∈ wsX40, w ∈ wsX4_can := by decide +kernel
  have f10 := hts (.fieldLink RX4 10 "CryptSums" "floor" "LCryptSums$Floor;") (by decide +kernel)
  rw [mX4_can] at hM
  refine lv_aload_n hx hb dX4_can_0 rfl (lv_at hl 0 rfl) ?_
  refine lv_iload_n hx hb dX4_can_1 rfl (lv_at hl 1 rfl) ?_
  obtain ⟨x2, hC, hM⟩ := bd_s hM
  refine cT_v [0, 1, 2, 3, 4, 5, 6, 7, 8, 9, 10, 11, 12, 13, 14, 15] [] [0, 1, 2, 3, 4, 5, 6, 7, 8, 9, 10, 11, 12, 13, 14, 15] (vx_runV (As := [.int p1]) (rest := []) ⟨hx, hb, hml, hown, hts⟩ (kX4_checkCell (l := l) (D := D) (cI := cI) (cJ := cJ) hlt N a (ho := ho) (ke := ke) (hc := hc) (tr := tr) (fo := fo) (fr := fr) (st := st) (co := co) (ro := ro) (cA := cA) (cD := cD) (su := su) (jA := jA) (jD := jD) (p1 := p1) hC H.size) (cwV 1 hts gX4_can_X4_checkCell rfl rfl rfl (by decide +kernel) ⟨Nat.le_of_ble_eq_true rfl, Nat.le_of_ble_eq_true rfl⟩) (preVT [.int p1] hTX hS (va_free (wc := (xw a cI cJ ho ke hc tr fo fr st co ro cA cD su jA jD)) hD hS hA [0, 1, 2, 3, 4, 5, 6, 7, 8, 9, 10, 11, 12, 13, 14, 15] rfl) hN hK hP hD (ci := 4) (q0 := 3) rfl rfl) rfl rfl hl.1 rfl (lv_room (Nat.le_of_ble_eq_true rfl)) dX4_can_2 ⟨Nat.le_of_ble_eq_true rfl, Nat.le_of_ble_eq_true rfl⟩) hP hD hS hA rfl (wr := []) rfl (by decide) (by decide) rfl (by decide) rfl (fun E ce q9 H locs hE hP hD hS h1 h2 h3 => ?_) (fun u2 H locs hw hP hD hS => ?_)
  · obtain ⟨k, hk, hE⟩ := hE
    subst hk
    obtain rfl := Option.some.inj (show some (Sum.inl k) = some o from hM)
    exact thr_on (px := fun E => ∃ k, _ = Sum.inl k ∧ E = en k) hQ hAe hout hlocks ⟨k, rfl, hE⟩ hP hD hS h1 h2 h3 (by decide) (by decide)
  have hxx := hw
  subst hxx
  dsimp only [Sum.elim] at hM
  replace hP : va_P D vwCl (xw a cI cJ ho ke hc tr fo fr st co ro cA cD su jA jD) H := hP
  replace hD : va_D A (xw a cI cJ ho ke hc tr fo fr st co ro cA cD su jA jD) := hD
  refine lv_aload_n hx hb dX4_can_5 rfl (lv_at hl 0 rfl) ?_
  refine va_get (D := D) (ci := 4) (v := .ref (a 0)) (C := RX4) (T := TX4) (N := 2) hx hb hts iX4 hown hK hP 3 rfl rfl 0 (by decide) f10 (fun _ h9 => h9) rfl dX4_can_6 ?_
  refine lv_iload_n hx hb dX4_can_9 rfl (lv_at hl 1 rfl) ?_
  obtain ⟨x10, hC, hM⟩ := bd_s hM
  refine cW_i [4, 5, 6, 7, 8, 9, 10, 11, 12, 13, 14, 15] [0, 1, 2, 3] (va_runV (As := [.int p1]) (rest := []) ⟨hx, hb, hml, hown, hts⟩ (kX1_numbersFor (l := l) (D := D) (cI := cI) (cJ := cJ) N a (st := st) (co := co) (ro := ro) (cA := cA) (cD := cD) (su := su) (jA := jA) (jD := jD) (p1 := p1) hC H.size) (cwV 1 hts gX4_can_X1_numbersFor rfl rfl rfl (by decide +kernel) ⟨Nat.le_of_ble_eq_true rfl, Nat.le_of_ble_eq_true rfl⟩) (preV [.int p1] hN hK (hP.sub (ws' := (fw a cI cJ st co ro cA cD su jA jD)) [4, 5, 6, 7, 8, 9, 10, 11, 12, 13, 14, 15] rfl) (hD.sub (ws' := (fw a cI cJ st co ro cA cD su jA jD)) [4, 5, 6, 7, 8, 9, 10, 11, 12, 13, 14, 15] (by decide) rfl) (ci := 1) (q0 := 0) rfl rfl) rfl rfl hl.1 rfl (lv_room (Nat.le_of_ble_eq_true rfl)) dX4_can_10 ⟨Nat.le_of_ble_eq_true rfl, Nat.le_of_ble_eq_true rfl⟩) hP hD hS hA rfl (wr := ((xw a cI cJ ho ke hc tr fo fr st co ro cA cD su jA jD)).take 4) rfl (by decide) (by decide) (fun r u10 H locs hw hP hD hS => ?_)
  replace hP : va_P D vwCl (xw a cI cJ ho ke hc tr fo fr st co ro cA cD su u10.1 u10.2) H := hP
  replace hD : va_D A (xw a cI cJ ho ke hc tr fo fr st co ro cA cD su u10.1 u10.2) := hD
  rw [hw]
  obtain rfl := Option.some.inj hM
  subst hQ hAe
  refine vx_ret ?_
  refine W.widen (k := 1) (n := 6) (by decide) (by decide) ?_
  exact W.iret (v := x10) hx hb hr (fun t ht hW => ⟨⟨x10, (x10, (u10.1, u10.2)), rfl, ⟨rfl, rfl⟩, ⟨by rw [ht]; exact hP, hD⟩⟩, hS.F ht⟩) hS.2.2 dX4_can_13
def mX4_count (N : Nat) (st : RowI) (co : Int32) (ro : Int32) (cA : CS) (cD : CS) (su : RowJ) (p1 : Int32) : Option (Nat ⊕ Int32) :=
  (if p1 < 0 then
  some (.inl 1)
  else
  (if p1 < (9 : Int32) then
  ((mX1_tally N st co ro cA cD su p1).bind fun x25 =>
  some (.inr x25))
  else
  some (.inl 1)))
abbrev rmX4_count : Room := { frames := 6, cells := 1, slots := 6, locals := 139 }
set_option maxHeartbeats 4000000 in
set_option maxRecDepth 100000 in
theorem kX4_count {l : Launch} {D : va_G} {cI cJ : ClassId} (hlt : l.stackTraces = false) (N : Nat) (a : Nat → Nat) {ho : RowI} {ke : RowI} {hc : Int32} {tr : Int32} {fo : Int32} {fr : Int32} {st : RowI} {co : Int32} {ro : Int32} {cA : CS} {cD : CS} {su : RowJ} {jA : JT} {jD : JT} {p1 : Int32} {o : (Nat ⊕ Int32)} (hM : mX4_count N st co ro cA cD su p1 = some o) (sz : Nat) : vx_Met l yX4_count wsX4_count rmX4_count (va_Pc [.ref (a 15), .int p1] (PreT D cI cJ (xw a cI cJ ho ke hc tr fo fr st co ro cA cD su jA jD) sz)) (va_Qi (fun (r : Int32) (u : Int32 × (JT × JT)) => o = .inr u.1 ∧ r = u.1) (aft D (xw a cI cJ ho ke hc tr fo fr st co ro cA cD su jA jD) sz (fun (u : Int32 × (JT × JT)) => (xw a cI cJ ho ke hc tr fo fr st co ro cA cD su u.2.1 u.2.2))) (va_A (xw a cI cJ ho ke hc tr fo fr st co ro cA cD su jA jD) sz)) (aftX D (fun E => ∃ k, o = .inl k ∧ E = en k) (xw a cI cJ ho ke hc tr fo fr st co ro cA cD su jA jD) sz) 1 6 (va_A (xw a cI cJ ho ke hc tr fo fr st co ro cA cD su jA jD) sz) := by
  refine xofT (cc := cX4_count) (maxL := 2) (ret := (some .int)) rfl (by decide) rfl ?_
  intro p e s m args below meth c ls Q A hQ hAe hx hb hr hml hown hts hlocks hout hTX hN hK H locs hP hD hS hA hl
  replace hown : s.vm.findClass RX4 = some m.cls := hown
  replace hl : lv_has ls 2 [(0, .ref (a 15)), (1, .int p1)] := hl
  have iX4 : ∀ w ∈ wsX40, w ∈ wsX4_count := by decide +kernel
  have f10 := hts (.fieldLink RX4 10 "CryptSums" "floor" "LCryptSums$Floor;") (by decide +kernel)
  rw [mX4_count] at hM
  refine lv_iload_n hx hb dX4_count_0 rfl (lv_at hl 1 rfl) ?_
  refine lv_if_lt (tgt := 10) hx hb dX4_count_1 (by decide) (fun hcc => ?_) (fun hcc => ?_)
  · replace hM := it_p hcc hM
    obtain rfl := Option.some.inj hM
    exact thr (cls := xIO) (text := "no count has this number") (ik := 87) (is := 95) (ic := 91) (Ts := wsX4_count) (px := fun E => ∃ k, _ = Sum.inl k ∧ E = en k) hx hb hlt hQ hAe (hml.trans hl.1.symm) hown hts hlocks hout hTX hP hD hS (by decide) (by decide +kernel) (by decide +kernel) (by decide +kernel) (by decide +kernel) (by decide +kernel) (by decide +kernel) dX4_count_10 dX4_count_13 dX4_count_14 dX4_count_16 dX4_count_19 ⟨1, rfl, rfl⟩ (by decide) (by decide) (by decide) (by decide) (by decide) (by decide)
  · replace hM := it_n hcc hM
    refine lv_iload_n hx hb dX4_count_4 rfl (lv_at hl 1 rfl) ?_
    refine lv_bipush (v := 9) hx hb dX4_count_5 (by decide) ?_
    refine lv_icmp_lt (tgt := 20) hx hb dX4_count_7 (by decide) (fun hcc => ?_) (fun hcc => ?_)
    · replace hM := it_p hcc hM
      refine lv_aload_n hx hb dX4_count_20 rfl (lv_at hl 0 rfl) ?_
      refine va_get (D := D) (ci := 4) (v := .ref (a 0)) (C := RX4) (T := TX4) (N := 2) hx hb hts iX4 hown hK hP 3 rfl rfl 0 (by decide) f10 (fun _ h9 => h9) rfl dX4_count_21 ?_
      refine lv_iload_n hx hb dX4_count_24 rfl (lv_at hl 1 rfl) ?_
      obtain ⟨x25, hC, hM⟩ := bd_s hM
      refine cW_i [4, 5, 6, 7, 8, 9, 10, 11, 12, 13, 14, 15] [0, 1, 2, 3] (va_runV (As := [.int p1]) (rest := []) ⟨hx, hb, hml, hown, hts⟩ (kX1_tally (l := l) (D := D) (cI := cI) (cJ := cJ) N a (st := st) (co := co) (ro := ro) (cA := cA) (cD := cD) (su := su) (jA := jA) (jD := jD) (p1 := p1) hC H.size) (cwV 1 hts gX4_count_X1_tally rfl rfl rfl (by decide +kernel) ⟨Nat.le_of_ble_eq_true rfl, Nat.le_of_ble_eq_true rfl⟩) (preV [.int p1] hN hK (hP.sub (ws' := (fw a cI cJ st co ro cA cD su jA jD)) [4, 5, 6, 7, 8, 9, 10, 11, 12, 13, 14, 15] rfl) (hD.sub (ws' := (fw a cI cJ st co ro cA cD su jA jD)) [4, 5, 6, 7, 8, 9, 10, 11, 12, 13, 14, 15] (by decide) rfl) (ci := 1) (q0 := 0) rfl rfl) rfl rfl hl.1 rfl (lv_room (Nat.le_of_ble_eq_true rfl)) dX4_count_25 ⟨Nat.le_of_ble_eq_true rfl, Nat.le_of_ble_eq_true rfl⟩) hP hD hS hA rfl (wr := ((xw a cI cJ ho ke hc tr fo fr st co ro cA cD su jA jD)).take 4) rfl (by decide) (by decide) (fun r u25 H locs hw hP hD hS => ?_)
      replace hP : va_P D vwCl (xw a cI cJ ho ke hc tr fo fr st co ro cA cD su u25.1 u25.2) H := hP
      replace hD : va_D A (xw a cI cJ ho ke hc tr fo fr st co ro cA cD su u25.1 u25.2) := hD
      rw [hw]
      obtain rfl := Option.some.inj hM
      subst hQ hAe
      refine vx_ret ?_
      refine W.widen (k := 1) (n := 6) (by decide) (by decide) ?_
      exact W.iret (v := x25) hx hb hr (fun t ht hW => ⟨⟨x25, (x25, (u25.1, u25.2)), rfl, ⟨rfl, rfl⟩, ⟨by rw [ht]; exact hP, hD⟩⟩, hS.F ht⟩) hS.2.2 dX4_count_28
    · replace hM := it_n hcc hM
      obtain rfl := Option.some.inj hM
      exact thr (cls := xIO) (text := "no count has this number") (ik := 87) (is := 95) (ic := 91) (Ts := wsX4_count) (px := fun E => ∃ k, _ = Sum.inl k ∧ E = en k) hx hb hlt hQ hAe (hml.trans hl.1.symm) hown hts hlocks hout hTX hP hD hS (by decide) (by decide +kernel) (by decide +kernel) (by decide +kernel) (by decide +kernel) (by decide +kernel) (by decide +kernel) dX4_count_10 dX4_count_13 dX4_count_14 dX4_count_16 dX4_count_19 ⟨1, rfl, rfl⟩ (by decide) (by decide) (by decide) (by decide) (by decide) (by decide)
def mX4_ways_10 (N : Nat) (p1 : Int32) (p2 : Int32) : Nat → Int32 → Int32 → Option (Nat ⊕ Int32)
  | 0 => fun _ _ => none
  | n + 1 => fun v3 v4 => (if (1022 : Int32) < v4 then
  some (.inr v3)
  else
  ((mX4_isPartition N v4 p1 p2).bind fun x22 =>
  (if x22 = 0 then
  (mX4_ways_10 N p1 p2 n v3 (v4 + 2))
  else
  (mX4_ways_10 N p1 p2 n (v3 + 1) (v4 + 2)))))
def mX4_ways (N : Nat) (p1 : Int32) (p2 : Int32) : Option (Nat ⊕ Int32) :=
  ((mX4_checkPartition N p1 p2).bind fun x2 => Sum.elim (fun k => some (.inl k)) (fun y2 =>
  (mX4_ways_10 N p1 p2 N (0 : Int32) (0 : Int32))) x2)
abbrev rmX4_ways : Room := { frames := 7, cells := 1, slots := 6, locals := 117 }
set_option maxHeartbeats 4000000 in
set_option maxRecDepth 100000 in
theorem kX4_ways {l : Launch} {D : va_G} {cI cJ : ClassId} (hlt : l.stackTraces = false) (N : Nat) (a : Nat → Nat) {ho : RowI} {ke : RowI} {hc : Int32} {tr : Int32} {fo : Int32} {fr : Int32} {st : RowI} {co : Int32} {ro : Int32} {cA : CS} {cD : CS} {su : RowJ} {jA : JT} {jD : JT} {p1 : Int32} {p2 : Int32} {o : (Nat ⊕ Int32)} (hM : mX4_ways N p1 p2 = some o) (sz : Nat) : vx_Met l yX4_ways wsX4_ways rmX4_ways (va_Pc [.ref (a 15), .int p1, .int p2] (PreT D cI cJ (xw a cI cJ ho ke hc tr fo fr st co ro cA cD su jA jD) sz)) (va_Qi (fun (r : Int32) (u : Int32 × (JT × JT)) => o = .inr u.1 ∧ r = u.1) (aft D (xw a cI cJ ho ke hc tr fo fr st co ro cA cD su jA jD) sz (fun (u : Int32 × (JT × JT)) => (xw a cI cJ ho ke hc tr fo fr st co ro cA cD su jA jD))) (va_A (xw a cI cJ ho ke hc tr fo fr st co ro cA cD su jA jD) sz)) (aftX D (fun E => ∃ k, o = .inl k ∧ E = en k) (xw a cI cJ ho ke hc tr fo fr st co ro cA cD su jA jD) sz) 1 6 (va_A (xw a cI cJ ho ke hc tr fo fr st co ro cA cD su jA jD) sz) := by
  refine xofT (cc := cX4_ways) (maxL := 5) (ret := (some .int)) rfl (by decide) rfl ?_
  intro p e s m args below meth c ls Q A hQ hAe hx hb hr hml hown hts hlocks hout hTX hN hK H locs hP hD hS hA hl
  replace hown : s.vm.findClass RX4 = some m.cls := hown
  replace hl : lv_has ls 5 [(0, .ref (a 15)), (1, .int p1), (2, .int p2)] := hl
  have c10 : ∀ (n : Nat), ∀ (v3 : Int32) (v4 : Int32), mX4_ways_10 N p1 p2 n v3 v4 = some o → ∀ (H : Heap) (locs : List Loc) (ls : Array Slot), va_P D vwCl (xw a cI cJ ho ke hc tr fo fr st co ro cA cD su jA jD) H → va_D A (xw a cI cJ ho ke hc tr fo fr st co ro cA cD su jA jD) → va_S A s.heap H locs → lv_has ls 5 [(1, .int p1), (2, .int p2), (3, .int v3), (4, .int v4)] → W p l e rmX4_ways s m args below meth c H locs 1 6 Q (F0 m 10 ls []) := by
    intro n
    induction n with
    | zero =>
      intro v3 v4 hM
      rw [mX4_ways_10] at hM
      cases hM
    | succ n ih =>
      intro v3 v4 hM H locs ls hP hD hS hl
      rw [mX4_ways_10] at hM
      refine lv_iload hx hb dX4_ways_10 (lv_at hl 3 rfl) ?_
      refine lv_sipush (v := 1022) hx hb dX4_ways_12 (by decide) ?_
      refine lv_icmp_gt (tgt := 37) hx hb dX4_ways_15 (by decide) (fun hcc => ?_) (fun hcc => ?_)
      · replace hM := it_p hcc hM
        refine lv_iload_n hx hb dX4_ways_37 rfl (lv_at hl 2 rfl) ?_
        obtain rfl := Option.some.inj hM
        subst hQ hAe
        refine vx_ret ?_
        refine W.widen (k := 1) (n := 6) (by decide) (by decide) ?_
        exact W.iret (v := v3) hx hb hr (fun t ht hW => ⟨⟨v3, (v3, (jA, jD)), rfl, ⟨rfl, rfl⟩, ⟨by rw [ht]; exact hP, hD⟩⟩, hS.F ht⟩) hS.2.2 dX4_ways_38
      · replace hM := it_n hcc hM
        refine lv_iload hx hb dX4_ways_18 (lv_at hl 3 rfl) ?_
        refine lv_iload_n hx hb dX4_ways_20 rfl (lv_at hl 0 rfl) ?_
        refine lv_iload_n hx hb dX4_ways_21 rfl (lv_at hl 1 rfl) ?_
        obtain ⟨x22, hC, hM⟩ := bd_s hM
        refine cR_i (va_runS (As := [.int v4, .int p1, .int p2]) (rest := []) ⟨hx, hb, hml, hown, hts⟩ (kX4_isPartition (l := l) (D := D) (cI := cI) (cJ := cJ) N (p1 := v4) (p2 := p1) (p3 := p2) hC H.size) (va_cwS 3 hts gX4_ways_X4_isPartition rfl rfl rfl (by decide +kernel) ⟨Nat.le_of_ble_eq_true rfl, Nat.le_of_ble_eq_true rfl⟩) (preS [.int v4, .int p1, .int p2] hN hK (hP.sub (ws' := zw) [] rfl) (hD.sub (ws' := zw) [] (by decide) rfl)) rfl rfl hl.1 rfl (lv_room (Nat.le_of_ble_eq_true rfl)) dX4_ways_22 ⟨Nat.le_of_ble_eq_true rfl, Nat.le_of_ble_eq_true rfl⟩) hP hS (fun r u H locs hw hP hS => ?_)
        obtain ⟨hw, hz22⟩ := hw
        rw [hw] at hz22
        rw [hw]
        refine lv_if_eq (tgt := 31) hx hb dX4_ways_25 (by decide) (fun hcc => ?_) (fun hcc => ?_)
        · replace hM := it_p hcc hM
          refine lv_iinc (v := (v4 + 2)) (lv' := [(4, .int (v4 + 2)), (1, .int p1), (2, .int p2), (3, .int v3)]) hx hb dX4_ways_31 hl (k := 3) rfl (by rfl) (by decide) rfl (fun ls hl => ?_)
          refine lv_goto (tgt := 10) hx hb dX4_ways_34 (by decide) ?_
          exact ih v3 (v4 + 2) hM H locs ls hP hD hS (lv_sub hl [1, 2, 3, 0] rfl)
        · replace hM := it_n hcc hM
          refine lv_iinc (v := (v3 + 1)) (lv' := [(3, .int (v3 + 1)), (1, .int p1), (2, .int p2), (4, .int v4)]) hx hb dX4_ways_28 hl (k := 2) rfl (by rfl) (by decide) rfl (fun ls hl => ?_)
          refine lv_iinc (v := (v4 + 2)) (lv' := [(4, .int (v4 + 2)), (3, .int (v3 + 1)), (1, .int p1), (2, .int p2)]) hx hb dX4_ways_31 hl (k := 3) rfl (by rfl) (by decide) rfl (fun ls hl => ?_)
          refine lv_goto (tgt := 10) hx hb dX4_ways_34 (by decide) ?_
          exact ih (v3 + 1) (v4 + 2) hM H locs ls hP hD hS (lv_sub hl [2, 3, 1, 0] rfl)
  rw [mX4_ways] at hM
  refine lv_iload_n hx hb dX4_ways_0 rfl (lv_at hl 1 rfl) ?_
  refine lv_iload_n hx hb dX4_ways_1 rfl (lv_at hl 2 rfl) ?_
  obtain ⟨x2, hC, hM⟩ := bd_s hM
  refine cT_v [] [0, 1, 2, 3, 4, 5, 6, 7, 8, 9, 10, 11, 12, 13, 14, 15] [0, 1, 2, 3, 4, 5, 6, 7, 8, 9, 10, 11, 12, 13, 14, 15] (vx_runS (As := [.int p1, .int p2]) (rest := []) ⟨hx, hb, hml, hown, hts⟩ (kX4_checkPartition (l := l) (D := D) (cI := cI) (cJ := cJ) hlt N (p1 := p1) (p2 := p2) hC H.size) (va_cwS 2 hts gX4_ways_X4_checkPartition rfl rfl rfl (by decide +kernel) ⟨Nat.le_of_ble_eq_true rfl, Nat.le_of_ble_eq_true rfl⟩) (preST [.int p1, .int p2] hTX hS (va_free (wc := zw) hD hS hA [] rfl) hN hK (hP.sub (ws' := zw) [] rfl) (hD.sub (ws' := zw) [] (by decide) rfl)) rfl rfl hl.1 rfl (lv_room (Nat.le_of_ble_eq_true rfl)) dX4_ways_2 ⟨Nat.le_of_ble_eq_true rfl, Nat.le_of_ble_eq_true rfl⟩) hP hD hS hA rfl (wr := (((xw a cI cJ ho ke hc tr fo fr st co ro cA cD su jA jD)).take 16)) rfl (by decide) (by decide) rfl (by decide) rfl (fun E ce q9 H locs hE hP hD hS h1 h2 h3 => ?_) (fun u2 H locs hw hP hD hS => ?_)
  · obtain ⟨k, hk, hE⟩ := hE
    subst hk
    obtain rfl := Option.some.inj (show some (Sum.inl k) = some o from hM)
    exact thr_on (px := fun E => ∃ k, _ = Sum.inl k ∧ E = en k) hQ hAe hout hlocks ⟨k, rfl, hE⟩ hP hD hS h1 h2 h3 (by decide) (by decide)
  have hxx := hw
  subst hxx
  dsimp only [Sum.elim] at hM
  replace hP := hP.sub (ws' := (xw a cI cJ ho ke hc tr fo fr st co ro cA cD su jA jD)) [0, 1, 2, 3, 4, 5, 6, 7, 8, 9, 10, 11, 12, 13, 14, 15] rfl
  replace hD := hD.sub (ws' := (xw a cI cJ ho ke hc tr fo fr st co ro cA cD su jA jD)) [0, 1, 2, 3, 4, 5, 6, 7, 8, 9, 10, 11, 12, 13, 14, 15] (by decide) rfl
  refine lv_iconst (v := 0) hx hb dX4_ways_5 (by decide) ?_
  refine lv_istore_n (lv' := [(3, .int (0 : Int32)), (0, .ref (a 15)), (1, .int p1), (2, .int p2)]) hx hb dX4_ways_6 rfl hl (by decide) rfl (fun ls hl => ?_)
  refine lv_iconst (v := 0) hx hb dX4_ways_7 (by decide) ?_
  refine lv_istore (lv' := [(4, .int (0 : Int32)), (3, .int (0 : Int32)), (0, .ref (a 15)), (1, .int p1), (2, .int p2)]) hx hb dX4_ways_8 hl (by decide) rfl (fun ls hl => ?_)
  exact c10 N (0 : Int32) (0 : Int32) hM H locs ls hP hD hS (lv_sub hl [3, 4, 1, 0] rfl)
def mX4_forced_15 (N : Nat) (p1 : Int32) (p2 : Int32) : Nat → Int32 → Int32 → Int32 → Option (Nat ⊕ Int32)
  | 0 => fun _ _ _ => none
  | n + 1 => fun v3 v4 v5 => (if (1022 : Int32) < v5 then
  (if v3 = 0 then
  some (.inr (0 : Int32))
  else
  some (.inr v4))
  else
  ((mX4_isPartition N v5 p1 p2).bind fun x27 =>
  (if x27 = 0 then
  (mX4_forced_15 N p1 p2 n v3 v4 (v5 + 2))
  else
  (mX4_forced_15 N p1 p2 n (v3 + 1) (v4 &&& v5) (v5 + 2)))))
def mX4_forced (N : Nat) (p1 : Int32) (p2 : Int32) : Option (Nat ⊕ Int32) :=
  ((mX4_checkPartition N p1 p2).bind fun x2 => Sum.elim (fun k => some (.inl k)) (fun y2 =>
  (mX4_forced_15 N p1 p2 N (0 : Int32) (1022 : Int32) (0 : Int32))) x2)
abbrev rmX4_forced : Room := { frames := 7, cells := 1, slots := 6, locals := 117 }
set_option maxHeartbeats 4000000 in
set_option maxRecDepth 100000 in
theorem kX4_forced {l : Launch} {D : va_G} {cI cJ : ClassId} (hlt : l.stackTraces = false) (N : Nat) (a : Nat → Nat) {ho : RowI} {ke : RowI} {hc : Int32} {tr : Int32} {fo : Int32} {fr : Int32} {st : RowI} {co : Int32} {ro : Int32} {cA : CS} {cD : CS} {su : RowJ} {jA : JT} {jD : JT} {p1 : Int32} {p2 : Int32} {o : (Nat ⊕ Int32)} (hM : mX4_forced N p1 p2 = some o) (sz : Nat) : vx_Met l yX4_forced wsX4_forced rmX4_forced (va_Pc [.ref (a 15), .int p1, .int p2] (PreT D cI cJ (xw a cI cJ ho ke hc tr fo fr st co ro cA cD su jA jD) sz)) (va_Qi (fun (r : Int32) (u : Int32 × (JT × JT)) => o = .inr u.1 ∧ r = u.1) (aft D (xw a cI cJ ho ke hc tr fo fr st co ro cA cD su jA jD) sz (fun (u : Int32 × (JT × JT)) => (xw a cI cJ ho ke hc tr fo fr st co ro cA cD su jA jD))) (va_A (xw a cI cJ ho ke hc tr fo fr st co ro cA cD su jA jD) sz)) (aftX D (fun E => ∃ k, o = .inl k ∧ E = en k) (xw a cI cJ ho ke hc tr fo fr st co ro cA cD su jA jD) sz) 1 6 (va_A (xw a cI cJ ho ke hc tr fo fr st co ro cA cD su jA jD) sz) := by
  refine xofT (cc := cX4_forced) (maxL := 6) (ret := (some .int)) rfl (by decide) rfl ?_
  intro p e s m args below meth c ls Q A hQ hAe hx hb hr hml hown hts hlocks hout hTX hN hK H locs hP hD hS hA hl
  replace hown : s.vm.findClass RX4 = some m.cls := hown
  replace hl : lv_has ls 6 [(0, .ref (a 15)), (1, .int p1), (2, .int p2)] := hl
  have c15 : ∀ (n : Nat), ∀ (v3 : Int32) (v4 : Int32) (v5 : Int32), mX4_forced_15 N p1 p2 n v3 v4 v5 = some o → ∀ (H : Heap) (locs : List Loc) (ls : Array Slot), va_P D vwCl (xw a cI cJ ho ke hc tr fo fr st co ro cA cD su jA jD) H → va_D A (xw a cI cJ ho ke hc tr fo fr st co ro cA cD su jA jD) → va_S A s.heap H locs → lv_has ls 6 [(1, .int p1), (2, .int p2), (3, .int v3), (4, .int v4), (5, .int v5)] → W p l e rmX4_forced s m args below meth c H locs 1 6 Q (F0 m 15 ls []) := by
    intro n
    induction n with
    | zero =>
      intro v3 v4 v5 hM
      rw [mX4_forced_15] at hM
      cases hM
    | succ n ih =>
      intro v3 v4 v5 hM H locs ls hP hD hS hl
      rw [mX4_forced_15] at hM
      refine lv_iload hx hb dX4_forced_15 (lv_at hl 4 rfl) ?_
      refine lv_sipush (v := 1022) hx hb dX4_forced_17 (by decide) ?_
      refine lv_icmp_gt (tgt := 49) hx hb dX4_forced_20 (by decide) (fun hcc => ?_) (fun hcc => ?_)
      · replace hM := it_p hcc hM
        refine lv_iload_n hx hb dX4_forced_49 rfl (lv_at hl 2 rfl) ?_
        refine lv_if_ne (tgt := 57) hx hb dX4_forced_50 (by decide) (fun hcc => ?_) (fun hcc => ?_)
        · replace hM := it_n hcc hM
          refine lv_iload hx hb dX4_forced_57 (lv_at hl 3 rfl) ?_
          obtain rfl := Option.some.inj hM
          subst hQ hAe
          refine vx_ret ?_
          refine W.widen (k := 1) (n := 6) (by decide) (by decide) ?_
          exact W.iret (v := v4) hx hb hr (fun t ht hW => ⟨⟨v4, (v4, (jA, jD)), rfl, ⟨rfl, rfl⟩, ⟨by rw [ht]; exact hP, hD⟩⟩, hS.F ht⟩) hS.2.2 dX4_forced_59
        · replace hM := it_p hcc hM
          refine lv_iconst (v := 0) hx hb dX4_forced_53 (by decide) ?_
          refine lv_goto (tgt := 59) hx hb dX4_forced_54 (by decide) ?_
          obtain rfl := Option.some.inj hM
          subst hQ hAe
          refine vx_ret ?_
          refine W.widen (k := 1) (n := 6) (by decide) (by decide) ?_
          exact W.iret (v := (0 : Int32)) hx hb hr (fun t ht hW => ⟨⟨(0 : Int32), ((0 : Int32), (jA, jD)), rfl, ⟨rfl, rfl⟩, ⟨by rw [ht]; exact hP, hD⟩⟩, hS.F ht⟩) hS.2.2 dX4_forced_59
      · replace hM := it_n hcc hM
        refine lv_iload hx hb dX4_forced_23 (lv_at hl 4 rfl) ?_
        refine lv_iload_n hx hb dX4_forced_25 rfl (lv_at hl 0 rfl) ?_
        refine lv_iload_n hx hb dX4_forced_26 rfl (lv_at hl 1 rfl) ?_
        obtain ⟨x27, hC, hM⟩ := bd_s hM
        refine cR_i (va_runS (As := [.int v5, .int p1, .int p2]) (rest := []) ⟨hx, hb, hml, hown, hts⟩ (kX4_isPartition (l := l) (D := D) (cI := cI) (cJ := cJ) N (p1 := v5) (p2 := p1) (p3 := p2) hC H.size) (va_cwS 3 hts gX4_forced_X4_isPartition rfl rfl rfl (by decide +kernel) ⟨Nat.le_of_ble_eq_true rfl, Nat.le_of_ble_eq_true rfl⟩) (preS [.int v5, .int p1, .int p2] hN hK (hP.sub (ws' := zw) [] rfl) (hD.sub (ws' := zw) [] (by decide) rfl)) rfl rfl hl.1 rfl (lv_room (Nat.le_of_ble_eq_true rfl)) dX4_forced_27 ⟨Nat.le_of_ble_eq_true rfl, Nat.le_of_ble_eq_true rfl⟩) hP hS (fun r u H locs hw hP hS => ?_)
        obtain ⟨hw, hz27⟩ := hw
        rw [hw] at hz27
        rw [hw]
        refine lv_if_eq (tgt := 43) hx hb dX4_forced_30 (by decide) (fun hcc => ?_) (fun hcc => ?_)
        · replace hM := it_p hcc hM
          refine lv_iinc (v := (v5 + 2)) (lv' := [(5, .int (v5 + 2)), (1, .int p1), (2, .int p2), (3, .int v3), (4, .int v4)]) hx hb dX4_forced_43 hl (k := 4) rfl (by rfl) (by decide) rfl (fun ls hl => ?_)
          refine lv_goto (tgt := 15) hx hb dX4_forced_46 (by decide) ?_
          exact ih v3 v4 (v5 + 2) hM H locs ls hP hD hS (lv_sub hl [1, 2, 3, 4, 0] rfl)
        · replace hM := it_n hcc hM
          refine lv_iinc (v := (v3 + 1)) (lv' := [(3, .int (v3 + 1)), (1, .int p1), (2, .int p2), (4, .int v4), (5, .int v5)]) hx hb dX4_forced_33 hl (k := 2) rfl (by rfl) (by decide) rfl (fun ls hl => ?_)
          refine lv_iload hx hb dX4_forced_36 (lv_at hl 3 rfl) ?_
          refine lv_iload hx hb dX4_forced_38 (lv_at hl 4 rfl) ?_
          refine lv_iand hx hb dX4_forced_40 ?_
          refine lv_istore (lv' := [(4, .int (v4 &&& v5)), (3, .int (v3 + 1)), (1, .int p1), (2, .int p2), (5, .int v5)]) hx hb dX4_forced_41 hl (by decide) rfl (fun ls hl => ?_)
          refine lv_iinc (v := (v5 + 2)) (lv' := [(5, .int (v5 + 2)), (4, .int (v4 &&& v5)), (3, .int (v3 + 1)), (1, .int p1), (2, .int p2)]) hx hb dX4_forced_43 hl (k := 4) rfl (by rfl) (by decide) rfl (fun ls hl => ?_)
          refine lv_goto (tgt := 15) hx hb dX4_forced_46 (by decide) ?_
          exact ih (v3 + 1) (v4 &&& v5) (v5 + 2) hM H locs ls hP hD hS (lv_sub hl [3, 4, 2, 1, 0] rfl)
  rw [mX4_forced] at hM
  refine lv_iload_n hx hb dX4_forced_0 rfl (lv_at hl 1 rfl) ?_
  refine lv_iload_n hx hb dX4_forced_1 rfl (lv_at hl 2 rfl) ?_
  obtain ⟨x2, hC, hM⟩ := bd_s hM
  refine cT_v [] [0, 1, 2, 3, 4, 5, 6, 7, 8, 9, 10, 11, 12, 13, 14, 15] [0, 1, 2, 3, 4, 5, 6, 7, 8, 9, 10, 11, 12, 13, 14, 15] (vx_runS (As := [.int p1, .int p2]) (rest := []) ⟨hx, hb, hml, hown, hts⟩ (kX4_checkPartition (l := l) (D := D) (cI := cI) (cJ := cJ) hlt N (p1 := p1) (p2 := p2) hC H.size) (va_cwS 2 hts gX4_forced_X4_checkPartition rfl rfl rfl (by decide +kernel) ⟨Nat.le_of_ble_eq_true rfl, Nat.le_of_ble_eq_true rfl⟩) (preST [.int p1, .int p2] hTX hS (va_free (wc := zw) hD hS hA [] rfl) hN hK (hP.sub (ws' := zw) [] rfl) (hD.sub (ws' := zw) [] (by decide) rfl)) rfl rfl hl.1 rfl (lv_room (Nat.le_of_ble_eq_true rfl)) dX4_forced_2 ⟨Nat.le_of_ble_eq_true rfl, Nat.le_of_ble_eq_true rfl⟩) hP hD hS hA rfl (wr := (((xw a cI cJ ho ke hc tr fo fr st co ro cA cD su jA jD)).take 16)) rfl (by decide) (by decide) rfl (by decide) rfl (fun E ce q9 H locs hE hP hD hS h1 h2 h3 => ?_) (fun u2 H locs hw hP hD hS => ?_)
  · obtain ⟨k, hk, hE⟩ := hE
    subst hk
    obtain rfl := Option.some.inj (show some (Sum.inl k) = some o from hM)
    exact thr_on (px := fun E => ∃ k, _ = Sum.inl k ∧ E = en k) hQ hAe hout hlocks ⟨k, rfl, hE⟩ hP hD hS h1 h2 h3 (by decide) (by decide)
  have hxx := hw
  subst hxx
  dsimp only [Sum.elim] at hM
  replace hP := hP.sub (ws' := (xw a cI cJ ho ke hc tr fo fr st co ro cA cD su jA jD)) [0, 1, 2, 3, 4, 5, 6, 7, 8, 9, 10, 11, 12, 13, 14, 15] rfl
  replace hD := hD.sub (ws' := (xw a cI cJ ho ke hc tr fo fr st co ro cA cD su jA jD)) [0, 1, 2, 3, 4, 5, 6, 7, 8, 9, 10, 11, 12, 13, 14, 15] (by decide) rfl
  refine lv_iconst (v := 0) hx hb dX4_forced_5 (by decide) ?_
  refine lv_istore_n (lv' := [(3, .int (0 : Int32)), (0, .ref (a 15)), (1, .int p1), (2, .int p2)]) hx hb dX4_forced_6 rfl hl (by decide) rfl (fun ls hl => ?_)
  refine lv_sipush (v := 1022) hx hb dX4_forced_7 (by decide) ?_
  refine lv_istore (lv' := [(4, .int (1022 : Int32)), (3, .int (0 : Int32)), (0, .ref (a 15)), (1, .int p1), (2, .int p2)]) hx hb dX4_forced_10 hl (by decide) rfl (fun ls hl => ?_)
  refine lv_iconst (v := 0) hx hb dX4_forced_12 (by decide) ?_
  refine lv_istore (lv' := [(5, .int (0 : Int32)), (4, .int (1022 : Int32)), (3, .int (0 : Int32)), (0, .ref (a 15)), (1, .int p1), (2, .int p2)]) hx hb dX4_forced_13 hl (by decide) rfl (fun ls hl => ?_)
  exact c15 N (0 : Int32) (1022 : Int32) (0 : Int32) hM H locs ls hP hD hS (lv_sub hl [4, 5, 2, 1, 0] rfl)
def mX4_solved (N : Nat) (ho : RowI) (ke : RowI) (hc : Int32) (tr : Int32) (fo : Int32) (fr : Int32) (st : RowI) (co : Int32) (ro : Int32) (cA : CS) (cD : CS) (su : RowJ) (p1 : Int32) : Option (Nat ⊕ (Int32 × RowI × RowI × Int32 × Int32 × Int32 × Int32 × RowI)) :=
  ((mX4_checkCell N co ro p1).bind fun x2 => Sum.elim (fun k => some (.inl k)) (fun y2 =>
  ((mX1_isPillar N st p1).bind fun x10 =>
  (if x10 = 0 then
  ((mX3_refresh N ho ke hc tr fo fr st co ro cA cD su).bind fun x22 =>
  ((mX3_firstFilling N x22.2.1 x22.2.2.2.1 x22.2.2.2.2.1 p1).bind fun x30 =>
  some (.inr (x30, x22.1, x22.2.1, x22.2.2.1, x22.2.2.2.1, x22.2.2.2.2.1, x22.2.2.2.2.2.1, x22.2.2.2.2.2.2))))
  else
  some (.inr ((0 : Int32), ho, ke, hc, tr, fo, fr, st))))) x2)
abbrev rmX4_solved : Room := { frames := 46, cells := 1, slots := 6, locals := 1140 }
set_option maxHeartbeats 4000000 in
set_option maxRecDepth 100000 in
theorem kX4_solved {l : Launch} {D : va_G} {cI cJ : ClassId} (hlt : l.stackTraces = false) (N : Nat) (a : Nat → Nat) {ho : RowI} {ke : RowI} {hc : Int32} {tr : Int32} {fo : Int32} {fr : Int32} {st : RowI} {co : Int32} {ro : Int32} {cA : CS} {cD : CS} {su : RowJ} {jA : JT} {jD : JT} {p1 : Int32} {o : (Nat ⊕ (Int32 × RowI × RowI × Int32 × Int32 × Int32 × Int32 × RowI))} (hM : mX4_solved N ho ke hc tr fo fr st co ro cA cD su p1 = some o) (sz : Nat) : vx_Met l yX4_solved wsX4_solved rmX4_solved (va_Pc [.ref (a 15), .int p1] (PreT D cI cJ (xw a cI cJ ho ke hc tr fo fr st co ro cA cD su jA jD) sz)) (va_Qi (fun (r : Int32) (u : (Int32 × RowI × RowI × Int32 × Int32 × Int32 × Int32 × RowI) × (JT × JT)) => o = .inr u.1 ∧ r = u.1.1) (aft D (xw a cI cJ ho ke hc tr fo fr st co ro cA cD su jA jD) sz (fun (u : (Int32 × RowI × RowI × Int32 × Int32 × Int32 × Int32 × RowI) × (JT × JT)) => (xw a cI cJ u.1.2.1 u.1.2.2.1 u.1.2.2.2.1 u.1.2.2.2.2.1 u.1.2.2.2.2.2.1 u.1.2.2.2.2.2.2.1 u.1.2.2.2.2.2.2.2 co ro cA cD su u.2.1 u.2.2))) (va_A (xw a cI cJ ho ke hc tr fo fr st co ro cA cD su jA jD) sz)) (aftX D (fun E => ∃ k, o = .inl k ∧ E = en k) (xw a cI cJ ho ke hc tr fo fr st co ro cA cD su jA jD) sz) 1 6 (va_A (xw a cI cJ ho ke hc tr fo fr st co ro cA cD su jA jD) sz) := by
  refine xofT (cc := cX4_solved) (maxL := 2) (ret := (some .int)) rfl (by decide) rfl ?_
  intro p e s m args below meth c ls Q A hQ hAe hx hb hr hml hown hts hlocks hout hTX hN hK H locs hP hD hS hA hl
  replace hown : s.vm.findClass RX4 = some m.cls := hown
  replace hl : lv_has ls 2 [(0, .ref (a 15)), (1, .int p1)] := hl
  have iX4 : ∀ w ∈ wsX40, w ∈ wsX4_solved := by decide +kernel
  have f10 := hts (.fieldLink RX4 10 "CryptSums" "floor" "LCryptSums$Floor;") (by decide +kernel)
  have f21 := hts (.fieldLink RX4 21 "CryptSums" "search" "LCryptSums$Search;") (by decide +kernel)
  rw [mX4_solved] at hM
  refine lv_aload_n hx hb dX4_solved_0 rfl (lv_at hl 0 rfl) ?_
  refine lv_iload_n hx hb dX4_solved_1 rfl (lv_at hl 1 rfl) ?_
  obtain ⟨x2, hC, hM⟩ := bd_s hM
  refine cT_v [0, 1, 2, 3, 4, 5, 6, 7, 8, 9, 10, 11, 12, 13, 14, 15] [] [0, 1, 2, 3, 4, 5, 6, 7, 8, 9, 10, 11, 12, 13, 14, 15] (vx_runV (As := [.int p1]) (rest := []) ⟨hx, hb, hml, hown, hts⟩ (kX4_checkCell (l := l) (D := D) (cI := cI) (cJ := cJ) hlt N a (ho := ho) (ke := ke) (hc := hc) (tr := tr) (fo := fo) (fr := fr) (st := st) (co := co) (ro := ro) (cA := cA) (cD := cD) (su := su) (jA := jA) (jD := jD) (p1 := p1) hC H.size) (cwV 1 hts gX4_solved_X4_checkCell rfl rfl rfl (by decide +kernel) ⟨Nat.le_of_ble_eq_true rfl, Nat.le_of_ble_eq_true rfl⟩) (preVT [.int p1] hTX hS (va_free (wc := (xw a cI cJ ho ke hc tr fo fr st co ro cA cD su jA jD)) hD hS hA [0, 1, 2, 3, 4, 5, 6, 7, 8, 9, 10, 11, 12, 13, 14, 15] rfl) hN hK hP hD (ci := 4) (q0 := 3) rfl rfl) rfl rfl hl.1 rfl (lv_room (Nat.le_of_ble_eq_true rfl)) dX4_solved_2 ⟨Nat.le_of_ble_eq_true rfl, Nat.le_of_ble_eq_true rfl⟩) hP hD hS hA rfl (wr := []) rfl (by decide) (by decide) rfl (by decide) rfl (fun E ce q9 H locs hE hP hD hS h1 h2 h3 => ?_) (fun u2 H locs hw hP hD hS => ?_)
  · obtain ⟨k, hk, hE⟩ := hE
    subst hk
    obtain rfl := Option.some.inj (show some (Sum.inl k) = some o from hM)
    exact thr_on (px := fun E => ∃ k, _ = Sum.inl k ∧ E = en k) hQ hAe hout hlocks ⟨k, rfl, hE⟩ hP hD hS h1 h2 h3 (by decide) (by decide)
  have hxx := hw
  subst hxx
  dsimp only [Sum.elim] at hM
  replace hP : va_P D vwCl (xw a cI cJ ho ke hc tr fo fr st co ro cA cD su jA jD) H := hP
  replace hD : va_D A (xw a cI cJ ho ke hc tr fo fr st co ro cA cD su jA jD) := hD
  refine lv_aload_n hx hb dX4_solved_5 rfl (lv_at hl 0 rfl) ?_
  refine va_get (D := D) (ci := 4) (v := .ref (a 0)) (C := RX4) (T := TX4) (N := 2) hx hb hts iX4 hown hK hP 3 rfl rfl 0 (by decide) f10 (fun _ h9 => h9) rfl dX4_solved_6 ?_
  refine lv_iload_n hx hb dX4_solved_9 rfl (lv_at hl 1 rfl) ?_
  obtain ⟨x10, hC, hM⟩ := bd_s hM
  refine cR_i (va_runV (As := [.int p1]) (rest := []) ⟨hx, hb, hml, hown, hts⟩ (kX1_isPillar (l := l) (D := D) (cI := cI) (cJ := cJ) N a (st := st) (co := co) (ro := ro) (cA := cA) (cD := cD) (su := su) (jA := jA) (jD := jD) (p1 := p1) hC H.size) (cwV 1 hts gX4_solved_X1_isPillar rfl rfl rfl (by decide +kernel) ⟨Nat.le_of_ble_eq_true rfl, Nat.le_of_ble_eq_true rfl⟩) (preV [.int p1] hN hK (hP.sub (ws' := (fw a cI cJ st co ro cA cD su jA jD)) [4, 5, 6, 7, 8, 9, 10, 11, 12, 13, 14, 15] rfl) (hD.sub (ws' := (fw a cI cJ st co ro cA cD su jA jD)) [4, 5, 6, 7, 8, 9, 10, 11, 12, 13, 14, 15] (by decide) rfl) (ci := 1) (q0 := 0) rfl rfl) rfl rfl hl.1 rfl (lv_room (Nat.le_of_ble_eq_true rfl)) dX4_solved_10 ⟨Nat.le_of_ble_eq_true rfl, Nat.le_of_ble_eq_true rfl⟩) hP hS (fun r u H locs hw hP hS => ?_)
  obtain ⟨hw, hz10⟩ := hw
  rw [hw] at hz10
  rw [hw]
  refine lv_if_eq (tgt := 18) hx hb dX4_solved_13 (by decide) (fun hcc => ?_) (fun hcc => ?_)
  · replace hM := it_p hcc hM
    refine lv_aload_n hx hb dX4_solved_18 rfl (lv_at hl 0 rfl) ?_
    refine va_get (D := D) (ci := 4) (v := .ref (a 12)) (C := RX4) (T := TX4) (N := 2) hx hb hts iX4 hown hK hP 3 rfl rfl 1 (by decide) f21 (fun _ h9 => h9) rfl dX4_solved_19 ?_
    obtain ⟨x22, hC, hM⟩ := bd_s hM
    refine cW_v [0, 1, 2, 3, 4, 5, 6, 7, 8, 9, 10, 11, 12, 13, 14, 15] [] (va_runV (As := []) (rest := []) ⟨hx, hb, hml, hown, hts⟩ (kX3_refresh (l := l) (D := D) (cI := cI) (cJ := cJ) N a (ho := ho) (ke := ke) (hc := hc) (tr := tr) (fo := fo) (fr := fr) (st := st) (co := co) (ro := ro) (cA := cA) (cD := cD) (su := su) (jA := jA) (jD := jD) hC H.size) (cwV 0 hts gX4_solved_X3_refresh rfl rfl rfl (by decide +kernel) ⟨Nat.le_of_ble_eq_true rfl, Nat.le_of_ble_eq_true rfl⟩) (preV [] hN hK hP hD (ci := 3) (q0 := 0) rfl rfl) rfl rfl hl.1 rfl (lv_room (Nat.le_of_ble_eq_true rfl)) dX4_solved_22 ⟨Nat.le_of_ble_eq_true rfl, Nat.le_of_ble_eq_true rfl⟩) hP hD hS hA rfl (wr := []) rfl (by decide) (by decide) (fun u22 H locs hw hP hD hS => ?_)
    replace hP : va_P D vwCl (xw a cI cJ x22.1 x22.2.1 x22.2.2.1 x22.2.2.2.1 x22.2.2.2.2.1 x22.2.2.2.2.2.1 x22.2.2.2.2.2.2 co ro cA cD su u22.1 u22.2) H := hP
    replace hD : va_D A (xw a cI cJ x22.1 x22.2.1 x22.2.2.1 x22.2.2.2.1 x22.2.2.2.2.1 x22.2.2.2.2.2.1 x22.2.2.2.2.2.2 co ro cA cD su u22.1 u22.2) := hD
    refine lv_aload_n hx hb dX4_solved_25 rfl (lv_at hl 0 rfl) ?_
    refine va_get (D := D) (ci := 4) (v := .ref (a 12)) (C := RX4) (T := TX4) (N := 2) hx hb hts iX4 hown hK hP 3 rfl rfl 1 (by decide) f21 (fun _ h9 => h9) rfl dX4_solved_26 ?_
    refine lv_iload_n hx hb dX4_solved_29 rfl (lv_at hl 1 rfl) ?_
    obtain ⟨x30, hC, hM⟩ := bd_s hM
    refine cR_i (va_runV (As := [.int p1]) (rest := []) ⟨hx, hb, hml, hown, hts⟩ (kX3_firstFilling (l := l) (D := D) (cI := cI) (cJ := cJ) N a (ho := x22.1) (ke := x22.2.1) (hc := x22.2.2.1) (tr := x22.2.2.2.1) (fo := x22.2.2.2.2.1) (fr := x22.2.2.2.2.2.1) (st := x22.2.2.2.2.2.2) (co := co) (ro := ro) (cA := cA) (cD := cD) (su := su) (jA := u22.1) (jD := u22.2) (p1 := p1) hC H.size) (cwV 1 hts gX4_solved_X3_firstFilling rfl rfl rfl (by decide +kernel) ⟨Nat.le_of_ble_eq_true rfl, Nat.le_of_ble_eq_true rfl⟩) (preV [.int p1] hN hK hP hD (ci := 3) (q0 := 0) rfl rfl) rfl rfl hl.1 rfl (lv_room (Nat.le_of_ble_eq_true rfl)) dX4_solved_30 ⟨Nat.le_of_ble_eq_true rfl, Nat.le_of_ble_eq_true rfl⟩) hP hS (fun r u H locs hw hP hS => ?_)
    rw [hw]
    obtain rfl := Option.some.inj hM
    subst hQ hAe
    refine vx_ret ?_
    refine W.widen (k := 1) (n := 6) (by decide) (by decide) ?_
    exact W.iret (v := x30) hx hb hr (fun t ht hW => ⟨⟨x30, ((x30, x22.1, x22.2.1, x22.2.2.1, x22.2.2.2.1, x22.2.2.2.2.1, x22.2.2.2.2.2.1, x22.2.2.2.2.2.2), (u22.1, u22.2)), rfl, ⟨rfl, rfl⟩, ⟨by rw [ht]; exact hP, hD⟩⟩, hS.F ht⟩) hS.2.2 dX4_solved_33
  · replace hM := it_n hcc hM
    refine lv_iconst (v := 0) hx hb dX4_solved_16 (by decide) ?_
    obtain rfl := Option.some.inj hM
    subst hQ hAe
    refine vx_ret ?_
    refine W.widen (k := 1) (n := 6) (by decide) (by decide) ?_
    exact W.iret (v := (0 : Int32)) hx hb hr (fun t ht hW => ⟨⟨(0 : Int32), (((0 : Int32), ho, ke, hc, tr, fo, fr, st), (jA, jD)), rfl, ⟨rfl, rfl⟩, ⟨by rw [ht]; exact hP, hD⟩⟩, hS.F ht⟩) hS.2.2 dX4_solved_17
