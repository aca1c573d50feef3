def mX3_forget (N : Nat) (fr : Int32) : Option Int32 :=
  some (0 : Int32)
abbrev rmX3_forget : Room := { frames := 0, cells := 0, slots := 0, locals := 0 }
set_option maxHeartbeats 4000000 in
set_option maxRecDepth 100000 in
theorem kX3_forget {l : Launch} {D : va_G} {cI cJ : ClassId} (N : Nat) (a : Nat → Nat) {ho : RowI} {ke : RowI} {hc : Int32} {tr : Int32} {fo : Int32} {fr : Int32} {st : RowI} {co : Int32} {ro : Int32} {cA : CS} {cD : CS} {su : RowJ} {jA : JT} {jD : JT} {o : Int32} (hM : mX3_forget N fr = some o) (sz : Nat) : Met l yX3_forget wsX3_forget rmX3_forget (va_Pc [.ref (a 12)] (Pre D cI cJ (xw a cI cJ ho ke hc tr fo fr st co ro cA cD su jA jD) sz)) (va_Qv (fun (_ : Unit) => True) (aft D (xw a cI cJ ho ke hc tr fo fr st co ro cA cD su jA jD) sz (fun (_ : Unit) => (xw a cI cJ ho ke hc tr fo o st co ro cA cD su jA jD))) (va_A (xw a cI cJ ho ke hc tr fo fr st co ro cA cD su jA jD) sz)) 0 0 (va_A (xw a cI cJ ho ke hc tr fo fr st co ro cA cD su jA jD) sz) := by
  refine xofW (cc := cX3_forget) (maxL := 1) (ret := none) rfl (by decide) rfl ?_
  intro p e s m args below meth c ls Q A hQ hAe hx hb hr hml hown hts hlocks hnm hN hK H locs hP hD hS hA hl
  replace hown : s.vm.findClass RX3 = some m.cls := hown
  replace hl : lv_has ls 1 [(0, .ref (a 12))] := hl
  have iX3 : ∀ w ∈ wsX30, w ∈ wsX3_forget := by decide +kernel
  have f32 := hts (.fieldLink RX3 32 "CryptSums$Search" "fresh" "Z") (by decide +kernel)
  rw [mX3_forget] at hM
  refine lv_aload_n hx hb dX3_forget_0 rfl (lv_at hl 0 rfl) ?_
  refine lv_iconst (v := 0) hx hb dX3_forget_1 (by decide) ?_
  refine va_put (D := D) (ci := 3) (v := .int (0 : Int32)) (ty := .boolean) (C := RX3) (T := TX3) (N := 7) hx hb hts iX3 tyX3 tyX3_ok nmX3 hown hK hP hD hS 0 rfl rfl 6 (by decide) f32 (fun _ h9 => h9) rfl (by decide +kernel) rfl rfl (Nat.le_of_ble_eq_true rfl) dX3_forget_2 (fun H locs hP hD hS => ?_)
  replace hP : va_P D vwCl (xw a cI cJ ho ke hc tr fo (0 : Int32) st co ro cA cD su jA jD) H := hP
  replace hD : va_D A (xw a cI cJ ho ke hc tr fo (0 : Int32) st co ro cA cD su jA jD) := hD
  obtain rfl := Option.some.inj hM
  subst hQ hAe
  exact W.vret hx hb hr (fun t ht hW => ⟨⟨(), rfl, trivial, ⟨by rw [ht]; exact hP, hD⟩⟩, hS.F ht⟩) hS.2.2 dX3_forget_5
def mX3_isUnknown (N : Nat) (tr : Int32) : Option Int32 :=
  (if tr ≤ (4000 : Int32) then
  some (0 : Int32)
  else
  some (1 : Int32))
abbrev rmX3_isUnknown : Room := { frames := 0, cells := 0, slots := 0, locals := 0 }
set_option maxHeartbeats 4000000 in
set_option maxRecDepth 100000 in
theorem kX3_isUnknown {l : Launch} {D : va_G} {cI cJ : ClassId} (N : Nat) (a : Nat → Nat) {ho : RowI} {ke : RowI} {hc : Int32} {tr : Int32} {fo : Int32} {fr : Int32} {st : RowI} {co : Int32} {ro : Int32} {cA : CS} {cD : CS} {su : RowJ} {jA : JT} {jD : JT} {o : Int32} (hM : mX3_isUnknown N tr = some o) (sz : Nat) : Met l yX3_isUnknown wsX3_isUnknown rmX3_isUnknown (va_Pc [.ref (a 12)] (Pre D cI cJ (xw a cI cJ ho ke hc tr fo fr st co ro cA cD su jA jD) sz)) (va_Qi (fun (r : Int32) (_ : Unit) => r = o ∧ bz r) (fun _ _ => True) (fun _ => False)) 0 0 (fun _ => False) := by
  refine xofR (cc := cX3_isUnknown) (maxL := 1) (ret := (some .boolean)) rfl (by decide) rfl ?_
  intro p e s m args below meth c ls Q A hQ hAe hx hb hr hml hown hts hlocks hN hK H locs hP hD hS hl
  replace hown : s.vm.findClass RX3 = some m.cls := hown
  replace hl : lv_has ls 1 [(0, .ref (a 12))] := hl
  have iX3 : ∀ w ∈ wsX30, w ∈ wsX3_isUnknown := by decide +kernel
  have f26 := hts (.fieldLink RX3 26 "CryptSums$Search" "tried" "I") (by decide +kernel)
  rw [mX3_isUnknown] at hM
  refine lv_aload_n hx hb dX3_isUnknown_0 rfl (lv_at hl 0 rfl) ?_
  refine va_get (D := D) (ci := 3) (v := .int tr) (C := RX3) (T := TX3) (N := 7) hx hb hts iX3 hown hK hP 0 rfl rfl 4 (by decide) f26 (fun _ h9 => h9) rfl dX3_isUnknown_1 ?_
  refine lv_sipush (v := 4000) hx hb dX3_isUnknown_4 (by decide) ?_
  refine lv_icmp_le (tgt := 14) hx hb dX3_isUnknown_7 (by decide) (fun hcc => ?_) (fun hcc => ?_)
  · replace hM := it_p hcc hM
    refine lv_iconst (v := 0) hx hb dX3_isUnknown_14 (by decide) ?_
    obtain rfl := Option.some.inj hM
    subst hQ hAe
    exact W.zret (ty := .boolean) (v := (0 : Int32)) hx hb hr (nb_z (Or.inl rfl)) (fun t ht hW => ⟨⟨(0 : Int32), (), rfl, ⟨rfl, Or.inl rfl⟩, trivial⟩, hS.F ht⟩) hS.2.2 dX3_isUnknown_15
  · replace hM := it_n hcc hM
    refine lv_iconst (v := 1) hx hb dX3_isUnknown_10 (by decide) ?_
    refine lv_goto (tgt := 15) hx hb dX3_isUnknown_11 (by decide) ?_
    obtain rfl := Option.some.inj hM
    subst hQ hAe
    exact W.zret (ty := .boolean) (v := (1 : Int32)) hx hb hr (nb_z (Or.inr rfl)) (fun t ht hW => ⟨⟨(1 : Int32), (), rfl, ⟨rfl, Or.inr rfl⟩, trivial⟩, hS.F ht⟩) hS.2.2 dX3_isUnknown_15
def mX3_isOver (N : Nat) (tr : Int32) (fo : Int32) : Option Int32 :=
  ((mX3_isUnknown N tr).bind fun x1 =>
  (if x1 = 0 then
  (if fo < (100 : Int32) then
  some (0 : Int32)
  else
  some (1 : Int32))
  else
  some (1 : Int32)))
abbrev rmX3_isOver : Room := { frames := 1, cells := 0, slots := 0, locals := 20 }
set_option maxHeartbeats 4000000 in
set_option maxRecDepth 100000 in
theorem kX3_isOver {l : Launch} {D : va_G} {cI cJ : ClassId} (N : Nat) (a : Nat → Nat) {ho : RowI} {ke : RowI} {hc : Int32} {tr : Int32} {fo : Int32} {fr : Int32} {st : RowI} {co : Int32} {ro : Int32} {cA : CS} {cD : CS} {su : RowJ} {jA : JT} {jD : JT} {o : Int32} (hM : mX3_isOver N tr fo = some o) (sz : Nat) : Met l yX3_isOver wsX3_isOver rmX3_isOver (va_Pc [.ref (a 12)] (Pre D cI cJ (xw a cI cJ ho ke hc tr fo fr st co ro cA cD su jA jD) sz)) (va_Qi (fun (r : Int32) (_ : Unit) => r = o ∧ bz r) (fun _ _ => True) (fun _ => False)) 0 0 (fun _ => False) := by
  refine xofR (cc := cX3_isOver) (maxL := 1) (ret := (some .boolean)) rfl (by decide) rfl ?_
  intro p e s m args below meth c ls Q A hQ hAe hx hb hr hml hown hts hlocks hN hK H locs hP hD hS hl
  replace hown : s.vm.findClass RX3 = some m.cls := hown
  replace hl : lv_has ls 1 [(0, .ref (a 12))] := hl
  have iX3 : ∀ w ∈ wsX30, w ∈ wsX3_isOver := by decide +kernel
  have f29 := hts (.fieldLink RX3 29 "CryptSums$Search" "found" "I") (by decide +kernel)
  rw [mX3_isOver] at hM
  refine lv_aload_n hx hb dX3_isOver_0 rfl (lv_at hl 0 rfl) ?_
  obtain ⟨x1, hC, hM⟩ := bd_s hM
  refine cR_i (va_runV (As := []) (rest := []) ⟨hx, hb, hml, hown, hts⟩ (kX3_isUnknown (l := l) (D := D) (cI := cI) (cJ := cJ) N a (ho := ho) (ke := ke) (hc := hc) (tr := tr) (fo := fo) (fr := fr) (st := st) (co := co) (ro := ro) (cA := cA) (cD := cD) (su := su) (jA := jA) (jD := jD) hC H.size) (cwV 0 hts gX3_isOver_X3_isUnknown rfl rfl rfl (by decide +kernel) ⟨Nat.le_of_ble_eq_true rfl, Nat.le_of_ble_eq_true rfl⟩) (preV [] hN hK hP hD (ci := 3) (q0 := 0) rfl rfl) rfl rfl hl.1 rfl (lv_room (Nat.le_of_ble_eq_true rfl)) dX3_isOver_1 ⟨Nat.le_of_ble_eq_true rfl, Nat.le_of_ble_eq_true rfl⟩) hP hS (fun r u H locs hw hP hS => ?_)
  obtain ⟨hw, hz1⟩ := hw
  rw [hw] at hz1
  rw [hw]
  refine lv_if_ne (tgt := 16) hx hb dX3_isOver_4 (by decide) (fun hcc => ?_) (fun hcc => ?_)
  · replace hM := it_n hcc hM
    refine lv_iconst (v := 1) hx hb dX3_isOver_16 (by decide) ?_
    refine lv_goto (tgt := 21) hx hb dX3_isOver_17 (by decide) ?_
    obtain rfl := Option.some.inj hM
    subst hQ hAe
    exact W.zret (ty := .boolean) (v := (1 : Int32)) hx hb hr (nb_z (Or.inr rfl)) (fun t ht hW => ⟨⟨(1 : Int32), (), rfl, ⟨rfl, Or.inr rfl⟩, trivial⟩, hS.F ht⟩) hS.2.2 dX3_isOver_21
  · replace hM := it_p hcc hM
    refine lv_aload_n hx hb dX3_isOver_7 rfl (lv_at hl 0 rfl) ?_
    refine va_get (D := D) (ci := 3) (v := .int fo) (C := RX3) (T := TX3) (N := 7) hx hb hts iX3 hown hK hP 0 rfl rfl 5 (by decide) f29 (fun _ h9 => h9) rfl dX3_isOver_8 ?_
    refine lv_bipush (v := 100) hx hb dX3_isOver_11 (by decide) ?_
    refine lv_icmp_lt (tgt := 20) hx hb dX3_isOver_13 (by decide) (fun hcc => ?_) (fun hcc => ?_)
    · replace hM := it_p hcc hM
      refine lv_iconst (v := 0) hx hb dX3_isOver_20 (by decide) ?_
      obtain rfl := Option.some.inj hM
      subst hQ hAe
      exact W.zret (ty := .boolean) (v := (0 : Int32)) hx hb hr (nb_z (Or.inl rfl)) (fun t ht hW => ⟨⟨(0 : Int32), (), rfl, ⟨rfl, Or.inl rfl⟩, trivial⟩, hS.F ht⟩) hS.2.2 dX3_isOver_21
    · replace hM := it_n hcc hM
      refine lv_iconst (v := 1) hx hb dX3_isOver_16 (by decide) ?_
      refine lv_goto (tgt := 21) hx hb dX3_isOver_17 (by decide) ?_
      obtain rfl := Option.some.inj hM
      subst hQ hAe
      exact W.zret (ty := .boolean) (v := (1 : Int32)) hx hb hr (nb_z (Or.inr rfl)) (fun t ht hW => ⟨⟨(1 : Int32), (), rfl, ⟨rfl, Or.inr rfl⟩, trivial⟩, hS.F ht⟩) hS.2.2 dX3_isOver_21
def mX3_told (N : Nat) (tr : Int32) (fo : Int32) : Option Int32 :=
  ((mX3_isUnknown N tr).bind fun x1 =>
  (if x1 = 0 then
  some fo
  else
  some (-1 : Int32)))
abbrev rmX3_told : Room := { frames := 1, cells := 0, slots := 0, locals := 20 }
set_option maxHeartbeats 4000000 in
set_option maxRecDepth 100000 in
theorem kX3_told {l : Launch} {D : va_G} {cI cJ : ClassId} (N : Nat) (a : Nat → Nat) {ho : RowI} {ke : RowI} {hc : Int32} {tr : Int32} {fo : Int32} {fr : Int32} {st : RowI} {co : Int32} {ro : Int32} {cA : CS} {cD : CS} {su : RowJ} {jA : JT} {jD : JT} {o : Int32} (hM : mX3_told N tr fo = some o) (sz : Nat) : Met l yX3_told wsX3_told rmX3_told (va_Pc [.ref (a 12)] (Pre D cI cJ (xw a cI cJ ho ke hc tr fo fr st co ro cA cD su jA jD) sz)) (va_Qi (fun (r : Int32) (_ : Unit) => r = o) (fun _ _ => True) (fun _ => False)) 0 0 (fun _ => False) := by
  refine xofR (cc := cX3_told) (maxL := 1) (ret := (some .int)) rfl (by decide) rfl ?_
  intro p e s m args below meth c ls Q A hQ hAe hx hb hr hml hown hts hlocks hN hK H locs hP hD hS hl
  replace hown : s.vm.findClass RX3 = some m.cls := hown
  replace hl : lv_has ls 1 [(0, .ref (a 12))] := hl
  have iX3 : ∀ w ∈ wsX30, w ∈ wsX3_told := by decide +kernel
  have f29 := hts (.fieldLink RX3 29 "CryptSums$Search" "found" "I") (by decide +kernel)
  rw [mX3_told] at hM
  refine lv_aload_n hx hb dX3_told_0 rfl (lv_at hl 0 rfl) ?_
  obtain ⟨x1, hC, hM⟩ := bd_s hM
  refine cR_i (va_runV (As := []) (rest := []) ⟨hx, hb, hml, hown, hts⟩ (kX3_isUnknown (l := l) (D := D) (cI := cI) (cJ := cJ) N a (ho := ho) (ke := ke) (hc := hc) (tr := tr) (fo := fo) (fr := fr) (st := st) (co := co) (ro := ro) (cA := cA) (cD := cD) (su := su) (jA := jA) (jD := jD) hC H.size) (cwV 0 hts gX3_told_X3_isUnknown rfl rfl rfl (by decide +kernel) ⟨Nat.le_of_ble_eq_true rfl, Nat.le_of_ble_eq_true rfl⟩) (preV [] hN hK hP hD (ci := 3) (q0 := 0) rfl rfl) rfl rfl hl.1 rfl (lv_room (Nat.le_of_ble_eq_true rfl)) dX3_told_1 ⟨Nat.le_of_ble_eq_true rfl, Nat.le_of_ble_eq_true rfl⟩) hP hS (fun r u H locs hw hP hS => ?_)
  obtain ⟨hw, hz1⟩ := hw
  rw [hw] at hz1
  rw [hw]
  refine lv_if_eq (tgt := 11) hx hb dX3_told_4 (by decide) (fun hcc => ?_) (fun hcc => ?_)
  · replace hM := it_p hcc hM
    refine lv_aload_n hx hb dX3_told_11 rfl (lv_at hl 0 rfl) ?_
    refine va_get (D := D) (ci := 3) (v := .int fo) (C := RX3) (T := TX3) (N := 7) hx hb hts iX3 hown hK hP 0 rfl rfl 5 (by decide) f29 (fun _ h9 => h9) rfl dX3_told_12 ?_
    obtain rfl := Option.some.inj hM
    subst hQ hAe
    exact W.iret (v := fo) hx hb hr (fun t ht hW => ⟨⟨fo, (), rfl, rfl, trivial⟩, hS.F ht⟩) hS.2.2 dX3_told_15
  · replace hM := it_n hcc hM
    refine lv_iconst (v := -1) hx hb dX3_told_7 (by decide) ?_
    refine lv_goto (tgt := 15) hx hb dX3_told_8 (by decide) ?_
    obtain rfl := Option.some.inj hM
    subst hQ hAe
    exact W.iret (v := (-1 : Int32)) hx hb hr (fun t ht hW => ⟨⟨(-1 : Int32), (), rfl, rfl, trivial⟩, hS.F ht⟩) hS.2.2 dX3_told_15
def mX3_tried (N : Nat) (tr : Int32) : Option Int32 :=
  some tr
abbrev rmX3_tried : Room := { frames := 0, cells := 0, slots := 0, locals := 0 }
set_option maxHeartbeats 4000000 in
set_option maxRecDepth 100000 in
theorem kX3_tried {l : Launch} {D : va_G} {cI cJ : ClassId} (N : Nat) (a : Nat → Nat) {ho : RowI} {ke : RowI} {hc : Int32} {tr : Int32} {fo : Int32} {fr : Int32} {st : RowI} {co : Int32} {ro : Int32} {cA : CS} {cD : CS} {su : RowJ} {jA : JT} {jD : JT} {o : Int32} (hM : mX3_tried N tr = some o) (sz : Nat) : Met l yX3_tried wsX3_tried rmX3_tried (va_Pc [.ref (a 12)] (Pre D cI cJ (xw a cI cJ ho ke hc tr fo fr st co ro cA cD su jA jD) sz)) (va_Qi (fun (r : Int32) (_ : Unit) => r = o) (fun _ _ => True) (fun _ => False)) 0 0 (fun _ => False) := by
  refine xofR (cc := cX3_tried) (maxL := 1) (ret := (some .int)) rfl (by decide) rfl ?_
  intro p e s m args below meth c ls Q A hQ hAe hx hb hr hml hown hts hlocks hN hK H locs hP hD hS hl
  replace hown : s.vm.findClass RX3 = some m.cls := hown
  replace hl : lv_has ls 1 [(0, .ref (a 12))] := hl
  have iX3 : ∀ w ∈ wsX30, w ∈ wsX3_tried := by decide +kernel
  have f26 := hts (.fieldLink RX3 26 "CryptSums$Search" "tried" "I") (by decide +kernel)
  rw [mX3_tried] at hM
  refine lv_aload_n hx hb dX3_tried_0 rfl (lv_at hl 0 rfl) ?_
  refine va_get (D := D) (ci := 3) (v := .int tr) (C := RX3) (T := TX3) (N := 7) hx hb hts iX3 hown hK hP 0 rfl rfl 4 (by decide) f26 (fun _ h9 => h9) rfl dX3_tried_1 ?_
  obtain rfl := Option.some.inj hM
  subst hQ hAe
  exact W.iret (v := tr) hx hb hr (fun t ht hW => ⟨⟨tr, (), rfl, rfl, trivial⟩, hS.F ht⟩) hS.2.2 dX3_tried_4
def mX3_firstFilling (N : Nat) (ke : RowI) (tr : Int32) (fo : Int32) (p1 : Int32) : Option Int32 :=
  ((mX3_isUnknown N tr).bind fun x1 =>
  (if x1 = 0 then
  (if fo = 0 then
  some (0 : Int32)
  else
  some (rd ke p1))
  else
  some (0 : Int32)))
abbrev rmX3_firstFilling : Room := { frames := 1, cells := 0, slots := 0, locals := 21 }
set_option maxHeartbeats 4000000 in
set_option maxRecDepth 100000 in
theorem kX3_firstFilling {l : Launch} {D : va_G} {cI cJ : ClassId} (N : Nat) (a : Nat → Nat) {ho : RowI} {ke : RowI} {hc : Int32} {tr : Int32} {fo : Int32} {fr : Int32} {st : RowI} {co : Int32} {ro : Int32} {cA : CS} {cD : CS} {su : RowJ} {jA : JT} {jD : JT} {p1 : Int32} {o : Int32} (hM : mX3_firstFilling N ke tr fo p1 = some o) (sz : Nat) : Met l yX3_firstFilling wsX3_firstFilling rmX3_firstFilling (va_Pc [.ref (a 12), .int p1] (Pre D cI cJ (xw a cI cJ ho ke hc tr fo fr st co ro cA cD su jA jD) sz)) (va_Qi (fun (r : Int32) (_ : Unit) => r = o) (fun _ _ => True) (fun _ => False)) 0 0 (fun _ => False) := by
  refine xofR (cc := cX3_firstFilling) (maxL := 2) (ret := (some .int)) rfl (by decide) rfl ?_
  intro p e s m args below meth c ls Q A hQ hAe hx hb hr hml hown hts hlocks hN hK H locs hP hD hS hl
  replace hown : s.vm.findClass RX3 = some m.cls := hown
  replace hl : lv_has ls 2 [(0, .ref (a 12)), (1, .int p1)] := hl
  have iX3 : ∀ w ∈ wsX30, w ∈ wsX3_firstFilling := by decide +kernel
  have f19 := hts (.fieldLink RX3 19 "CryptSums$Search" "kept" "[I") (by decide +kernel)
  have f29 := hts (.fieldLink RX3 29 "CryptSums$Search" "found" "I") (by decide +kernel)
  rw [mX3_firstFilling] at hM
  refine lv_aload_n hx hb dX3_firstFilling_0 rfl (lv_at hl 0 rfl) ?_
  obtain ⟨x1, hC, hM⟩ := bd_s hM
  refine cR_i (va_runV (As := []) (rest := []) ⟨hx, hb, hml, hown, hts⟩ (kX3_isUnknown (l := l) (D := D) (cI := cI) (cJ := cJ) N a (ho := ho) (ke := ke) (hc := hc) (tr := tr) (fo := fo) (fr := fr) (st := st) (co := co) (ro := ro) (cA := cA) (cD := cD) (su := su) (jA := jA) (jD := jD) hC H.size) (cwV 0 hts gX3_firstFilling_X3_isUnknown rfl rfl rfl (by decide +kernel) ⟨Nat.le_of_ble_eq_true rfl, Nat.le_of_ble_eq_true rfl⟩) (preV [] hN hK hP hD (ci := 3) (q0 := 0) rfl rfl) rfl rfl hl.1 rfl (lv_room (Nat.le_of_ble_eq_true rfl)) dX3_firstFilling_1 ⟨Nat.le_of_ble_eq_true rfl, Nat.le_of_ble_eq_true rfl⟩) hP hS (fun r u H locs hw hP hS => ?_)
  obtain ⟨hw, hz1⟩ := hw
  rw [hw] at hz1
  rw [hw]
  refine lv_if_ne (tgt := 14) hx hb dX3_firstFilling_4 (by decide) (fun hcc => ?_) (fun hcc => ?_)
  · replace hM := it_n hcc hM
    refine lv_iconst (v := 0) hx hb dX3_firstFilling_14 (by decide) ?_
    refine lv_goto (tgt := 26) hx hb dX3_firstFilling_15 (by decide) ?_
    obtain rfl := Option.some.inj hM
    subst hQ hAe
    exact W.iret (v := (0 : Int32)) hx hb hr (fun t ht hW => ⟨⟨(0 : Int32), (), rfl, rfl, trivial⟩, hS.F ht⟩) hS.2.2 dX3_firstFilling_26
  · replace hM := it_p hcc hM
    refine lv_aload_n hx hb dX3_firstFilling_7 rfl (lv_at hl 0 rfl) ?_
    refine va_get (D := D) (ci := 3) (v := .int fo) (C := RX3) (T := TX3) (N := 7) hx hb hts iX3 hown hK hP 0 rfl rfl 5 (by decide) f29 (fun _ h9 => h9) rfl dX3_firstFilling_8 ?_
    refine lv_if_ne (tgt := 18) hx hb dX3_firstFilling_11 (by decide) (fun hcc => ?_) (fun hcc => ?_)
    · replace hM := it_n hcc hM
      refine lv_aload_n hx hb dX3_firstFilling_18 rfl (lv_at hl 0 rfl) ?_
      refine va_get (D := D) (ci := 3) (v := .ref (a 14)) (C := RX3) (T := TX3) (N := 7) hx hb hts iX3 hown hK hP 0 rfl rfl 2 (by decide) f19 (fun _ h9 => h9) rfl dX3_firstFilling_19 ?_
      refine lv_iload_n hx hb dX3_firstFilling_22 rfl (lv_at hl 1 rfl) ?_
      refine cR_i (va_runSN (As := [.ref (a 14), .int p1]) (rest := []) ⟨hx, hb, hml, hown, hts⟩ (kX4_read (D := D) (cI := cI) (cJ := cJ) (a 14) ke p1 H.size) ⟨va_cnB 2 hts gX3_firstFilling_X4_read_n52 rfl rfl rfl (hN (.methodLinkNest RX3 52 yX4_read "CryptSums") (by decide +kernel)) (hts (.initialized RX4) (by decide +kernel)) (by decide +kernel) ⟨Nat.le_of_ble_eq_true rfl, Nat.le_of_ble_eq_true rfl⟩, hts (.static yX4_read) (by decide +kernel), trivial⟩ (preS [.ref (a 14), .int p1] hN hK (hP.sub (ws' := [((a 14), .inl (cI, 36, .inl ke))]) [2] rfl) (hD.sub (ws' := [((a 14), .inl (cI, 36, .inl ke))]) [2] (by decide) rfl)) rfl rfl hl.1 rfl (lv_room (Nat.le_of_ble_eq_true rfl)) dX3_firstFilling_23 ⟨Nat.le_of_ble_eq_true rfl, Nat.le_of_ble_eq_true rfl⟩) hP hS (fun r u H locs hw hP hS => ?_)
      rw [hw]
      obtain rfl := Option.some.inj hM
      subst hQ hAe
      exact W.iret (v := (rd ke p1)) hx hb hr (fun t ht hW => ⟨⟨(rd ke p1), (), rfl, rfl, trivial⟩, hS.F ht⟩) hS.2.2 dX3_firstFilling_26
    · replace hM := it_p hcc hM
      refine lv_iconst (v := 0) hx hb dX3_firstFilling_14 (by decide) ?_
      refine lv_goto (tgt := 26) hx hb dX3_firstFilling_15 (by decide) ?_
      obtain rfl := Option.some.inj hM
      subst hQ hAe
      exact W.iret (v := (0 : Int32)) hx hb hr (fun t ht hW => ⟨⟨(0 : Int32), (), rfl, rfl, trivial⟩, hS.F ht⟩) hS.2.2 dX3_firstFilling_26
def mX3_keepFilling_9 (N : Nat) (fo : Int32) (st : RowI) : Nat → Int32 → RowI → Option (RowI × Int32)
  | 0 => fun _ _ => none
  | n + 1 => fun v1 ke' => (if (36 : Int32) ≤ v1 then
  some (ke', (fo + (1 : Int32)))
  else
  ((mX1_stoneAt N st v1).bind fun x25 =>
  (mX3_keepFilling_9 N fo st n (v1 + 1) (wr ke' v1 x25))))
def mX3_keepFilling (N : Nat) (ke : RowI) (fo : Int32) (st : RowI) : Option (RowI × Int32) :=
  (if fo = 0 then
  (mX3_keepFilling_9 N fo st N (0 : Int32) ke)
  else
  some (ke, (fo + (1 : Int32))))
abbrev rmX3_keepFilling : Room := { frames := 2, cells := 0, slots := 0, locals := 42 }
set_option maxHeartbeats 4000000 in
set_option maxRecDepth 100000 in
theorem kX3_keepFilling {l : Launch} {D : va_G} {cI cJ : ClassId} (N : Nat) (a : Nat → Nat) {ho : RowI} {ke : RowI} {hc : Int32} {tr : Int32} {fo : Int32} {fr : Int32} {st : RowI} {co : Int32} {ro : Int32} {cA : CS} {cD : CS} {su : RowJ} {jA : JT} {jD : JT} {o : (RowI × Int32)} (hM : mX3_keepFilling N ke fo st = some o) (sz : Nat) : Met l yX3_keepFilling wsX3_keepFilling rmX3_keepFilling (va_Pc [.ref (a 12)] (Pre D cI cJ (xw a cI cJ ho ke hc tr fo fr st co ro cA cD su jA jD) sz)) (va_Qv (fun (_ : Unit) => True) (aft D (xw a cI cJ ho ke hc tr fo fr st co ro cA cD su jA jD) sz (fun (_ : Unit) => (xw a cI cJ ho o.1 hc tr o.2 fr st co ro cA cD su jA jD))) (va_A (xw a cI cJ ho ke hc tr fo fr st co ro cA cD su jA jD) sz)) 0 0 (va_A (xw a cI cJ ho ke hc tr fo fr st co ro cA cD su jA jD) sz) := by
  refine xofW (cc := cX3_keepFilling) (maxL := 2) (ret := none) rfl (by decide) rfl ?_
  intro p e s m args below meth c ls Q A hQ hAe hx hb hr hml hown hts hlocks hnm hN hK H locs hP hD hS hA hl
  replace hown : s.vm.findClass RX3 = some m.cls := hown
  replace hl : lv_has ls 2 [(0, .ref (a 12))] := hl
  have iX3 : ∀ w ∈ wsX30, w ∈ wsX3_keepFilling := by decide +kernel
  have f19 := hts (.fieldLink RX3 19 "CryptSums$Search" "kept" "[I") (by decide +kernel)
  have f29 := hts (.fieldLink RX3 29 "CryptSums$Search" "found" "I") (by decide +kernel)
  have f9 := hts (.fieldLink RX3 9 "CryptSums$Search" "floor" "LCryptSums$Floor;") (by decide +kernel)
  have c9 : ∀ (n : Nat), ∀ (v1 : Int32) (ke' : RowI), mX3_keepFilling_9 N fo st n v1 ke' = some o → ∀ (H : Heap) (locs : List Loc) (ls : Array Slot), va_P D vwCl (xw a cI cJ ho ke' hc tr fo fr st co ro cA cD su jA jD) H → va_D A (xw a cI cJ ho ke' hc tr fo fr st co ro cA cD su jA jD) → va_S A s.heap H locs → lv_has ls 2 [(0, .ref (a 12)), (1, .int v1)] → W p l e rmX3_keepFilling s m args below meth c H locs 0 0 Q (F0 m 9 ls []) := by
    intro n
    induction n with
    | zero =>
      intro v1 ke' hM
      rw [mX3_keepFilling_9] at hM
      cases hM
    | succ n ih =>
      intro v1 ke' hM H locs ls hP hD hS hl
      rw [mX3_keepFilling_9] at hM
      refine lv_iload_n hx hb dX3_keepFilling_9 rfl (lv_at hl 1 rfl) ?_
      refine lv_bipush (v := 36) hx hb dX3_keepFilling_10 (by decide) ?_
      refine lv_icmp_ge (tgt := 37) hx hb dX3_keepFilling_12 (by decide) (fun hcc => ?_) (fun hcc => ?_)
      · replace hM := it_p hcc hM
        refine lv_aload_n hx hb dX3_keepFilling_37 rfl (lv_at hl 0 rfl) ?_
        refine lv_dup hx hb dX3_keepFilling_38 rfl ?_
        refine va_get (D := D) (ci := 3) (v := .int fo) (C := RX3) (T := TX3) (N := 7) hx hb hts iX3 hown hK hP 0 rfl rfl 5 (by decide) f29 (fun _ h9 => h9) rfl dX3_keepFilling_39 ?_
        refine lv_iconst (v := 1) hx hb dX3_keepFilling_42 (by decide) ?_
        refine lv_iadd hx hb dX3_keepFilling_43 ?_
        refine va_put (D := D) (ci := 3) (v := .int (fo + (1 : Int32))) (ty := .int) (C := RX3) (T := TX3) (N := 7) hx hb hts iX3 tyX3 tyX3_ok nmX3 hown hK hP hD hS 0 rfl rfl 5 (by decide) f29 (fun _ h9 => h9) rfl (by decide +kernel) rfl rfl (Nat.le_of_ble_eq_true rfl) dX3_keepFilling_44 (fun H locs hP hD hS => ?_)
        replace hP : va_P D vwCl (xw a cI cJ ho ke' hc tr (fo + (1 : Int32)) fr st co ro cA cD su jA jD) H := hP
        replace hD : va_D A (xw a cI cJ ho ke' hc tr (fo + (1 : Int32)) fr st co ro cA cD su jA jD) := hD
        obtain rfl := Option.some.inj hM
        subst hQ hAe
        exact W.vret hx hb hr (fun t ht hW => ⟨⟨(), rfl, trivial, ⟨by rw [ht]; exact hP, hD⟩⟩, hS.F ht⟩) hS.2.2 dX3_keepFilling_47
      · replace hM := it_n hcc hM
        refine lv_aload_n hx hb dX3_keepFilling_15 rfl (lv_at hl 0 rfl) ?_
        refine va_get (D := D) (ci := 3) (v := .ref (a 14)) (C := RX3) (T := TX3) (N := 7) hx hb hts iX3 hown hK hP 0 rfl rfl 2 (by decide) f19 (fun _ h9 => h9) rfl dX3_keepFilling_16 ?_
        refine lv_iload_n hx hb dX3_keepFilling_19 rfl (lv_at hl 1 rfl) ?_
        refine lv_aload_n hx hb dX3_keepFilling_20 rfl (lv_at hl 0 rfl) ?_
        refine va_get (D := D) (ci := 3) (v := .ref (a 0)) (C := RX3) (T := TX3) (N := 7) hx hb hts iX3 hown hK hP 0 rfl rfl 0 (by decide) f9 (fun _ h9 => h9) rfl dX3_keepFilling_21 ?_
        refine lv_iload_n hx hb dX3_keepFilling_24 rfl (lv_at hl 1 rfl) ?_
        obtain ⟨x25, hC, hM⟩ := bd_s hM
        refine cR_i (va_runV (As := [.int v1]) (rest := [.int v1, .ref (a 14)]) ⟨hx, hb, hml, hown, hts⟩ (kX1_stoneAt (l := l) (D := D) (cI := cI) (cJ := cJ) N a (st := st) (co := co) (ro := ro) (cA := cA) (cD := cD) (su := su) (jA := jA) (jD := jD) (p1 := v1) hC H.size) (cwV 1 hts gX3_keepFilling_X1_stoneAt rfl rfl rfl (by decide +kernel) ⟨Nat.le_of_ble_eq_true rfl, Nat.le_of_ble_eq_true rfl⟩) (preV [.int v1] hN hK (hP.sub (ws' := (fw a cI cJ st co ro cA cD su jA jD)) [4, 5, 6, 7, 8, 9, 10, 11, 12, 13, 14, 15] rfl) (hD.sub (ws' := (fw a cI cJ st co ro cA cD su jA jD)) [4, 5, 6, 7, 8, 9, 10, 11, 12, 13, 14, 15] (by decide) rfl) (ci := 1) (q0 := 0) rfl rfl) rfl rfl hl.1 rfl (lv_room (Nat.le_of_ble_eq_true rfl)) dX3_keepFilling_25 ⟨Nat.le_of_ble_eq_true rfl, Nat.le_of_ble_eq_true rfl⟩) hP hS (fun r u H locs hw hP hS => ?_)
        rw [hw]
        refine cW_v [2] [0, 1, 3, 4, 5, 6, 7, 8, 9, 10, 11, 12, 13, 14, 15] (va_runSN (As := [.ref (a 14), .int v1, .int x25]) (rest := []) ⟨hx, hb, hml, hown, hts⟩ (kX4_write (D := D) (cI := cI) (cJ := cJ) (a 14) ke' v1 x25 H.size) ⟨va_cnB 3 hts gX3_keepFilling_X4_write_n64 rfl rfl rfl (hN (.methodLinkNest RX3 64 yX4_write "CryptSums") (by decide +kernel)) (hts (.initialized RX4) (by decide +kernel)) (by decide +kernel) ⟨Nat.le_of_ble_eq_true rfl, Nat.le_of_ble_eq_true rfl⟩, hts (.static yX4_write) (by decide +kernel), trivial⟩ (preS [.ref (a 14), .int v1, .int x25] hN hK (hP.sub (ws' := [((a 14), .inl (cI, 36, .inl ke'))]) [2] rfl) (hD.sub (ws' := [((a 14), .inl (cI, 36, .inl ke'))]) [2] (by decide) rfl)) rfl rfl hl.1 rfl (lv_room (Nat.le_of_ble_eq_true rfl)) dX3_keepFilling_28 ⟨Nat.le_of_ble_eq_true rfl, Nat.le_of_ble_eq_true rfl⟩) hP hD hS hA rfl (wr := (((xw a cI cJ ho ke' hc tr fo fr st co ro cA cD su jA jD)).eraseIdx 2)) rfl (by decide) (by decide) (fun u H locs hw hP hD hS => ?_)
        replace hP := hP.sub (ws' := (xw a cI cJ ho (wr ke' v1 x25) hc tr fo fr st co ro cA cD su jA jD)) [0, 1, 15, 2, 3, 4, 5, 6, 7, 8, 9, 10, 11, 12, 13, 14] rfl
        replace hD := hD.sub (ws' := (xw a cI cJ ho (wr ke' v1 x25) hc tr fo fr st co ro cA cD su jA jD)) [0, 1, 15, 2, 3, 4, 5, 6, 7, 8, 9, 10, 11, 12, 13, 14] (by decide) rfl
        refine lv_iinc (v := (v1 + 1)) (lv' := [(1, .int (v1 + 1)), (0, .ref (a 12))]) hx hb dX3_keepFilling_31 hl (k := 1) rfl (by rfl) (by decide) rfl (fun ls hl => ?_)
        refine lv_goto (tgt := 9) hx hb dX3_keepFilling_34 (by decide) ?_
        exact ih (v1 + 1) (wr ke' v1 x25) hM H locs ls hP hD hS (lv_sub hl [1, 0] rfl)
  rw [mX3_keepFilling] at hM
  refine lv_aload_n hx hb dX3_keepFilling_0 rfl (lv_at hl 0 rfl) ?_
  refine va_get (D := D) (ci := 3) (v := .int fo) (C := RX3) (T := TX3) (N := 7) hx hb hts iX3 hown hK hP 0 rfl rfl 5 (by decide) f29 (fun _ h9 => h9) rfl dX3_keepFilling_1 ?_
  refine lv_if_ne (tgt := 37) hx hb dX3_keepFilling_4 (by decide) (fun hcc => ?_) (fun hcc => ?_)
  · replace hM := it_n hcc hM
    refine lv_aload_n hx hb dX3_keepFilling_37 rfl (lv_at hl 0 rfl) ?_
    refine lv_dup hx hb dX3_keepFilling_38 rfl ?_
    refine va_get (D := D) (ci := 3) (v := .int fo) (C := RX3) (T := TX3) (N := 7) hx hb hts iX3 hown hK hP 0 rfl rfl 5 (by decide) f29 (fun _ h9 => h9) rfl dX3_keepFilling_39 ?_
    refine lv_iconst (v := 1) hx hb dX3_keepFilling_42 (by decide) ?_
    refine lv_iadd hx hb dX3_keepFilling_43 ?_
    refine va_put (D := D) (ci := 3) (v := .int (fo + (1 : Int32))) (ty := .int) (C := RX3) (T := TX3) (N := 7) hx hb hts iX3 tyX3 tyX3_ok nmX3 hown hK hP hD hS 0 rfl rfl 5 (by decide) f29 (fun _ h9 => h9) rfl (by decide +kernel) rfl rfl (Nat.le_of_ble_eq_true rfl) dX3_keepFilling_44 (fun H locs hP hD hS => ?_)
    replace hP : va_P D vwCl (xw a cI cJ ho ke hc tr (fo + (1 : Int32)) fr st co ro cA cD su jA jD) H := hP
    replace hD : va_D A (xw a cI cJ ho ke hc tr (fo + (1 : Int32)) fr st co ro cA cD su jA jD) := hD
    obtain rfl := Option.some.inj hM
    subst hQ hAe
    exact W.vret hx hb hr (fun t ht hW => ⟨⟨(), rfl, trivial, ⟨by rw [ht]; exact hP, hD⟩⟩, hS.F ht⟩) hS.2.2 dX3_keepFilling_47
  · replace hM := it_p hcc hM
    refine lv_iconst (v := 0) hx hb dX3_keepFilling_7 (by decide) ?_
    refine lv_istore_n (lv' := [(1, .int (0 : Int32)), (0, .ref (a 12))]) hx hb dX3_keepFilling_8 rfl hl (by decide) rfl (fun ls hl => ?_)
    exact c9 N (0 : Int32) ke hM H locs ls hP hD hS (lv_sub hl [1, 0] rfl)
def mX3_collectHoles_2 (N : Nat) (st : RowI) (co : Int32) (ro : Int32) : Nat → Int32 → RowI → Int32 → Option (RowI × Int32)
  | 0 => fun _ _ _ => none
  | n + 1 => fun v1 ho' hc' => ((mX1_cells N co ro).bind fun x7 =>
  (if x7 ≤ v1 then
  some (ho', hc')
  else
  ((mX1_isHole N st v1).bind fun x18 =>
  (if x18 = 0 then
  (mX3_collectHoles_2 N st co ro n (v1 + 1) ho' hc')
  else
  (mX3_collectHoles_2 N st co ro n (v1 + 1) (wr ho' hc' v1) (hc' + (1 : Int32)))))))
def mX3_collectHoles (N : Nat) (ho : RowI) (hc : Int32) (st : RowI) (co : Int32) (ro : Int32) : Option (RowI × Int32) :=
  (mX3_collectHoles_2 N st co ro N (0 : Int32) ho hc)
abbrev rmX3_collectHoles : Room := { frames := 2, cells := 0, slots := 0, locals := 42 }
set_option maxHeartbeats 4000000 in
set_option maxRecDepth 100000 in
theorem kX3_collectHoles {l : Launch} {D : va_G} {cI cJ : ClassId} (N : Nat) (a : Nat → Nat) {ho : RowI} {ke : RowI} {hc : Int32} {tr : Int32} {fo : Int32} {fr : Int32} {st : RowI} {co : Int32} {ro : Int32} {cA : CS} {cD : CS} {su : RowJ} {jA : JT} {jD : JT} {o : (RowI × Int32)} (hM : mX3_collectHoles N ho hc st co ro = some o) (sz : Nat) : Met l yX3_collectHoles wsX3_collectHoles rmX3_collectHoles (va_Pc [.ref (a 12)] (Pre D cI cJ (xw a cI cJ ho ke hc tr fo fr st co ro cA cD su jA jD) sz)) (va_Qv (fun (_ : Unit) => True) (aft D (xw a cI cJ ho ke hc tr fo fr st co ro cA cD su jA jD) sz (fun (_ : Unit) => (xw a cI cJ o.1 ke o.2 tr fo fr st co ro cA cD su jA jD))) (va_A (xw a cI cJ ho ke hc tr fo fr st co ro cA cD su jA jD) sz)) 0 0 (va_A (xw a cI cJ ho ke hc tr fo fr st co ro cA cD su jA jD) sz) := by
  refine xofW (cc := cX3_collectHoles) (maxL := 2) (ret := none) rfl (by decide) rfl ?_
  intro p e s m args below meth c ls Q A hQ hAe hx hb hr hml hown hts hlocks hnm hN hK H locs hP hD hS hA hl
  replace hown : s.vm.findClass RX3 = some m.cls := hown
  replace hl : lv_has ls 2 [(0, .ref (a 12))] := hl
  have iX3 : ∀ w ∈ wsX30, w ∈ wsX3_collectHoles := by decide +kernel
  have f15 := hts (.fieldLink RX3 15 "CryptSums$Search" "holes" "[I") (by decide +kernel)
  have f22 := hts (.fieldLink RX3 22 "CryptSums$Search" "holeCount" "I") (by decide +kernel)
  have f9 := hts (.fieldLink RX3 9 "CryptSums$Search" "floor" "LCryptSums$Floor;") (by decide +kernel)
  have c2 : ∀ (n : Nat), ∀ (v1 : Int32) (ho' : RowI) (hc' : Int32), mX3_collectHoles_2 N st co ro n v1 ho' hc' = some o → ∀ (H : Heap) (locs : List Loc) (ls : Array Slot), va_P D vwCl (xw a cI cJ ho' ke hc' tr fo fr st co ro cA cD su jA jD) H → va_D A (xw a cI cJ ho' ke hc' tr fo fr st co ro cA cD su jA jD) → va_S A s.heap H locs → lv_has ls 2 [(0, .ref (a 12)), (1, .int v1)] → W p l e rmX3_collectHoles s m args below meth c H locs 0 0 Q (F0 m 2 ls []) := by
    intro n
    induction n with
    | zero =>
      intro v1 ho' hc' hM
      rw [mX3_collectHoles_2] at hM
      cases hM
    | succ n ih =>
      intro v1 ho' hc' hM H locs ls hP hD hS hl
      rw [mX3_collectHoles_2] at hM
      refine lv_iload_n hx hb dX3_collectHoles_2 rfl (lv_at hl 1 rfl) ?_
      refine lv_aload_n hx hb dX3_collectHoles_3 rfl (lv_at hl 0 rfl) ?_
      refine va_get (D := D) (ci := 3) (v := .ref (a 0)) (C := RX3) (T := TX3) (N := 7) hx hb hts iX3 hown hK hP 0 rfl rfl 0 (by decide) f9 (fun _ h9 => h9) rfl dX3_collectHoles_4 ?_
      obtain ⟨x7, hC, hM⟩ := bd_s hM
      refine cR_i (va_runV (As := []) (rest := [.int v1]) ⟨hx, hb, hml, hown, hts⟩ (kX1_cells (l := l) (D := D) (cI := cI) (cJ := cJ) N a (st := st) (co := co) (ro := ro) (cA := cA) (cD := cD) (su := su) (jA := jA) (jD := jD) hC H.size) (cwV 0 hts gX3_collectHoles_X1_cells rfl rfl rfl (by decide +kernel) ⟨Nat.le_of_ble_eq_true rfl, Nat.le_of_ble_eq_true rfl⟩) (preV [] hN hK (hP.sub (ws' := (fw a cI cJ st co ro cA cD su jA jD)) [4, 5, 6, 7, 8, 9, 10, 11, 12, 13, 14, 15] rfl) (hD.sub (ws' := (fw a cI cJ st co ro cA cD su jA jD)) [4, 5, 6, 7, 8, 9, 10, 11, 12, 13, 14, 15] (by decide) rfl) (ci := 1) (q0 := 0) rfl rfl) rfl rfl hl.1 rfl (lv_room (Nat.le_of_ble_eq_true rfl)) dX3_collectHoles_7 ⟨Nat.le_of_ble_eq_true rfl, Nat.le_of_ble_eq_true rfl⟩) hP hS (fun r u H locs hw hP hS => ?_)
      rw [hw]
      refine lv_icmp_ge (tgt := 52) hx hb dX3_collectHoles_10 (by decide) (fun hcc => ?_) (fun hcc => ?_)
      · replace hM := it_p hcc hM
        obtain rfl := Option.some.inj hM
        subst hQ hAe
        exact W.vret hx hb hr (fun t ht hW => ⟨⟨(), rfl, trivial, ⟨by rw [ht]; exact hP, hD⟩⟩, hS.F ht⟩) hS.2.2 dX3_collectHoles_52
      · replace hM := it_n hcc hM
        refine lv_aload_n hx hb dX3_collectHoles_13 rfl (lv_at hl 0 rfl) ?_
        refine va_get (D := D) (ci := 3) (v := .ref (a 0)) (C := RX3) (T := TX3) (N := 7) hx hb hts iX3 hown hK hP 0 rfl rfl 0 (by decide) f9 (fun _ h9 => h9) rfl dX3_collectHoles_14 ?_
        refine lv_iload_n hx hb dX3_collectHoles_17 rfl (lv_at hl 1 rfl) ?_
        obtain ⟨x18, hC, hM⟩ := bd_s hM
        refine cR_i (va_runV (As := [.int v1]) (rest := []) ⟨hx, hb, hml, hown, hts⟩ (kX1_isHole (l := l) (D := D) (cI := cI) (cJ := cJ) N a (st := st) (co := co) (ro := ro) (cA := cA) (cD := cD) (su := su) (jA := jA) (jD := jD) (p1 := v1) hC H.size) (cwV 1 hts gX3_collectHoles_X1_isHole rfl rfl rfl (by decide +kernel) ⟨Nat.le_of_ble_eq_true rfl, Nat.le_of_ble_eq_true rfl⟩) (preV [.int v1] hN hK (hP.sub (ws' := (fw a cI cJ st co ro cA cD su jA jD)) [4, 5, 6, 7, 8, 9, 10, 11, 12, 13, 14, 15] rfl) (hD.sub (ws' := (fw a cI cJ st co ro cA cD su jA jD)) [4, 5, 6, 7, 8, 9, 10, 11, 12, 13, 14, 15] (by decide) rfl) (ci := 1) (q0 := 0) rfl rfl) rfl rfl hl.1 rfl (lv_room (Nat.le_of_ble_eq_true rfl)) dX3_collectHoles_18 ⟨Nat.le_of_ble_eq_true rfl, Nat.le_of_ble_eq_true rfl⟩) hP hS (fun r u H locs hw hP hS => ?_)
        obtain ⟨hw, hz18⟩ := hw
        rw [hw] at hz18
        rw [hw]
        refine lv_if_eq (tgt := 46) hx hb dX3_collectHoles_21 (by decide) (fun hcc => ?_) (fun hcc => ?_)
        · replace hM := it_p hcc hM
          refine lv_iinc (v := (v1 + 1)) (lv' := [(1, .int (v1 + 1)), (0, .ref (a 12))]) hx hb dX3_collectHoles_46 hl (k := 1) rfl (by rfl) (by decide) rfl (fun ls hl => ?_)
          refine lv_goto (tgt := 2) hx hb dX3_collectHoles_49 (by decide) ?_
          exact ih (v1 + 1) ho' hc' hM H locs ls hP hD hS (lv_sub hl [1, 0] rfl)
        · replace hM := it_n hcc hM
          refine lv_aload_n hx hb dX3_collectHoles_24 rfl (lv_at hl 0 rfl) ?_
          refine va_get (D := D) (ci := 3) (v := .ref (a 13)) (C := RX3) (T := TX3) (N := 7) hx hb hts iX3 hown hK hP 0 rfl rfl 1 (by decide) f15 (fun _ h9 => h9) rfl dX3_collectHoles_25 ?_
          refine lv_aload_n hx hb dX3_collectHoles_28 rfl (lv_at hl 0 rfl) ?_
          refine va_get (D := D) (ci := 3) (v := .int hc') (C := RX3) (T := TX3) (N := 7) hx hb hts iX3 hown hK hP 0 rfl rfl 3 (by decide) f22 (fun _ h9 => h9) rfl dX3_collectHoles_29 ?_
          refine lv_iload_n hx hb dX3_collectHoles_32 rfl (lv_at hl 1 rfl) ?_
          refine cW_v [1] [0, 2, 3, 4, 5, 6, 7, 8, 9, 10, 11, 12, 13, 14, 15] (va_runSN (As := [.ref (a 13), .int hc', .int v1]) (rest := []) ⟨hx, hb, hml, hown, hts⟩ (kX4_write (D := D) (cI := cI) (cJ := cJ) (a 13) ho' hc' v1 H.size) ⟨va_cnB 3 hts gX3_collectHoles_X4_write_n64 rfl rfl rfl (hN (.methodLinkNest RX3 64 yX4_write "CryptSums") (by decide +kernel)) (hts (.initialized RX4) (by decide +kernel)) (by decide +kernel) ⟨Nat.le_of_ble_eq_true rfl, Nat.le_of_ble_eq_true rfl⟩, hts (.static yX4_write) (by decide +kernel), trivial⟩ (preS [.ref (a 13), .int hc', .int v1] hN hK (hP.sub (ws' := [((a 13), .inl (cI, 36, .inl ho'))]) [1] rfl) (hD.sub (ws' := [((a 13), .inl (cI, 36, .inl ho'))]) [1] (by decide) rfl)) rfl rfl hl.1 rfl (lv_room (Nat.le_of_ble_eq_true rfl)) dX3_collectHoles_33 ⟨Nat.le_of_ble_eq_true rfl, Nat.le_of_ble_eq_true rfl⟩) hP hD hS hA rfl (wr := (((xw a cI cJ ho' ke hc' tr fo fr st co ro cA cD su jA jD)).eraseIdx 1)) rfl (by decide) (by decide) (fun u H locs hw hP hD hS => ?_)
          replace hP := hP.sub (ws' := (xw a cI cJ (wr ho' hc' v1) ke hc' tr fo fr st co ro cA cD su jA jD)) [0, 15, 1, 2, 3, 4, 5, 6, 7, 8, 9, 10, 11, 12, 13, 14] rfl
          replace hD := hD.sub (ws' := (xw a cI cJ (wr ho' hc' v1) ke hc' tr fo fr st co ro cA cD su jA jD)) [0, 15, 1, 2, 3, 4, 5, 6, 7, 8, 9, 10, 11, 12, 13, 14] (by decide) rfl
          refine lv_aload_n hx hb dX3_collectHoles_36 rfl (lv_at hl 0 rfl) ?_
          refine lv_dup hx hb dX3_collectHoles_37 rfl ?_
          refine va_get (D := D) (ci := 3) (v := .int hc') (C := RX3) (T := TX3) (N := 7) hx hb hts iX3 hown hK hP 0 rfl rfl 3 (by decide) f22 (fun _ h9 => h9) rfl dX3_collectHoles_38 ?_
          refine lv_iconst (v := 1) hx hb dX3_collectHoles_41 (by decide) ?_
          refine lv_iadd hx hb dX3_collectHoles_42 ?_
          refine va_put (D := D) (ci := 3) (v := .int (hc' + (1 : Int32))) (ty := .int) (C := RX3) (T := TX3) (N := 7) hx hb hts iX3 tyX3 tyX3_ok nmX3 hown hK hP hD hS 0 rfl rfl 3 (by decide) f22 (fun _ h9 => h9) rfl (by decide +kernel) rfl rfl (Nat.le_of_ble_eq_true rfl) dX3_collectHoles_43 (fun H locs hP hD hS => ?_)
          replace hP : va_P D vwCl (xw a cI cJ (wr ho' hc' v1) ke (hc' + (1 : Int32)) tr fo fr st co ro cA cD su jA jD) H := hP
          replace hD : va_D A (xw a cI cJ (wr ho' hc' v1) ke (hc' + (1 : Int32)) tr fo fr st co ro cA cD su jA jD) := hD
          refine lv_iinc (v := (v1 + 1)) (lv' := [(1, .int (v1 + 1)), (0, .ref (a 12))]) hx hb dX3_collectHoles_46 hl (k := 1) rfl (by rfl) (by decide) rfl (fun ls hl => ?_)
          refine lv_goto (tgt := 2) hx hb dX3_collectHoles_49 (by decide) ?_
          exact ih (v1 + 1) (wr ho' hc' v1) (hc' + (1 : Int32)) hM H locs ls hP hD hS (lv_sub hl [1, 0] rfl)
  rw [mX3_collectHoles] at hM
  refine lv_iconst (v := 0) hx hb dX3_collectHoles_0 (by decide) ?_
  refine lv_istore_n (lv' := [(1, .int (0 : Int32)), (0, .ref (a 12))]) hx hb dX3_collectHoles_1 rfl hl (by decide) rfl (fun ls hl => ?_)
  exact c2 N (0 : Int32) ho hc hM H locs ls hP hD hS (lv_sub hl [1, 0] rfl)
def mX3_fillFrom_104 (N : Nat) (R : RowI → RowI → Int32 → Int32 → Int32 → RowI → CS → CS → RowJ → Int32 → Option (RowI × Int32 × Int32 × RowI)) (v3 : Int32) (ke' : RowI) (tr' : Int32) (fo' : Int32) (st' : RowI) : Option (RowI × Int32 × Int32 × RowI) :=
  ((mX1_lay N st' v3 (0 : Int32)).bind fun x107 =>
  some (ke', tr', fo', x107))
def mX3_fillFrom_43 (N : Nat) (R : RowI → RowI → Int32 → Int32 → Int32 → RowI → CS → CS → RowJ → Int32 → Option (RowI × Int32 × Int32 × RowI)) (ho : RowI) (hc : Int32) (cA : CS) (cD : CS) (su : RowJ) (p2 : Int32) : Nat → Int32 → Int32 → Int32 → RowI → Int32 → Int32 → RowI → Option (RowI × Int32 × Int32 × RowI)
  | 0 => fun _ _ _ _ _ _ _ => none
  | n + 1 => fun v3 v4 v5 ke' tr' fo' st' => (if (9 : Int32) < v5 then
  (mX3_fillFrom_104 N R v3 ke' tr' fo' st')
  else
  ((mX3_isOver N tr' fo').bind fun x51 =>
  (if x51 = 0 then
  ((mX3_isUnknown N (tr' + (1 : Int32))).bind fun x68 =>
  (if x68 = 0 then
  ((mX4_hasNumber N v4 v5).bind fun x78 =>
  (if x78 = 0 then
  (mX3_fillFrom_43 N R ho hc cA cD su p2 n v3 v4 (v5 + 1) ke' (tr' + (1 : Int32)) fo' st')
  else
  ((mX1_lay N st' v3 v5).bind fun x88 =>
  ((R ho ke' hc (tr' + (1 : Int32)) fo' x88 cA cD su (p2 + (1 : Int32))).bind fun x95 =>
  (mX3_fillFrom_43 N R ho hc cA cD su p2 n v3 v4 (v5 + 1) x95.1 x95.2.1 x95.2.2.1 x95.2.2.2)))))
  else
  (mX3_fillFrom_43 N R ho hc cA cD su p2 n v3 v4 (v5 + 1) ke' (tr' + (1 : Int32)) fo' st')))
  else
  (mX3_fillFrom_104 N R v3 ke' tr' fo' st'))))
def mX3_fillFrom_14 (N : Nat) (R : RowI → RowI → Int32 → Int32 → Int32 → RowI → CS → CS → RowJ → Int32 → Option (RowI × Int32 × Int32 × RowI)) (ke : RowI) (tr : Int32) (fo : Int32) (st : RowI) : Option (RowI × Int32 × Int32 × RowI) :=
  ((mX3_keepFilling N ke fo st).bind fun x15 =>
  some (x15.1, tr, x15.2, st))
def mX3_fillFrom (N : Nat) : Nat → RowI → RowI → Int32 → Int32 → Int32 → RowI → CS → CS → RowJ → Int32 → Option (RowI × Int32 × Int32 × RowI)
  | 0 => fun _ _ _ _ _ _ _ _ _ _ => none
  | d + 1 => fun ho ke hc tr fo st cA cD su p2 => (if hc ≤ p2 then
  (mX3_fillFrom_14 N (mX3_fillFrom N d) ke tr fo st)
  else
  (if p2 < (36 : Int32) then
  ((mX1_numbersFor N st cA cD su (rd ho p2)).bind fun x35 =>
  (mX3_fillFrom_43 N (mX3_fillFrom N d) ho hc cA cD su p2 N (rd ho p2) x35 (1 : Int32) ke tr fo st))
  else
  (mX3_fillFrom_14 N (mX3_fillFrom N d) ke tr fo st)))
abbrev rmX3_fillFrom (d : Nat) : Room := { frames := 4 + d, cells := 0, slots := 0, locals := 95 + d * 25 }
set_option maxHeartbeats 4000000 in
set_option maxRecDepth 100000 in
theorem kX3_fillFrom {l : Launch} {D : va_G} {cI cJ : ClassId} (N : Nat) (a : Nat → Nat) : ∀ (d : Nat) {ho : RowI} {ke : RowI} {hc : Int32} {tr : Int32} {fo : Int32} {fr : Int32} {st : RowI} {co : Int32} {ro : Int32} {cA : CS} {cD : CS} {su : RowJ} {jA : JT} {jD : JT} {p2 : Int32} {o : (RowI × Int32 × Int32 × RowI)} (hM : mX3_fillFrom N d ho ke hc tr fo st cA cD su p2 = some o) (sz : Nat), Met l yX3_fillFrom wsX3_fillFrom (rmX3_fillFrom d) (va_Pc [.ref (a 12), .int p2] (Pre D cI cJ (xw a cI cJ ho ke hc tr fo fr st co ro cA cD su jA jD) sz)) (va_Qv (fun (_ : JT × JT) => True) (aft D (xw a cI cJ ho ke hc tr fo fr st co ro cA cD su jA jD) sz (fun (u : JT × JT) => (xw a cI cJ ho o.1 hc o.2.1 o.2.2.1 fr o.2.2.2 co ro cA cD su u.1 u.2))) (va_A (xw a cI cJ ho ke hc tr fo fr st co ro cA cD su jA jD) sz)) 0 0 (va_A (xw a cI cJ ho ke hc tr fo fr st co ro cA cD su jA jD) sz) := by
  intro d
  induction d with
  | zero =>
    intro ho ke hc tr fo fr st co ro cA cD su jA jD p2 o hM sz
    rw [mX3_fillFrom] at hM
    cases hM
  | succ d ihd =>
    intro ho ke hc tr fo fr st co ro cA cD su jA jD p2 o hM sz
    refine xofW (cc := cX3_fillFrom) (maxL := 6) (ret := none) rfl (by decide) rfl ?_
    intro p e s m args below meth c ls Q A hQ hAe hx hb hr hml hown hts hlocks hnm hN hK H locs hP hD hS hA hl
    replace hown : s.vm.findClass RX3 = some m.cls := hown
    replace hl : lv_has ls 6 [(0, .ref (a 12)), (1, .int p2)] := hl
    have iX3 : ∀ w ∈ wsX30, w ∈ wsX3_fillFrom := by decide +kernel
    have f15 := hts (.fieldLink RX3 15 "CryptSums$Search" "holes" "[I") (by decide +kernel)
    have f22 := hts (.fieldLink RX3 22 "CryptSums$Search" "holeCount" "I") (by decide +kernel)
    have f26 := hts (.fieldLink RX3 26 "CryptSums$Search" "tried" "I") (by decide +kernel)
    have f9 := hts (.fieldLink RX3 9 "CryptSums$Search" "floor" "LCryptSums$Floor;") (by decide +kernel)
    have c104 : ∀ (v3 : Int32) (ke' : RowI) (tr' : Int32) (fo' : Int32) (st' : RowI), mX3_fillFrom_104 N (mX3_fillFrom N d) v3 ke' tr' fo' st' = some o → ∀ (jA' : JT) (jD' : JT) (H : Heap) (locs : List Loc) (ls : Array Slot), va_P D vwCl (xw a cI cJ ho ke' hc tr' fo' fr st' co ro cA cD su jA' jD') H → va_D A (xw a cI cJ ho ke' hc tr' fo' fr st' co ro cA cD su jA' jD') → va_S A s.heap H locs → lv_has ls 6 [(2, .ref (a 0)), (3, .int v3)] → W p l e (rmX3_fillFrom (d + 1)) s m args below meth c H locs 0 0 Q (F0 m 104 ls []) := by
        intro  v3 ke' tr' fo' st' hM jA' jD' H locs ls hP hD hS hl
        rw [mX3_fillFrom_104] at hM
        refine lv_aload_n hx hb dX3_fillFrom_104 rfl (lv_at hl 0 rfl) ?_
        refine lv_iload_n hx hb dX3_fillFrom_105 rfl (lv_at hl 1 rfl) ?_
        refine lv_iconst (v := 0) hx hb dX3_fillFrom_106 (by decide) ?_
        obtain ⟨x107, hC, hM⟩ := bd_s hM
        refine cW_v [4, 5, 6, 7, 8, 9, 10, 11, 12, 13, 14, 15] [0, 1, 2, 3] (va_runV (As := [.int v3, .int (0 : Int32)]) (rest := []) ⟨hx, hb, hml, hown, hts⟩ (kX1_lay (l := l) (D := D) (cI := cI) (cJ := cJ) N a (st := st') (co := co) (ro := ro) (cA := cA) (cD := cD) (su := su) (jA := jA') (jD := jD') (p1 := v3) (p2 := (0 : Int32)) hC H.size) (cwV 2 hts gX3_fillFrom_X1_lay rfl rfl rfl (by decide +kernel) ⟨by dsimp only [rmX3_fillFrom, rmX1_lay]; omega, by dsimp only [rmX3_fillFrom, rmX1_lay]; omega⟩) (preV [.int v3, .int (0 : Int32)] hN hK (hP.sub (ws' := (fw a cI cJ st' co ro cA cD su jA' jD')) [4, 5, 6, 7, 8, 9, 10, 11, 12, 13, 14, 15] rfl) (hD.sub (ws' := (fw a cI cJ st' co ro cA cD su jA' jD')) [4, 5, 6, 7, 8, 9, 10, 11, 12, 13, 14, 15] (by decide) rfl) (ci := 1) (q0 := 0) rfl rfl) rfl rfl hl.1 rfl (lv_room (Nat.le_of_ble_eq_true rfl)) dX3_fillFrom_107 ⟨Nat.le_of_ble_eq_true rfl, Nat.le_of_ble_eq_true rfl⟩) hP hD hS hA rfl (wr := ((xw a cI cJ ho ke' hc tr' fo' fr st' co ro cA cD su jA' jD')).take 4) rfl (by decide) (by decide) (fun u107 H locs hw hP hD hS => ?_)
        replace hP : va_P D vwCl (xw a cI cJ ho ke' hc tr' fo' fr x107 co ro cA cD su jA' jD') H := hP
        replace hD : va_D A (xw a cI cJ ho ke' hc tr' fo' fr x107 co ro cA cD su jA' jD') := hD
        obtain rfl := Option.some.inj hM
        subst hQ hAe
        exact W.vret hx hb hr (fun t ht hW => ⟨⟨(jA', jD'), rfl, trivial, ⟨by rw [ht]; exact hP, hD⟩⟩, hS.F ht⟩) hS.2.2 dX3_fillFrom_110
    have c43 : ∀ (n : Nat), ∀ (v3 : Int32) (v4 : Int32) (v5 : Int32) (ke' : RowI) (tr' : Int32) (fo' : Int32) (st' : RowI), mX3_fillFrom_43 N (mX3_fillFrom N d) ho hc cA cD su p2 n v3 v4 v5 ke' tr' fo' st' = some o → ∀ (jA' : JT) (jD' : JT) (H : Heap) (locs : List Loc) (ls : Array Slot), va_P D vwCl (xw a cI cJ ho ke' hc tr' fo' fr st' co ro cA cD su jA' jD') H → va_D A (xw a cI cJ ho ke' hc tr' fo' fr st' co ro cA cD su jA' jD') → va_S A s.heap H locs → lv_has ls 6 [(0, .ref (a 12)), (1, .int p2), (2, .ref (a 0)), (3, .int v3), (4, .int v4), (5, .int v5)] → W p l e (rmX3_fillFrom (d + 1)) s m args below meth c H locs 0 0 Q (F0 m 43 ls []) := by
      intro n
      induction n with
      | zero =>
        intro v3 v4 v5 ke' tr' fo' st' hM
        rw [mX3_fillFrom_43] at hM
        cases hM
      | succ n ih =>
        intro v3 v4 v5 ke' tr' fo' st' hM jA' jD' H locs ls hP hD hS hl
        rw [mX3_fillFrom_43] at hM
        refine lv_iload hx hb dX3_fillFrom_43 (lv_at hl 5 rfl) ?_
        refine lv_bipush (v := 9) hx hb dX3_fillFrom_45 (by decide) ?_
        refine lv_icmp_gt (tgt := 104) hx hb dX3_fillFrom_47 (by decide) (fun hcc => ?_) (fun hcc => ?_)
        · replace hM := it_p hcc hM
          exact c104 v3 ke' tr' fo' st' hM jA' jD' H locs ls hP hD hS (lv_sub hl [2, 3] rfl)
        · replace hM := it_n hcc hM
          refine lv_aload_n hx hb dX3_fillFrom_50 rfl (lv_at hl 0 rfl) ?_
          obtain ⟨x51, hC, hM⟩ := bd_s hM
          refine cR_i (va_runV (As := []) (rest := []) ⟨hx, hb, hml, hown, hts⟩ (kX3_isOver (l := l) (D := D) (cI := cI) (cJ := cJ) N a (ho := ho) (ke := ke') (hc := hc) (tr := tr') (fo := fo') (fr := fr) (st := st') (co := co) (ro := ro) (cA := cA) (cD := cD) (su := su) (jA := jA') (jD := jD') hC H.size) (cwV 0 hts gX3_fillFrom_X3_isOver rfl rfl rfl (by decide +kernel) ⟨by dsimp only [rmX3_fillFrom, rmX3_isOver]; omega, by dsimp only [rmX3_fillFrom, rmX3_isOver]; omega⟩) (preV [] hN hK hP hD (ci := 3) (q0 := 0) rfl rfl) rfl rfl hl.1 rfl (lv_room (Nat.le_of_ble_eq_true rfl)) dX3_fillFrom_51 ⟨Nat.le_of_ble_eq_true rfl, Nat.le_of_ble_eq_true rfl⟩) hP hS (fun r u H locs hw hP hS => ?_)
          obtain ⟨hw, hz51⟩ := hw
          rw [hw] at hz51
          rw [hw]
          refine lv_if_ne (tgt := 104) hx hb dX3_fillFrom_54 (by decide) (fun hcc => ?_) (fun hcc => ?_)
          · replace hM := it_n hcc hM
            exact c104 v3 ke' tr' fo' st' hM jA' jD' H locs ls hP hD hS (lv_sub hl [2, 3] rfl)
          · replace hM := it_p hcc hM
            refine lv_aload_n hx hb dX3_fillFrom_57 rfl (lv_at hl 0 rfl) ?_
            refine lv_dup hx hb dX3_fillFrom_58 rfl ?_
            refine va_get (D := D) (ci := 3) (v := .int tr') (C := RX3) (T := TX3) (N := 7) hx hb hts iX3 hown hK hP 0 rfl rfl 4 (by decide) f26 (fun _ h9 => h9) rfl dX3_fillFrom_59 ?_
            refine lv_iconst (v := 1) hx hb dX3_fillFrom_62 (by decide) ?_
            refine lv_iadd hx hb dX3_fillFrom_63 ?_
            refine va_put (D := D) (ci := 3) (v := .int (tr' + (1 : Int32))) (ty := .int) (C := RX3) (T := TX3) (N := 7) hx hb hts iX3 tyX3 tyX3_ok nmX3 hown hK hP hD hS 0 rfl rfl 4 (by decide) f26 (fun _ h9 => h9) rfl (by decide +kernel) rfl rfl (Nat.le_of_ble_eq_true rfl) dX3_fillFrom_64 (fun H locs hP hD hS => ?_)
            replace hP : va_P D vwCl (xw a cI cJ ho ke' hc (tr' + (1 : Int32)) fo' fr st' co ro cA cD su jA' jD') H := hP
            replace hD : va_D A (xw a cI cJ ho ke' hc (tr' + (1 : Int32)) fo' fr st' co ro cA cD su jA' jD') := hD
            refine lv_aload_n hx hb dX3_fillFrom_67 rfl (lv_at hl 0 rfl) ?_
            obtain ⟨x68, hC, hM⟩ := bd_s hM
            refine cR_i (va_runV (As := []) (rest := []) ⟨hx, hb, hml, hown, hts⟩ (kX3_isUnknown (l := l) (D := D) (cI := cI) (cJ := cJ) N a (ho := ho) (ke := ke') (hc := hc) (tr := (tr' + (1 : Int32))) (fo := fo') (fr := fr) (st := st') (co := co) (ro := ro) (cA := cA) (cD := cD) (su := su) (jA := jA') (jD := jD') hC H.size) (cwV 0 hts gX3_fillFrom_X3_isUnknown rfl rfl rfl (by decide +kernel) ⟨by dsimp only [rmX3_fillFrom, rmX3_isUnknown]; omega, by dsimp only [rmX3_fillFrom, rmX3_isUnknown]; omega⟩) (preV [] hN hK hP hD (ci := 3) (q0 := 0) rfl rfl) rfl rfl hl.1 rfl (lv_room (Nat.le_of_ble_eq_true rfl)) dX3_fillFrom_68 ⟨Nat.le_of_ble_eq_true rfl, Nat.le_of_ble_eq_true rfl⟩) hP hS (fun r u H locs hw hP hS => ?_)
            obtain ⟨hw, hz68⟩ := hw
            rw [hw] at hz68
            rw [hw]
            refine lv_if_ne (tgt := 98) hx hb dX3_fillFrom_71 (by decide) (fun hcc => ?_) (fun hcc => ?_)
            · replace hM := it_n hcc hM
              refine lv_iinc (v := (v5 + 1)) (lv' := [(5, .int (v5 + 1)), (0, .ref (a 12)), (1, .int p2), (2, .ref (a 0)), (3, .int v3), (4, .int v4)]) hx hb dX3_fillFrom_98 hl (k := 5) rfl (by rfl) (by decide) rfl (fun ls hl => ?_)
              refine lv_goto (tgt := 43) hx hb dX3_fillFrom_101 (by decide) ?_
              exact ih v3 v4 (v5 + 1) ke' (tr' + (1 : Int32)) fo' st' hM jA' jD' H locs ls hP hD hS (lv_sub hl [1, 2, 3, 4, 5, 0] rfl)
            · replace hM := it_p hcc hM
              refine lv_iload hx hb dX3_fillFrom_74 (lv_at hl 4 rfl) ?_
              refine lv_iload hx hb dX3_fillFrom_76 (lv_at hl 5 rfl) ?_
              obtain ⟨x78, hC, hM⟩ := bd_s hM
              refine cR_i (va_runSN (As := [.int v4, .int v5]) (rest := []) ⟨hx, hb, hml, hown, hts⟩ (kX4_hasNumber (l := l) (D := D) (cI := cI) (cJ := cJ) N (p1 := v4) (p2 := v5) hC H.size) ⟨va_cnB 2 hts gX3_fillFrom_X4_hasNumber_n78 rfl rfl rfl (hN (.methodLinkNest RX3 78 yX4_hasNumber "CryptSums") (by decide +kernel)) (hts (.initialized RX4) (by decide +kernel)) (by decide +kernel) ⟨by dsimp only [rmX3_fillFrom, rmX4_hasNumber]; omega, by dsimp only [rmX3_fillFrom, rmX4_hasNumber]; omega⟩, hts (.static yX4_hasNumber) (by decide +kernel), trivial⟩ (preS [.int v4, .int v5] hN hK (hP.sub (ws' := zw) [] rfl) (hD.sub (ws' := zw) [] (by decide) rfl)) rfl rfl hl.1 rfl (lv_room (Nat.le_of_ble_eq_true rfl)) dX3_fillFrom_78 ⟨Nat.le_of_ble_eq_true rfl, Nat.le_of_ble_eq_true rfl⟩) hP hS (fun r u H locs hw hP hS => ?_)
              obtain ⟨hw, hz78⟩ := hw
              rw [hw] at hz78
              rw [hw]
              refine lv_if_eq (tgt := 98) hx hb dX3_fillFrom_81 (by decide) (fun hcc => ?_) (fun hcc => ?_)
              · replace hM := it_p hcc hM
                refine lv_iinc (v := (v5 + 1)) (lv' := [(5, .int (v5 + 1)), (0, .ref (a 12)), (1, .int p2), (2, .ref (a 0)), (3, .int v3), (4, .int v4)]) hx hb dX3_fillFrom_98 hl (k := 5) rfl (by rfl) (by decide) rfl (fun ls hl => ?_)
                refine lv_goto (tgt := 43) hx hb dX3_fillFrom_101 (by decide) ?_
                exact ih v3 v4 (v5 + 1) ke' (tr' + (1 : Int32)) fo' st' hM jA' jD' H locs ls hP hD hS (lv_sub hl [1, 2, 3, 4, 5, 0] rfl)
              · replace hM := it_n hcc hM
                refine lv_aload_n hx hb dX3_fillFrom_84 rfl (lv_at hl 2 rfl) ?_
                refine lv_iload_n hx hb dX3_fillFrom_85 rfl (lv_at hl 3 rfl) ?_
                refine lv_iload hx hb dX3_fillFrom_86 (lv_at hl 5 rfl) ?_
                obtain ⟨x88, hC, hM⟩ := bd_s hM
                refine cW_v [4, 5, 6, 7, 8, 9, 10, 11, 12, 13, 14, 15] [0, 1, 2, 3] (va_runV (As := [.int v3, .int v5]) (rest := []) ⟨hx, hb, hml, hown, hts⟩ (kX1_lay (l := l) (D := D) (cI := cI) (cJ := cJ) N a (st := st') (co := co) (ro := ro) (cA := cA) (cD := cD) (su := su) (jA := jA') (jD := jD') (p1 := v3) (p2 := v5) hC H.size) (cwV 2 hts gX3_fillFrom_X1_lay rfl rfl rfl (by decide +kernel) ⟨by dsimp only [rmX3_fillFrom, rmX1_lay]; omega, by dsimp only [rmX3_fillFrom, rmX1_lay]; omega⟩) (preV [.int v3, .int v5] hN hK (hP.sub (ws' := (fw a cI cJ st' co ro cA cD su jA' jD')) [4, 5, 6, 7, 8, 9, 10, 11, 12, 13, 14, 15] rfl) (hD.sub (ws' := (fw a cI cJ st' co ro cA cD su jA' jD')) [4, 5, 6, 7, 8, 9, 10, 11, 12, 13, 14, 15] (by decide) rfl) (ci := 1) (q0 := 0) rfl rfl) rfl rfl hl.1 rfl (lv_room (Nat.le_of_ble_eq_true rfl)) dX3_fillFrom_88 ⟨Nat.le_of_ble_eq_true rfl, Nat.le_of_ble_eq_true rfl⟩) hP hD hS hA rfl (wr := ((xw a cI cJ ho ke' hc (tr' + (1 : Int32)) fo' fr st' co ro cA cD su jA' jD')).take 4) rfl (by decide) (by decide) (fun u88 H locs hw hP hD hS => ?_)
                replace hP : va_P D vwCl (xw a cI cJ ho ke' hc (tr' + (1 : Int32)) fo' fr x88 co ro cA cD su jA' jD') H := hP
                replace hD : va_D A (xw a cI cJ ho ke' hc (tr' + (1 : Int32)) fo' fr x88 co ro cA cD su jA' jD') := hD
                refine lv_aload_n hx hb dX3_fillFrom_91 rfl (lv_at hl 0 rfl) ?_
                refine lv_iload_n hx hb dX3_fillFrom_92 rfl (lv_at hl 1 rfl) ?_
                refine lv_iconst (v := 1) hx hb dX3_fillFrom_93 (by decide) ?_
                refine lv_iadd hx hb dX3_fillFrom_94 ?_
                obtain ⟨x95, hC, hM⟩ := bd_s hM
                refine cW_v [0, 1, 2, 3, 4, 5, 6, 7, 8, 9, 10, 11, 12, 13, 14, 15] [] (va_runS (As := [.ref (a 12), .int (p2 + (1 : Int32))]) (rest := []) ⟨hx, hb, hml, hown, hts⟩ (ihd (ho := ho) (ke := ke') (hc := hc) (tr := (tr' + (1 : Int32))) (fo := fo') (fr := fr) (st := x88) (co := co) (ro := ro) (cA := cA) (cD := cD) (su := su) (jA := jA') (jD := jD') (p2 := (p2 + (1 : Int32))) hC H.size) (va_cwS 2 hts gX3_fillFrom_X3_fillFrom rfl rfl rfl (by decide +kernel) ⟨by dsimp only [rmX3_fillFrom, rmX3_fillFrom]; omega, by dsimp only [rmX3_fillFrom, rmX3_fillFrom]; omega⟩) (preS [.ref (a 12), .int (p2 + (1 : Int32))] hN hK hP hD) rfl rfl hl.1 rfl (lv_room (Nat.le_of_ble_eq_true rfl)) dX3_fillFrom_95 ⟨Nat.le_of_ble_eq_true rfl, Nat.le_of_ble_eq_true rfl⟩) hP hD hS hA rfl (wr := []) rfl (by decide) (by decide) (fun u95 H locs hw hP hD hS => ?_)
                replace hP : va_P D vwCl (xw a cI cJ ho x95.1 hc x95.2.1 x95.2.2.1 fr x95.2.2.2 co ro cA cD su u95.1 u95.2) H := hP
                replace hD : va_D A (xw a cI cJ ho x95.1 hc x95.2.1 x95.2.2.1 fr x95.2.2.2 co ro cA cD su u95.1 u95.2) := hD
                refine lv_iinc (v := (v5 + 1)) (lv' := [(5, .int (v5 + 1)), (0, .ref (a 12)), (1, .int p2), (2, .ref (a 0)), (3, .int v3), (4, .int v4)]) hx hb dX3_fillFrom_98 hl (k := 5) rfl (by rfl) (by decide) rfl (fun ls hl => ?_)
                refine lv_goto (tgt := 43) hx hb dX3_fillFrom_101 (by decide) ?_
                exact ih v3 v4 (v5 + 1) x95.1 x95.2.1 x95.2.2.1 x95.2.2.2 hM u95.1 u95.2 H locs ls hP hD hS (lv_sub hl [1, 2, 3, 4, 5, 0] rfl)
    have c14 : mX3_fillFrom_14 N (mX3_fillFrom N d) ke tr fo st = some o → ∀ (H : Heap) (locs : List Loc) (ls : Array Slot), va_P D vwCl (xw a cI cJ ho ke hc tr fo fr st co ro cA cD su jA jD) H → va_D A (xw a cI cJ ho ke hc tr fo fr st co ro cA cD su jA jD) → va_S A s.heap H locs → lv_has ls 6 [(0, .ref (a 12))] → W p l e (rmX3_fillFrom (d + 1)) s m args below meth c H locs 0 0 Q (F0 m 14 ls []) := by
        intro   hM H locs ls hP hD hS hl
        rw [mX3_fillFrom_14] at hM
        refine lv_aload_n hx hb dX3_fillFrom_14 rfl (lv_at hl 0 rfl) ?_
        obtain ⟨x15, hC, hM⟩ := bd_s hM
        refine cW_v [0, 1, 2, 3, 4, 5, 6, 7, 8, 9, 10, 11, 12, 13, 14, 15] [] (va_runV (As := []) (rest := []) ⟨hx, hb, hml, hown, hts⟩ (kX3_keepFilling (l := l) (D := D) (cI := cI) (cJ := cJ) N a (ho := ho) (ke := ke) (hc := hc) (tr := tr) (fo := fo) (fr := fr) (st := st) (co := co) (ro := ro) (cA := cA) (cD := cD) (su := su) (jA := jA) (jD := jD) hC H.size) (cwV 0 hts gX3_fillFrom_X3_keepFilling rfl rfl rfl (by decide +kernel) ⟨by dsimp only [rmX3_fillFrom, rmX3_keepFilling]; omega, by dsimp only [rmX3_fillFrom, rmX3_keepFilling]; omega⟩) (preV [] hN hK hP hD (ci := 3) (q0 := 0) rfl rfl) rfl rfl hl.1 rfl (lv_room (Nat.le_of_ble_eq_true rfl)) dX3_fillFrom_15 ⟨Nat.le_of_ble_eq_true rfl, Nat.le_of_ble_eq_true rfl⟩) hP hD hS hA rfl (wr := []) rfl (by decide) (by decide) (fun u15 H locs hw hP hD hS => ?_)
        replace hP : va_P D vwCl (xw a cI cJ ho x15.1 hc tr x15.2 fr st co ro cA cD su jA jD) H := hP
        replace hD : va_D A (xw a cI cJ ho x15.1 hc tr x15.2 fr st co ro cA cD su jA jD) := hD
        obtain rfl := Option.some.inj hM
        subst hQ hAe
        exact W.vret hx hb hr (fun t ht hW => ⟨⟨(jA, jD), rfl, trivial, ⟨by rw [ht]; exact hP, hD⟩⟩, hS.F ht⟩) hS.2.2 dX3_fillFrom_18
    rw [mX3_fillFrom] at hM
    refine lv_iload_n hx hb dX3_fillFrom_0 rfl (lv_at hl 1 rfl) ?_
    refine lv_aload_n hx hb dX3_fillFrom_1 rfl (lv_at hl 0 rfl) ?_
    refine va_get (D := D) (ci := 3) (v := .int hc) (C := RX3) (T := TX3) (N := 7) hx hb hts iX3 hown hK hP 0 rfl rfl 3 (by decide) f22 (fun _ h9 => h9) rfl dX3_fillFrom_2 ?_
    refine lv_icmp_ge (tgt := 14) hx hb dX3_fillFrom_5 (by decide) (fun hcc => ?_) (fun hcc => ?_)
    · replace hM := it_p hcc hM
      exact c14 hM H locs ls hP hD hS (lv_sub hl [0] rfl)
    · replace hM := it_n hcc hM
      refine lv_iload_n hx hb dX3_fillFrom_8 rfl (lv_at hl 1 rfl) ?_
      refine lv_bipush (v := 36) hx hb dX3_fillFrom_9 (by decide) ?_
      refine lv_icmp_lt (tgt := 19) hx hb dX3_fillFrom_11 (by decide) (fun hcc => ?_) (fun hcc => ?_)
      · replace hM := it_p hcc hM
        refine lv_aload_n hx hb dX3_fillFrom_19 rfl (lv_at hl 0 rfl) ?_
        refine va_get (D := D) (ci := 3) (v := .ref (a 0)) (C := RX3) (T := TX3) (N := 7) hx hb hts iX3 hown hK hP 0 rfl rfl 0 (by decide) f9 (fun _ h9 => h9) rfl dX3_fillFrom_20 ?_
        refine lv_astore_n (lv' := [(2, .ref (a 0)), (0, .ref (a 12)), (1, .int p2)]) hx hb dX3_fillFrom_23 rfl hl (by decide) rfl (fun ls hl => ?_)
        refine lv_aload_n hx hb dX3_fillFrom_24 rfl (lv_at hl 1 rfl) ?_
        refine va_get (D := D) (ci := 3) (v := .ref (a 13)) (C := RX3) (T := TX3) (N := 7) hx hb hts iX3 hown hK hP 0 rfl rfl 1 (by decide) f15 (fun _ h9 => h9) rfl dX3_fillFrom_25 ?_
        refine lv_iload_n hx hb dX3_fillFrom_28 rfl (lv_at hl 2 rfl) ?_
        refine cR_i (va_runSN (As := [.ref (a 13), .int p2]) (rest := []) ⟨hx, hb, hml, hown, hts⟩ (kX4_read (D := D) (cI := cI) (cJ := cJ) (a 13) ho p2 H.size) ⟨va_cnB 2 hts gX3_fillFrom_X4_read_n52 rfl rfl rfl (hN (.methodLinkNest RX3 52 yX4_read "CryptSums") (by decide +kernel)) (hts (.initialized RX4) (by decide +kernel)) (by decide +kernel) ⟨by dsimp only [rmX3_fillFrom, rmX4_read]; omega, by dsimp only [rmX3_fillFrom, rmX4_read]; omega⟩, hts (.static yX4_read) (by decide +kernel), trivial⟩ (preS [.ref (a 13), .int p2] hN hK (hP.sub (ws' := [((a 13), .inl (cI, 36, .inl ho))]) [1] rfl) (hD.sub (ws' := [((a 13), .inl (cI, 36, .inl ho))]) [1] (by decide) rfl)) rfl rfl hl.1 rfl (lv_room (Nat.le_of_ble_eq_true rfl)) dX3_fillFrom_29 ⟨Nat.le_of_ble_eq_true rfl, Nat.le_of_ble_eq_true rfl⟩) hP hS (fun r u H locs hw hP hS => ?_)
        rw [hw]
        refine lv_istore_n (lv' := [(3, .int (rd ho p2)), (2, .ref (a 0)), (0, .ref (a 12)), (1, .int p2)]) hx hb dX3_fillFrom_32 rfl hl (by decide) rfl (fun ls hl => ?_)
        refine lv_aload_n hx hb dX3_fillFrom_33 rfl (lv_at hl 1 rfl) ?_
        refine lv_iload_n hx hb dX3_fillFrom_34 rfl (lv_at hl 0 rfl) ?_
        obtain ⟨x35, hC, hM⟩ := bd_s hM
        refine cW_i [4, 5, 6, 7, 8, 9, 10, 11, 12, 13, 14, 15] [0, 1, 2, 3] (va_runV (As := [.int (rd ho p2)]) (rest := []) ⟨hx, hb, hml, hown, hts⟩ (kX1_numbersFor (l := l) (D := D) (cI := cI) (cJ := cJ) N a (st := st) (co := co) (ro := ro) (cA := cA) (cD := cD) (su := su) (jA := jA) (jD := jD) (p1 := (rd ho p2)) hC H.size) (cwV 1 hts gX3_fillFrom_X1_numbersFor rfl rfl rfl (by decide +kernel) ⟨by dsimp only [rmX3_fillFrom, rmX1_numbersFor]; omega, by dsimp only [rmX3_fillFrom, rmX1_numbersFor]; omega⟩) (preV [.int (rd ho p2)] hN hK (hP.sub (ws' := (fw a cI cJ st co ro cA cD su jA jD)) [4, 5, 6, 7, 8, 9, 10, 11, 12, 13, 14, 15] rfl) (hD.sub (ws' := (fw a cI cJ st co ro cA cD su jA jD)) [4, 5, 6, 7, 8, 9, 10, 11, 12, 13, 14, 15] (by decide) rfl) (ci := 1) (q0 := 0) rfl rfl) rfl rfl hl.1 rfl (lv_room (Nat.le_of_ble_eq_true rfl)) dX3_fillFrom_35 ⟨Nat.le_of_ble_eq_true rfl, Nat.le_of_ble_eq_true rfl⟩) hP hD hS hA rfl (wr := ((xw a cI cJ ho ke hc tr fo fr st co ro cA cD su jA jD)).take 4) rfl (by decide) (by decide) (fun r u35 H locs hw hP hD hS => ?_)
        replace hP : va_P D vwCl (xw a cI cJ ho ke hc tr fo fr st co ro cA cD su u35.1 u35.2) H := hP
        replace hD : va_D A (xw a cI cJ ho ke hc tr fo fr st co ro cA cD su u35.1 u35.2) := hD
        rw [hw]
        refine lv_istore (lv' := [(4, .int x35), (3, .int (rd ho p2)), (2, .ref (a 0)), (0, .ref (a 12)), (1, .int p2)]) hx hb dX3_fillFrom_38 hl (by decide) rfl (fun ls hl => ?_)
        refine lv_iconst (v := 1) hx hb dX3_fillFrom_40 (by decide) ?_
        refine lv_istore (lv' := [(5, .int (1 : Int32)), (4, .int x35), (3, .int (rd ho p2)), (2, .ref (a 0)), (0, .ref (a 12)), (1, .int p2)]) hx hb dX3_fillFrom_41 hl (by decide) rfl (fun ls hl => ?_)
        exact c43 N (rd ho p2) x35 (1 : Int32) ke tr fo st hM u35.1 u35.2 H locs ls hP hD hS (lv_sub hl [4, 5, 3, 2, 1, 0] rfl)
      · replace hM := it_n hcc hM
        exact c14 hM H locs ls hP hD hS (lv_sub hl [0] rfl)
def mX3_refresh (N : Nat) (ho : RowI) (ke : RowI) (hc : Int32) (tr : Int32) (fo : Int32) (fr : Int32) (st : RowI) (co : Int32) (ro : Int32) (cA : CS) (cD : CS) (su : RowJ) : Option (RowI × RowI × Int32 × Int32 × Int32 × Int32 × RowI) :=
  (if fr = 0 then
  ((mX1_isAllWell N st co ro cA cD su).bind fun x32 =>
  (if x32 = 0 then
  some (ho, ke, (0 : Int32), (0 : Int32), (0 : Int32), (1 : Int32), st)
  else
  ((mX3_collectHoles N ho (0 : Int32) st co ro).bind fun x39 =>
  ((mX3_fillFrom N 40 x39.1 ke x39.2 (0 : Int32) (0 : Int32) st cA cD su (0 : Int32)).bind fun x44 =>
  some (x39.1, x44.1, x39.2, x44.2.1, x44.2.2.1, (1 : Int32), x44.2.2.2)))))
  else
  some (ho, ke, hc, tr, fo, fr, st))
abbrev rmX3_refresh : Room := { frames := 45, cells := 0, slots := 0, locals := 1120 }
set_option maxHeartbeats 4000000 in
set_option maxRecDepth 100000 in
theorem kX3_refresh {l : Launch} {D : va_G} {cI cJ : ClassId} (N : Nat) (a : Nat → Nat) {ho : RowI} {ke : RowI} {hc : Int32} {tr : Int32} {fo : Int32} {fr : Int32} {st : RowI} {co : Int32} {ro : Int32} {cA : CS} {cD : CS} {su : RowJ} {jA : JT} {jD : JT} {o : (RowI × RowI × Int32 × Int32 × Int32 × Int32 × RowI)} (hM : mX3_refresh N ho ke hc tr fo fr st co ro cA cD su = some o) (sz : Nat) : Met l yX3_refresh wsX3_refresh rmX3_refresh (va_Pc [.ref (a 12)] (Pre D cI cJ (xw a cI cJ ho ke hc tr fo fr st co ro cA cD su jA jD) sz)) (va_Qv (fun (_ : JT × JT) => True) (aft D (xw a cI cJ ho ke hc tr fo fr st co ro cA cD su jA jD) sz (fun (u : JT × JT) => (xw a cI cJ o.1 o.2.1 o.2.2.1 o.2.2.2.1 o.2.2.2.2.1 o.2.2.2.2.2.1 o.2.2.2.2.2.2 co ro cA cD su u.1 u.2))) (va_A (xw a cI cJ ho ke hc tr fo fr st co ro cA cD su jA jD) sz)) 0 0 (va_A (xw a cI cJ ho ke hc tr fo fr st co ro cA cD su jA jD) sz) := by
  refine xofW (cc := cX3_refresh) (maxL := 1) (ret := none) rfl (by decide) rfl ?_
  intro p e s m args below meth c ls Q A hQ hAe hx hb hr hml hown hts hlocks hnm hN hK H locs hP hD hS hA hl
  replace hown : s.vm.findClass RX3 = some m.cls := hown
  replace hl : lv_has ls 1 [(0, .ref (a 12))] := hl
  have iX3 : ∀ w ∈ wsX30, w ∈ wsX3_refresh := by decide +kernel
  have f22 := hts (.fieldLink RX3 22 "CryptSums$Search" "holeCount" "I") (by decide +kernel)
  have f26 := hts (.fieldLink RX3 26 "CryptSums$Search" "tried" "I") (by decide +kernel)
  have f29 := hts (.fieldLink RX3 29 "CryptSums$Search" "found" "I") (by decide +kernel)
  have f32 := hts (.fieldLink RX3 32 "CryptSums$Search" "fresh" "Z") (by decide +kernel)
  have f9 := hts (.fieldLink RX3 9 "CryptSums$Search" "floor" "LCryptSums$Floor;") (by decide +kernel)
  rw [mX3_refresh] at hM
  refine lv_aload_n hx hb dX3_refresh_0 rfl (lv_at hl 0 rfl) ?_
  refine va_get (D := D) (ci := 3) (v := .int fr) (C := RX3) (T := TX3) (N := 7) hx hb hts iX3 hown hK hP 0 rfl rfl 6 (by decide) f32 (fun _ h9 => h9) rfl dX3_refresh_1 ?_
  refine lv_if_eq (tgt := 8) hx hb dX3_refresh_4 (by decide) (fun hcc => ?_) (fun hcc => ?_)
  · replace hM := it_p hcc hM
    refine lv_aload_n hx hb dX3_refresh_8 rfl (lv_at hl 0 rfl) ?_
    refine lv_iconst (v := 1) hx hb dX3_refresh_9 (by decide) ?_
    refine va_put (D := D) (ci := 3) (v := .int (1 : Int32)) (ty := .boolean) (C := RX3) (T := TX3) (N := 7) hx hb hts iX3 tyX3 tyX3_ok nmX3 hown hK hP hD hS 0 rfl rfl 6 (by decide) f32 (fun _ h9 => h9) rfl (by decide +kernel) rfl rfl (Nat.le_of_ble_eq_true rfl) dX3_refresh_10 (fun H locs hP hD hS => ?_)
    replace hP : va_P D vwCl (xw a cI cJ ho ke hc tr fo (1 : Int32) st co ro cA cD su jA jD) H := hP
    replace hD : va_D A (xw a cI cJ ho ke hc tr fo (1 : Int32) st co ro cA cD su jA jD) := hD
    refine lv_aload_n hx hb dX3_refresh_13 rfl (lv_at hl 0 rfl) ?_
    refine lv_iconst (v := 0) hx hb dX3_refresh_14 (by decide) ?_
    refine va_put (D := D) (ci := 3) (v := .int (0 : Int32)) (ty := .int) (C := RX3) (T := TX3) (N := 7) hx hb hts iX3 tyX3 tyX3_ok nmX3 hown hK hP hD hS 0 rfl rfl 3 (by decide) f22 (fun _ h9 => h9) rfl (by decide +kernel) rfl rfl (Nat.le_of_ble_eq_true rfl) dX3_refresh_15 (fun H locs hP hD hS => ?_)
    replace hP : va_P D vwCl (xw a cI cJ ho ke (0 : Int32) tr fo (1 : Int32) st co ro cA cD su jA jD) H := hP
    replace hD : va_D A (xw a cI cJ ho ke (0 : Int32) tr fo (1 : Int32) st co ro cA cD su jA jD) := hD
    refine lv_aload_n hx hb dX3_refresh_18 rfl (lv_at hl 0 rfl) ?_
    refine lv_iconst (v := 0) hx hb dX3_refresh_19 (by decide) ?_
    refine va_put (D := D) (ci := 3) (v := .int (0 : Int32)) (ty := .int) (C := RX3) (T := TX3) (N := 7) hx hb hts iX3 tyX3 tyX3_ok nmX3 hown hK hP hD hS 0 rfl rfl 4 (by decide) f26 (fun _ h9 => h9) rfl (by decide +kernel) rfl rfl (Nat.le_of_ble_eq_true rfl) dX3_refresh_20 (fun H locs hP hD hS => ?_)
    replace hP : va_P D vwCl (xw a cI cJ ho ke (0 : Int32) (0 : Int32) fo (1 : Int32) st co ro cA cD su jA jD) H := hP
    replace hD : va_D A (xw a cI cJ ho ke (0 : Int32) (0 : Int32) fo (1 : Int32) st co ro cA cD su jA jD) := hD
    refine lv_aload_n hx hb dX3_refresh_23 rfl (lv_at hl 0 rfl) ?_
    refine lv_iconst (v := 0) hx hb dX3_refresh_24 (by decide) ?_
    refine va_put (D := D) (ci := 3) (v := .int (0 : Int32)) (ty := .int) (C := RX3) (T := TX3) (N := 7) hx hb hts iX3 tyX3 tyX3_ok nmX3 hown hK hP hD hS 0 rfl rfl 5 (by decide) f29 (fun _ h9 => h9) rfl (by decide +kernel) rfl rfl (Nat.le_of_ble_eq_true rfl) dX3_refresh_25 (fun H locs hP hD hS => ?_)
    replace hP : va_P D vwCl (xw a cI cJ ho ke (0 : Int32) (0 : Int32) (0 : Int32) (1 : Int32) st co ro cA cD su jA jD) H := hP
    replace hD : va_D A (xw a cI cJ ho ke (0 : Int32) (0 : Int32) (0 : Int32) (1 : Int32) st co ro cA cD su jA jD) := hD
    refine lv_aload_n hx hb dX3_refresh_28 rfl (lv_at hl 0 rfl) ?_
    refine va_get (D := D) (ci := 3) (v := .ref (a 0)) (C := RX3) (T := TX3) (N := 7) hx hb hts iX3 hown hK hP 0 rfl rfl 0 (by decide) f9 (fun _ h9 => h9) rfl dX3_refresh_29 ?_
    obtain ⟨x32, hC, hM⟩ := bd_s hM
    refine cW_i [4, 5, 6, 7, 8, 9, 10, 11, 12, 13, 14, 15] [0, 1, 2, 3] (va_runV (As := []) (rest := []) ⟨hx, hb, hml, hown, hts⟩ (kX1_isAllWell (l := l) (D := D) (cI := cI) (cJ := cJ) N a (st := st) (co := co) (ro := ro) (cA := cA) (cD := cD) (su := su) (jA := jA) (jD := jD) hC H.size) (cwV 0 hts gX3_refresh_X1_isAllWell rfl rfl rfl (by decide +kernel) ⟨Nat.le_of_ble_eq_true rfl, Nat.le_of_ble_eq_true rfl⟩) (preV [] hN hK (hP.sub (ws' := (fw a cI cJ st co ro cA cD su jA jD)) [4, 5, 6, 7, 8, 9, 10, 11, 12, 13, 14, 15] rfl) (hD.sub (ws' := (fw a cI cJ st co ro cA cD su jA jD)) [4, 5, 6, 7, 8, 9, 10, 11, 12, 13, 14, 15] (by decide) rfl) (ci := 1) (q0 := 0) rfl rfl) rfl rfl hl.1 rfl (lv_room (Nat.le_of_ble_eq_true rfl)) dX3_refresh_32 ⟨Nat.le_of_ble_eq_true rfl, Nat.le_of_ble_eq_true rfl⟩) hP hD hS hA rfl (wr := ((xw a cI cJ ho ke (0 : Int32) (0 : Int32) (0 : Int32) (1 : Int32) st co ro cA cD su jA jD)).take 4) rfl (by decide) (by decide) (fun r u32 H locs hw hP hD hS => ?_)
    replace hP : va_P D vwCl (xw a cI cJ ho ke (0 : Int32) (0 : Int32) (0 : Int32) (1 : Int32) st co ro cA cD su u32.1 u32.2) H := hP
    replace hD : va_D A (xw a cI cJ ho ke (0 : Int32) (0 : Int32) (0 : Int32) (1 : Int32) st co ro cA cD su u32.1 u32.2) := hD
    obtain ⟨hw, hz32⟩ := hw
    rw [hw] at hz32
    rw [hw]
    refine lv_if_eq (tgt := 47) hx hb dX3_refresh_35 (by decide) (fun hcc => ?_) (fun hcc => ?_)
    · replace hM := it_p hcc hM
      obtain rfl := Option.some.inj hM
      subst hQ hAe
      exact W.vret hx hb hr (fun t ht hW => ⟨⟨(u32.1, u32.2), rfl, trivial, ⟨by rw [ht]; exact hP, hD⟩⟩, hS.F ht⟩) hS.2.2 dX3_refresh_47
    · replace hM := it_n hcc hM
      refine lv_aload_n hx hb dX3_refresh_38 rfl (lv_at hl 0 rfl) ?_
      obtain ⟨x39, hC, hM⟩ := bd_s hM
      refine cW_v [0, 1, 2, 3, 4, 5, 6, 7, 8, 9, 10, 11, 12, 13, 14, 15] [] (va_runV (As := []) (rest := []) ⟨hx, hb, hml, hown, hts⟩ (kX3_collectHoles (l := l) (D := D) (cI := cI) (cJ := cJ) N a (ho := ho) (ke := ke) (hc := (0 : Int32)) (tr := (0 : Int32)) (fo := (0 : Int32)) (fr := (1 : Int32)) (st := st) (co := co) (ro := ro) (cA := cA) (cD := cD) (su := su) (jA := u32.1) (jD := u32.2) hC H.size) (cwV 0 hts gX3_refresh_X3_collectHoles rfl rfl rfl (by decide +kernel) ⟨Nat.le_of_ble_eq_true rfl, Nat.le_of_ble_eq_true rfl⟩) (preV [] hN hK hP hD (ci := 3) (q0 := 0) rfl rfl) rfl rfl hl.1 rfl (lv_room (Nat.le_of_ble_eq_true rfl)) dX3_refresh_39 ⟨Nat.le_of_ble_eq_true rfl, Nat.le_of_ble_eq_true rfl⟩) hP hD hS hA rfl (wr := []) rfl (by decide) (by decide) (fun u39 H locs hw hP hD hS => ?_)
      replace hP : va_P D vwCl (xw a cI cJ x39.1 ke x39.2 (0 : Int32) (0 : Int32) (1 : Int32) st co ro cA cD su u32.1 u32.2) H := hP
      replace hD : va_D A (xw a cI cJ x39.1 ke x39.2 (0 : Int32) (0 : Int32) (1 : Int32) st co ro cA cD su u32.1 u32.2) := hD
      refine lv_aload_n hx hb dX3_refresh_42 rfl (lv_at hl 0 rfl) ?_
      refine lv_iconst (v := 0) hx hb dX3_refresh_43 (by decide) ?_
      obtain ⟨x44, hC, hM⟩ := bd_s hM
      refine cW_v [0, 1, 2, 3, 4, 5, 6, 7, 8, 9, 10, 11, 12, 13, 14, 15] [] (va_runS (As := [.ref (a 12), .int (0 : Int32)]) (rest := []) ⟨hx, hb, hml, hown, hts⟩ (kX3_fillFrom (l := l) (D := D) (cI := cI) (cJ := cJ) N a 40 (ho := x39.1) (ke := ke) (hc := x39.2) (tr := (0 : Int32)) (fo := (0 : Int32)) (fr := (1 : Int32)) (st := st) (co := co) (ro := ro) (cA := cA) (cD := cD) (su := su) (jA := u32.1) (jD := u32.2) (p2 := (0 : Int32)) hC H.size) (va_cwS 2 hts gX3_refresh_X3_fillFrom rfl rfl rfl (by decide +kernel) ⟨Nat.le_of_ble_eq_true rfl, Nat.le_of_ble_eq_true rfl⟩) (preS [.ref (a 12), .int (0 : Int32)] hN hK hP hD) rfl rfl hl.1 rfl (lv_room (Nat.le_of_ble_eq_true rfl)) dX3_refresh_44 ⟨Nat.le_of_ble_eq_true rfl, Nat.le_of_ble_eq_true rfl⟩) hP hD hS hA rfl (wr := []) rfl (by decide) (by decide) (fun u44 H locs hw hP hD hS => ?_)
      replace hP : va_P D vwCl (xw a cI cJ x39.1 x44.1 x39.2 x44.2.1 x44.2.2.1 (1 : Int32) x44.2.2.2 co ro cA cD su u44.1 u44.2) H := hP
      replace hD : va_D A (xw a cI cJ x39.1 x44.1 x39.2 x44.2.1 x44.2.2.1 (1 : Int32) x44.2.2.2 co ro cA cD su u44.1 u44.2) := hD
      obtain rfl := Option.some.inj hM
      subst hQ hAe
      exact W.vret hx hb hr (fun t ht hW => ⟨⟨(u44.1, u44.2), rfl, trivial, ⟨by rw [ht]; exact hP, hD⟩⟩, hS.F ht⟩) hS.2.2 dX3_refresh_47
  · replace hM := it_n hcc hM
    obtain rfl := Option.some.inj hM
    subst hQ hAe
    exact W.vret hx hb hr (fun t ht hW => ⟨⟨(jA, jD), rfl, trivial, ⟨by rw [ht]; exact hP, hD⟩⟩, hS.F ht⟩) hS.2.2 dX3_refresh_7
