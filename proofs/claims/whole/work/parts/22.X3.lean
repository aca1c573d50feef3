def mX3_forget (N : Nat) (fr : Int32) : Option Int32 :=
  some (0 : Int32)
abbrev rmX3_forget : Room := { frames := 0, cells := 0, slots := 0, locals := 0 }
set_option maxHeartbeats 4000000 in
set_option maxRecDepth 100000 in
theorem kX3_forget {l : Launch} {D : va_G} {cI cJ : ClassId} (N : Nat) (a : Nat → Nat) {ho : RowI} {ke : RowI} {hc : Int32} {tr : Int32} {fo : Int32} {fr : Int32} {st : RowI} {co : Int32} {ro : Int32} {cA : CS} {cD : CS} {su : RowJ} {jA : JT} {jD : JT} {o : Int32} (hM : mX3_forget N fr = some o) (sz : Nat) : Met l yX3_forget wsX3_forget rmX3_forget (va_Pc [.ref (a 12)] (Pre D cI cJ (xw a cI cJ ho ke hc tr fo fr st co ro cA cD su jA jD) sz)) (va_Qv (fun (_ : Unit) => True) (aft D (xw a cI cJ ho ke hc tr fo fr st co ro cA cD su jA jD) sz (fun (_ : Unit) => (xw a cI cJ ho ke hc tr fo o st co ro cA cD su jA jD))) (va_A (xw a cI cJ ho ke hc tr fo fr st co ro cA cD su jA jD) sz)) 0 0 (va_A (xw a cI cJ ho ke hc tr fo fr st co ro cA cD su jA jD) sz) := by
  refine xofW (cc := cX3_forget) (maxL := 1) (ret := none) rfl (by decide) rfl ?_
  intro p e s m args below meth c ls Q A hQ hAe hx hb hr hml hown hts hlocks hnm hN hK H locs hP hD hS hA hl
  replace hown : s.vm.findClass RX3 = some m.cls := hown
  replace hl : lv_has ls 1 [(0, .ref (a 12))] := hl
  have iX3 : ∀ w ∈ wsX30, w ∈ wsX3_forget := by decide +kernel
  have f32 := hts (.fieldLink RX3 32 "CryptSums$Search" "fresh" "Z") (by decide +kernel)
  rw [mX3_forget] at hM
  refine lv_aload_n hx hb dX3_forget_0 rfl (lv_at hl 0 rfl) ?_
  refine lv_iconst (v := 0) hx hb dX3_forget_1 (by decide) ?_
  refine va_put (D := D) (ci := 3) (v := .int (0 : Int32)) (ty := .boolean) (C := RX3) (T := TX3) (N := 7) hx hb hts iX3 tyX3 tyX3_ok nmX3 hown hK hP hD hS 0 rfl rfl 6 (by decide) f32 (fun _ h9 => h9) rfl (by decide +kernel) rfl rfl (Nat.le_of_ble_eq_true rfl) dX3_forget_2 (fun H locs hP hD hS => ?_)
  replace hP : va_P D vwCl (xw a cI cJ ho ke hc tr fo (0 : Int32) st co ro cA cD su jA jD) H := hP
  replace hD : va_D A (xw a cI cJ ho ke hc tr fo (0 : Int32) st co ro cA cD su jA jD) := hD
  obtain rfl := Option.some.inj hM
  subst hQ hAe
  exact W.vret hx hb hr (fun t ht hW => ⟨⟨(), rfl, trivial, ⟨by rw [ht]; exact hP, hD⟩⟩, hS.F ht⟩) hS.2.2 dX3_forget_5
def mX3_isUnknown (N : Nat) (tr : Int32) : Option Int32 :=
  (if tr ≤ (4000 : Int32) then
  some (0 : Int32)
  else
  some (1 : Int32))
abbrev rmX3_isUnknown : Room := { frames := 0, cells := 0, slots := 0, locals := 0 }
set_option maxHeartbeats 4000000 in
set_option maxRecDepth 100000 in
theorem kX3_isUnknown {l : Launch} {D : va_G} {cI cJ : ClassId} (N : Nat) (a : Nat → Nat) {ho : RowI} {ke : RowI} {hc : Int32} {tr : Int32} {fo : Int32} {fr : Int32} {st : RowI} {co : Int32} {ro : Int32} {cA : CS} {cD : CS} {su : RowJ} {jA : JT} {jD : JT} {o : Int32} (hM : mX3_isUnknown N tr = some o) (sz : Nat) : Met l yX3_isUnknown wsX3_isUnknown rmX3_isUnknown (va_Pc [.ref (a 12)] (Pre D cI cJ (xw a cI cJ ho ke hc tr fo fr st co ro cA cD su jA jD) sz)) (va_Qi (fun (r : Int32) (_ : Unit) => r = o ∧ bz r) (fun _ _ => True) (fun _ => False)) 0 0 (fun _ => False) := by
  refine xofR (cc := cX3_isUnknown) (maxL := 1) (ret := (some .boolean)) rfl (by decide) rfl ?_
  intro p e s m args below meth c ls Q A hQ hAe hx hb hr hml hown hts hlocks hN hK H locs hP hD hS hl
  replace hown : s.vm.findClass RX3 = some m.cls := hown
  replace hl : lv_has ls 1 [(0, .ref (a 12))] := hl
  have iX3 : ∀ w ∈ wsX30, w ∈ wsX3_isUnknown := by decide +kernel
  have f26 := hts (.fieldLink RX3 26 "CryptSums$Search" "tried" "I") (by decide +kernel)
  rw [mX3_isUnknown] at hM
  refine lv_aload_n hx hb dX3_isUnknown_0 rfl (lv_at hl 0 rfl) ?_
  refine va_get (D := D) (ci := 3) (v := .int tr) (C := RX3) (T := TX3) (N := 7) hx hb hts iX3 hown hK hP 0 rfl rfl 4 (by decide) f26 (fun _ h9 => h9) rfl dX3_isUnknown_1 ?_
  refine lv_sipush (v := 4000) hx hb dX3_isUnknown_4 (by decide) ?_
  refine lv_icmp_le (tgt := 14) hx hb dX3_isUnknown_7 (by decide) (fun hc => ?_) (fun hc => ?_)
  · replace hM := it_p hc hM
    refine lv_iconst (v := 0) hx hb dX3_isUnknown_14 (by decide) ?_
    obtain rfl := Option.some.inj hM
    subst hQ hAe
    exact W.zret (ty := .boolean) (v := (0 : Int32)) hx hb hr (nb_z (Or.inl rfl)) (fun t ht hW => ⟨⟨(0 : Int32), (), rfl, ⟨rfl, Or.inl rfl⟩, trivial⟩, hS.F ht⟩) hS.2.2 dX3_isUnknown_15
  · replace hM := it_n hc hM
    refine lv_iconst (v := 1) hx hb dX3_isUnknown_10 (by decide) ?_
    refine lv_goto (tgt := 15) hx hb dX3_isUnknown_11 (by decide) ?_
    obtain rfl := Option.some.inj hM
    subst hQ hAe
    exact W.zret (ty := .boolean) (v := (1 : Int32)) hx hb hr (nb_z (Or.inr rfl)) (fun t ht hW => ⟨⟨(1 : Int32), (), rfl, ⟨rfl, Or.inr rfl⟩, trivial⟩, hS.F ht⟩) hS.2.2 dX3_isUnknown_15
def mX3_isOver (N : Nat) (tr : Int32) (fo : Int32) : Option Int32 :=
  ((mX3_isUnknown N tr).bind fun x1 =>
  (if x1 = 0 then
  (if fo < (100 : Int32) then
  some (0 : Int32)
  else
  some (1 : Int32))
  else
  some (1 : Int32)))
abbrev rmX3_isOver : Room := { frames := 1, cells := 0, slots := 0, locals := 20 }
set_option maxHeartbeats 4000000 in
set_option maxRecDepth 100000 in
theorem kX3_isOver {l : Launch} {D : va_G} {cI cJ : ClassId} (N : Nat) (a : Nat → Nat) {ho : RowI} {ke : RowI} {hc : Int32} {tr : Int32} {fo : Int32} {fr : Int32} {st : RowI} {co : Int32} {ro : Int32} {cA : CS} {cD : CS} {su : RowJ} {jA : JT} {jD : JT} {o : Int32} (hM : mX3_isOver N tr fo = some o) (sz : Nat) : Met l yX3_isOver wsX3_isOver rmX3_isOver (va_Pc [.ref (a 12)] (Pre D cI cJ (xw a cI cJ ho ke hc tr fo fr st co ro cA cD su jA jD) sz)) (va_Qi (fun (r : Int32) (_ : Unit) => r = o ∧ bz r) (fun _ _ => True) (fun _ => False)) 0 0 (fun _ => False) := by
  refine xofR (cc := cX3_isOver) (maxL := 1) (ret := (some .boolean)) rfl (by decide) rfl ?_
  intro p e s m args below meth c ls Q A hQ hAe hx hb hr hml hown hts hlocks hN hK H locs hP hD hS hl
  replace hown : s.vm.findClass RX3 = some m.cls := hown
  replace hl : lv_has ls 1 [(0, .ref (a 12))] := hl
  have iX3 : ∀ w ∈ wsX30, w ∈ wsX3_isOver := by decide +kernel
  have f29 := hts (.fieldLink RX3 29 "CryptSums$Search" "found" "I") (by decide +kernel)
  rw [mX3_isOver] at hM
  refine lv_aload_n hx hb dX3_isOver_0 rfl (lv_at hl 0 rfl) ?_
  obtain ⟨x1, hC, hM⟩ := bd_s hM
  refine cR_i (va_runV (As := []) (rest := []) ⟨hx, hb, hml, hown, hts⟩ (kX3_isUnknown (l := l) (D := D) (cI := cI) (cJ := cJ) N a (ho := ho) (ke := ke) (hc := hc) (tr := tr) (fo := fo) (fr := fr) (st := st) (co := co) (ro := ro) (cA := cA) (cD := cD) (su := su) (jA := jA) (jD := jD) hC H.size) (cwV 0 hts gX3_isOver_X3_isUnknown rfl rfl rfl (by decide +kernel) ⟨Nat.le_of_ble_eq_true rfl, Nat.le_of_ble_eq_true rfl⟩) (preV [] hN hK hP hD (ci := 3) (q0 := 0) rfl rfl) rfl rfl hl.1 rfl (lv_room (Nat.le_of_ble_eq_true rfl)) dX3_isOver_1 ⟨Nat.le_of_ble_eq_true rfl, Nat.le_of_ble_eq_true rfl⟩) hP hS (fun r u H locs hw hP hS => ?_)
  obtain ⟨hw, hz1⟩ := hw
  rw [hw] at hz1
  rw [hw]
  refine lv_if_ne (tgt := 16) hx hb dX3_isOver_4 (by decide) (fun hc => ?_) (fun hc => ?_)
  · replace hM := it_n hc hM
    refine lv_iconst (v := 1) hx hb dX3_isOver_16 (by decide) ?_
    refine lv_goto (tgt := 21) hx hb dX3_isOver_17 (by decide) ?_
    obtain rfl := Option.some.inj hM
    subst hQ hAe
    exact W.zret (ty := .boolean) (v := (1 : Int32)) hx hb hr (nb_z (Or.inr rfl)) (fun t ht hW => ⟨⟨(1 : Int32), (), rfl, ⟨rfl, Or.inr rfl⟩, trivial⟩, hS.F ht⟩) hS.2.2 dX3_isOver_21
  · replace hM := it_p hc hM
    refine lv_aload_n hx hb dX3_isOver_7 rfl (lv_at hl 0 rfl) ?_
    refine va_get (D := D) (ci := 3) (v := .int fo) (C := RX3) (T := TX3) (N := 7) hx hb hts iX3 hown hK hP 0 rfl rfl 5 (by decide) f29 (fun _ h9 => h9) rfl dX3_isOver_8 ?_
    refine lv_bipush (v := 100) hx hb dX3_isOver_11 (by decide) ?_
    refine lv_icmp_lt (tgt := 20) hx hb dX3_isOver_13 (by decide) (fun hc => ?_) (fun hc => ?_)
    · replace hM := it_p hc hM
      refine lv_iconst (v := 0) hx hb dX3_isOver_20 (by decide) ?_
      obtain rfl := Option.some.inj hM
      subst hQ hAe
      exact W.zret (ty := .boolean) (v := (0 : Int32)) hx hb hr (nb_z (Or.inl rfl)) (fun t ht hW => ⟨⟨(0 : Int32), (), rfl, ⟨rfl, Or.inl rfl⟩, trivial⟩, hS.F ht⟩) hS.2.2 dX3_isOver_21
    · replace hM := it_n hc hM
      refine lv_iconst (v := 1) hx hb dX3_isOver_16 (by decide) ?_
      refine lv_goto (tgt := 21) hx hb dX3_isOver_17 (by decide) ?_
      obtain rfl := Option.some.inj hM
      subst hQ hAe
      exact W.zret (ty := .boolean) (v := (1 : Int32)) hx hb hr (nb_z (Or.inr rfl)) (fun t ht hW => ⟨⟨(1 : Int32), (), rfl, ⟨rfl, Or.inr rfl⟩, trivial⟩, hS.F ht⟩) hS.2.2 dX3_isOver_21
def mX3_told (N : Nat) (tr : Int32) (fo : Int32) : Option Int32 :=
  ((mX3_isUnknown N tr).bind fun x1 =>
  (if x1 = 0 then
  some fo
  else
  some (-1 : Int32)))
abbrev rmX3_told : Room := { frames := 1, cells := 0, slots := 0, locals := 20 }
set_option maxHeartbeats 4000000 in
set_option maxRecDepth 100000 in
theorem kX3_told {l : Launch} {D : va_G} {cI cJ : ClassId} (N : Nat) (a : Nat → Nat) {ho : RowI} {ke : RowI} {hc : Int32} {tr : Int32} {fo : Int32} {fr : Int32} {st : RowI} {co : Int32} {ro : Int32} {cA : CS} {cD : CS} {su : RowJ} {jA : JT} {jD : JT} {o : Int32} (hM : mX3_told N tr fo = some o) (sz : Nat) : Met l yX3_told wsX3_told rmX3_told (va_Pc [.ref (a 12)] (Pre D cI cJ (xw a cI cJ ho ke hc tr fo fr st co ro cA cD su jA jD) sz)) (va_Qi (fun (r : Int32) (_ : Unit) => r = o) (fun _ _ => True) (fun _ => False)) 0 0 (fun _ => False) := by
  refine xofR (cc := cX3_told) (maxL := 1) (ret := (some .int)) rfl (by decide) rfl ?_
  intro p e s m args below meth c ls Q A hQ hAe hx hb hr hml hown hts hlocks hN hK H locs hP hD hS hl
  replace hown : s.vm.findClass RX3 = some m.cls := hown
  replace hl : lv_has ls 1 [(0, .ref (a 12))] := hl
  have iX3 : ∀ w ∈ wsX30, w ∈ wsX3_told := by decide +kernel
  have f29 := hts (.fieldLink RX3 29 "CryptSums$Search" "found" "I") (by decide +kernel)
  rw [mX3_told] at hM
  refine lv_aload_n hx hb dX3_told_0 rfl (lv_at hl 0 rfl) ?_
  obtain ⟨x1, hC, hM⟩ := bd_s hM
  refine cR_i (va_runV (As := []) (rest := []) ⟨hx, hb, hml, hown, hts⟩ (kX3_isUnknown (l := l) (D := D) (cI := cI) (cJ := cJ) N a (ho := ho) (ke := ke) (hc := hc) (tr := tr) (fo := fo) (fr := fr) (st := st) (co := co) (ro := ro) (cA := cA) (cD := cD) (su := su) (jA := jA) (jD := jD) hC H.size) (cwV 0 hts gX3_told_X3_isUnknown rfl rfl rfl (by decide +kernel) ⟨Nat.le_of_ble_eq_true rfl, Nat.le_of_ble_eq_true rfl⟩) (preV [] hN hK hP hD (ci := 3) (q0 := 0) rfl rfl) rfl rfl hl.1 rfl (lv_room (Nat.le_of_ble_eq_true rfl)) dX3_told_1 ⟨Nat.le_of_ble_eq_true rfl, Nat.le_of_ble_eq_true rfl⟩) hP hS (fun r u H locs hw hP hS => ?_)
  obtain ⟨hw, hz1⟩ := hw
  rw [hw] at hz1
  rw [hw]
  refine lv_if_eq (tgt := 11) hx hb dX3_told_4 (by decide) (fun hc => ?_) (fun hc => ?_)
  · replace hM := it_p hc hM
    refine lv_aload_n hx hb dX3_told_11 rfl (lv_at hl 0 rfl) ?_
    refine va_get (D := D) (ci := 3) (v := .int fo) (C := RX3) (T := TX3) (N := 7) hx hb hts iX3 hown hK hP 0 rfl rfl 5 (by decide) f29 (fun _ h9 => h9) rfl dX3_told_12 ?_
    obtain rfl := Option.some.inj hM
    subst hQ hAe
    exact W.iret (v := fo) hx hb hr (fun t ht hW => ⟨⟨fo, (), rfl, rfl, trivial⟩, hS.F ht⟩) hS.2.2 dX3_told_15
  · replace hM := it_n hc hM
    refine lv_iconst (v := -1) hx hb dX3_told_7 (by decide) ?_
    refine lv_goto (tgt := 15) hx hb dX3_told_8 (by decide) ?_
    obtain rfl := Option.some.inj hM
    subst hQ hAe
    exact W.iret (v := (-1 : Int32)) hx hb hr (fun t ht hW => ⟨⟨(-1 : Int32), (), rfl, rfl, trivial⟩, hS.F ht⟩) hS.2.2 dX3_told_15
def mX3_tried (N : Nat) (tr : Int32) : Option Int32 :=
  some tr
abbrev rmX3_tried : Room := { frames := 0, cells := 0, slots := 0, locals := 0 }
set_option maxHeartbeats 4000000 in
set_option maxRecDepth 100000 in
theorem kX3_tried {l : Launch} {D : va_G} {cI cJ : ClassId} (N : Nat) (a : Nat → Nat) {ho : RowI} {ke : RowI} {hc : Int32} {tr : Int32} {fo : Int32} {fr : Int32} {st : RowI} {co : Int32} {ro : Int32} {cA : CS} {cD : CS} {su : RowJ} {jA : JT} {jD : JT} {o : Int32} (hM : mX3_tried N tr = some o) (sz : Nat) : Met l yX3_tried wsX3_tried rmX3_tried (va_Pc [.ref (a 12)] (Pre D cI cJ (xw a cI cJ ho ke hc tr fo fr st co ro cA cD su jA jD) sz)) (va_Qi (fun (r : Int32) (_ : Unit) => r = o) (fun _ _ => True) (fun _ => False)) 0 0 (fun _ => False) := by
  refine xofR (cc := cX3_tried) (maxL := 1) (ret := (some .int)) rfl (by decide) rfl ?_
  intro p e s m args below meth c ls Q A hQ hAe hx hb hr hml hown hts hlocks hN hK H locs hP hD hS hl
  replace hown : s.vm.findClass RX3 = some m.cls := hown
  replace hl : lv_has ls 1 [(0, .ref (a 12))] := hl
  have iX3 : ∀ w ∈ wsX30, w ∈ wsX3_tried := by decide +kernel
  have f26 := hts (.fieldLink RX3 26 "CryptSums$Search" "tried" "I") (by decide +kernel)
  rw [mX3_tried] at hM
  refine lv_aload_n hx hb dX3_tried_0 rfl (lv_at hl 0 rfl) ?_
  refine va_get (D := D) (ci := 3) (v := .int tr) (C := RX3) (T := TX3) (N := 7) hx hb hts iX3 hown hK hP 0 rfl rfl 4 (by decide) f26 (fun _ h9 => h9) rfl dX3_tried_1 ?_
  obtain rfl := Option.some.inj hM
  subst hQ hAe
  exact W.iret (v := tr) hx hb hr (fun t ht hW => ⟨⟨tr, (), rfl, rfl, trivial⟩, hS.F ht⟩) hS.2.2 dX3_tried_4
def mX3_firstFilling (N : Nat) (ke : RowI) (tr : Int32) (fo : Int32) (p1 : Int32) : Option Int32 :=
  ((mX3_isUnknown N tr).bind fun x1 =>
  (if x1 = 0 then
  (if fo = 0 then
  some (0 : Int32)
  else
  some (rd ke p1))
  else
  some (0 : Int32)))
abbrev rmX3_firstFilling : Room := { frames := 1, cells := 0, slots := 0, locals := 21 }
set_option maxHeartbeats 4000000 in
set_option maxRecDepth 100000 in
theorem kX3_firstFilling {l : Launch} {D : va_G} {cI cJ : ClassId} (N : Nat) (a : Nat → Nat) {ho : RowI} {ke : RowI} {hc : Int32} {tr : Int32} {fo : Int32} {fr : Int32} {st : RowI} {co : Int32} {ro : Int32} {cA : CS} {cD : CS} {su : RowJ} {jA : JT} {jD : JT} {p1 : Int32} {o : Int32} (hM : mX3_firstFilling N ke tr fo p1 = some o) (sz : Nat) : Met l yX3_firstFilling wsX3_firstFilling rmX3_firstFilling (va_Pc [.ref (a 12), .int p1] (Pre D cI cJ (xw a cI cJ ho ke hc tr fo fr st co ro cA cD su jA jD) sz)) (va_Qi (fun (r : Int32) (_ : Unit) => r = o) (fun _ _ => True) (fun _ => False)) 0 0 (fun _ => False) := by
  refine xofR (cc := cX3_firstFilling) (maxL := 2) (ret := (some .int)) rfl (by decide) rfl ?_
  intro p e s m args below meth c ls Q A hQ hAe hx hb hr hml hown hts hlocks hN hK H locs hP hD hS hl
  replace hown : s.vm.findClass RX3 = some m.cls := hown
  replace hl : lv_has ls 2 [(0, .ref (a 12)), (1, .int p1)] := hl
  have iX3 : ∀ w ∈ wsX30, w ∈ wsX3_firstFilling := by decide +kernel
  have f19 := hts (.fieldLink RX3 19 "CryptSums$Search" "kept" "[I") (by decide +kernel)
  have f29 := hts (.fieldLink RX3 29 "CryptSums$Search" "found" "I") (by decide +kernel)
  rw [mX3_firstFilling] at hM
  refine lv_aload_n hx hb dX3_firstFilling_0 rfl (lv_at hl 0 rfl) ?_
  obtain ⟨x1, hC, hM⟩ := bd_s hM
  refine cR_i (va_runV (As := []) (rest := []) ⟨hx, hb, hml, hown, hts⟩ (kX3_isUnknown (l := l) (D := D) (cI := cI) (cJ := cJ) N a (ho := ho) (ke := ke) (hc := hc) (tr := tr) (fo := fo) (fr := fr) (st := st) (co := co) (ro := ro) (cA := cA) (cD := cD) (su := su) (jA := jA) (jD := jD) hC H.size) (cwV 0 hts gX3_firstFilling_X3_isUnknown rfl rfl rfl (by decide +kernel) ⟨Nat.le_of_ble_eq_true rfl, Nat.le_of_ble_eq_true rfl⟩) (preV [] hN hK hP hD (ci := 3) (q0 := 0) rfl rfl) rfl rfl hl.1 rfl (lv_room (Nat.le_of_ble_eq_true rfl)) dX3_firstFilling_1 ⟨Nat.le_of_ble_eq_true rfl, Nat.le_of_ble_eq_true rfl⟩) hP hS (fun r u H locs hw hP hS => ?_)
  obtain ⟨hw, hz1⟩ := hw
  rw [hw] at hz1
  rw [hw]
  refine lv_if_ne (tgt := 14) hx hb dX3_firstFilling_4 (by decide) (fun hc => ?_) (fun hc => ?_)
  · replace hM := it_n hc hM
    refine lv_iconst (v := 0) hx hb dX3_firstFilling_14 (by decide) ?_
    refine lv_goto (tgt := 26) hx hb dX3_firstFilling_15 (by decide) ?_
    obtain rfl := Option.some.inj hM
    subst hQ hAe
    exact W.iret (v := (0 : Int32)) hx hb hr (fun t ht hW => ⟨⟨(0 : Int32), (), rfl, rfl, trivial⟩, hS.F ht⟩) hS.2.2 dX3_firstFilling_26
  · replace hM := it_p hc hM
    refine lv_aload_n hx hb dX3_firstFilling_7 rfl (lv_at hl 0 rfl) ?_
    refine va_get (D := D) (ci := 3) (v := .int fo) (C := RX3) (T := TX3) (N := 7) hx hb hts iX3 hown hK hP 0 rfl rfl 5 (by decide) f29 (fun _ h9 => h9) rfl dX3_firstFilling_8 ?_
    refine lv_if_ne (tgt := 18) hx hb dX3_firstFilling_11 (by decide) (fun hc => ?_) (fun hc => ?_)
    · replace hM := it_n hc hM
      refine lv_aload_n hx hb dX3_firstFilling_18 rfl (lv_at hl 0 rfl) ?_
      refine va_get (D := D) (ci := 3) (v := .ref (a 14)) (C := RX3) (T := TX3) (N := 7) hx hb hts iX3 hown hK hP 0 rfl rfl 2 (by decide) f19 (fun _ h9 => h9) rfl dX3_firstFilling_19 ?_
      refine lv_iload_n hx hb dX3_firstFilling_22 rfl (lv_at hl 1 rfl) ?_
      refine cR_i (va_runSN (As := [.ref (a 14), .int p1]) (rest := []) ⟨hx, hb, hml, hown, hts⟩ (kX4_read (D := D) (cI := cI) (cJ := cJ) (a 14) ke p1 H.size) ⟨va_cnB 2 hts gX3_firstFilling_X4_read_n52 rfl rfl rfl (hN (.methodLinkNest RX3 52 yX4_read "CryptSums") (by decide +kernel)) (hts (.initialized RX4) (by decide +kernel)) (by decide +kernel) ⟨Nat.le_of_ble_eq_true rfl, Nat.le_of_ble_eq_true rfl⟩, hts (.static yX4_read) (by decide +kernel), trivial⟩ (preS [.ref (a 14), .int p1] hN hK (hP.sub (ws' := [((a 14), .inl (cI, 36, .inl ke))]) [2] rfl) (hD.sub (ws' := [((a 14), .inl (cI, 36, .inl ke))]) [2] (by decide) rfl)) rfl rfl hl.1 rfl (lv_room (Nat.le_of_ble_eq_true rfl)) dX3_firstFilling_23 ⟨Nat.le_of_ble_eq_true rfl, Nat.le_of_ble_eq_true rfl⟩) hP hS (fun r u H locs hw hP hS => ?_)
      rw [hw]
      obtain rfl := Option.some.inj hM
      subst hQ hAe
      exact W.iret (v := (rd ke p1)) hx hb hr (fun t ht hW => ⟨⟨(rd ke p1), (), rfl, rfl, trivial⟩, hS.F ht⟩) hS.2.2 dX3_firstFilling_26
    · replace hM := it_p hc hM
      refine lv_iconst (v := 0) hx hb dX3_firstFilling_14 (by decide) ?_
      refine lv_goto (tgt := 26) hx hb dX3_firstFilling_15 (by decide) ?_
      obtain rfl := Option.some.inj hM
      subst hQ hAe
      exact W.iret (v := (0 : Int32)) hx hb hr (fun t ht hW => ⟨⟨(0 : Int32), (), rfl, rfl, trivial⟩, hS.F ht⟩) hS.2.2 dX3_firstFilling_26
def mX3_keepFilling_9 (N : Nat) (fo : Int32) (st : RowI) : Nat → Int32 → RowI → Option (RowI × Int32)
  | 0 => fun _ _ => none
  | n + 1 => fun v1 ke' => (if (36 : Int32) ≤ v1 then
  some (ke', (fo + (1 : Int32)))
  else
  ((mX1_stoneAt N st v1).bind fun x25 =>
  (mX3_keepFilling_9 N fo st n (v1 + 1) (wr ke' v1 x25))))
def mX3_keepFilling (N : Nat) (ke : RowI) (fo : Int32) (st : RowI) : Option (RowI × Int32) :=
  (if fo = 0 then
  (mX3_keepFilling_9 N fo st N (0 : Int32) ke)
  else
  some (ke, (fo + (1 : Int32))))
abbrev rmX3_keepFilling : Room := { frames := 2, cells := 0, slots := 0, locals := 42 }
set_option maxHeartbeats 4000000 in
set_option maxRecDepth 100000 in
theorem kX3_keepFilling {l : Launch} {D : va_G} {cI cJ : ClassId} (N : Nat) (a : Nat → Nat) {ho : RowI} {ke : RowI} {hc : Int32} {tr : Int32} {fo : Int32} {fr : Int32} {st : RowI} {co : Int32} {ro : Int32} {cA : CS} {cD : CS} {su : RowJ} {jA : JT} {jD : JT} {o : (RowI × Int32)} (hM : mX3_keepFilling N ke fo st = some o) (sz : Nat) : Met l yX3_keepFilling wsX3_keepFilling rmX3_keepFilling (va_Pc [.ref (a 12)] (Pre D cI cJ (xw a cI cJ ho ke hc tr fo fr st co ro cA cD su jA jD) sz)) (va_Qv (fun (_ : Unit) => True) (aft D (xw a cI cJ ho ke hc tr fo fr st co ro cA cD su jA jD) sz (fun (_ : Unit) => (xw a cI cJ ho o.1 hc tr o.2 fr st co ro cA cD su jA jD))) (va_A (xw a cI cJ ho ke hc tr fo fr st co ro cA cD su jA jD) sz)) 0 0 (va_A (xw a cI cJ ho ke hc tr fo fr st co ro cA cD su jA jD) sz) := by
  refine xofW (cc := cX3_keepFilling) (maxL := 2) (ret := none) rfl (by decide) rfl ?_
  intro p e s m args below meth c ls Q A hQ hAe hx hb hr hml hown hts hlocks hnm hN hK H locs hP hD hS hA hl
  replace hown : s.vm.findClass RX3 = some m.cls := hown
  replace hl : lv_has ls 2 [(0, .ref (a 12))] := hl
  have iX3 : ∀ w ∈ wsX30, w ∈ wsX3_keepFilling := by decide +kernel
  have f19 := hts (.fieldLink RX3 19 "CryptSums$Search" "kept" "[I") (by decide +kernel)
  have f29 := hts (.fieldLink RX3 29 "CryptSums$Search" "found" "I") (by decide +kernel)
  have f9 := hts (.fieldLink RX3 9 "CryptSums$Search" "floor" "LCryptSums$Floor;") (by decide +kernel)
  have c9 : ∀ (n : Nat), ∀ (v1 : Int32) (ke' : RowI), mX3_keepFilling_9 N fo st n v1 ke' = some o → ∀ (H : Heap) (locs : List Loc) (ls : Array Slot), va_P D vwCl (xw a cI cJ ho ke' hc tr fo fr st co ro cA cD su jA jD) H → va_D A (xw a cI cJ ho ke' hc tr fo fr st co ro cA cD su jA jD) → va_S A s.heap H locs → lv_has ls 2 [(0, .ref (a 12)), (1, .int v1)] → W p l e rmX3_keepFilling s m args below meth c H locs 0 0 Q (F0 m 9 ls []) := by
    intro n
    induction n with
    | zero =>
      intro v1 ke' hM
      rw [mX3_keepFilling_9] at hM
      cases hM
    | succ n ih =>
      intro v1 ke' hM H locs ls hP hD hS hl
      rw [mX3_keepFilling_9] at hM
      refine lv_iload_n hx hb dX3_keepFilling_9 rfl (lv_at hl 1 rfl) ?_
      refine lv_bipush (v := 36) hx hb dX3_keepFilling_10 (by decide) ?_
      refine lv_icmp_ge (tgt := 37) hx hb dX3_keepFilling_12 (by decide) (fun hc => ?_) (fun hc => ?_)
      · replace hM := it_p hc hM
        refine lv_aload_n hx hb dX3_keepFilling_37 rfl (lv_at hl 0 rfl) ?_
        refine lv_dup hx hb dX3_keepFilling_38 rfl ?_
        refine va_get (D := D) (ci := 3) (v := .int fo) (C := RX3) (T := TX3) (N := 7) hx hb hts iX3 hown hK hP 0 rfl rfl 5 (by decide) f29 (fun _ h9 => h9) rfl dX3_keepFilling_39 ?_
        refine lv_iconst (v := 1) hx hb dX3_keepFilling_42 (by decide) ?_
        refine lv_iadd hx hb dX3_keepFilling_43 ?_
        refine va_put (D := D) (ci := 3) (v := .int (fo + (1 : Int32))) (ty := .int) (C := RX3) (T := TX3) (N := 7) hx hb hts iX3 tyX3 tyX3_ok nmX3 hown hK hP hD hS 0 rfl rfl 5 (by decide) f29 (fun _ h9 => h9) rfl (by decide +kernel) rfl rfl (Nat.le_of_ble_eq_true rfl) dX3_keepFilling_44 (fun H locs hP hD hS => ?_)
        replace hP : va_P D vwCl (xw a cI cJ ho ke' hc tr (fo + (1 : Int32)) fr st co ro cA cD su jA jD) H := hP
        replace hD : va_D A (xw a cI cJ ho ke' hc tr (fo + (1 : Int32)) fr st co ro cA cD su jA jD) := hD
        obtain rfl := Option.some.inj hM
        subst hQ hAe
        exact W.vret hx hb hr (fun t ht hW => ⟨⟨(), rfl, trivial, ⟨by rw [ht]; exact hP, hD⟩⟩, hS.F ht⟩) hS.2.2 dX3_keepFilling_47
      · replace hM := it_n hc hM
        refine lv_aload_n hx hb dX3_keepFilling_15 rfl (lv_at hl 0 rfl) ?_
        refine va_get (D := D) (ci := 3) (v := .ref (a 14)) (C := RX3) (T := TX3) (N := 7) hx hb hts iX3 hown hK hP 0 rfl rfl 2 (by decide) f19 (fun _ h9 => h9) rfl dX3_keepFilling_16 ?_
        refine lv_iload_n hx hb dX3_keepFilling_19 rfl (lv_at hl 1 rfl) ?_
        refine lv_aload_n hx hb dX3_keepFilling_20 rfl (lv_at hl 0 rfl) ?_
        refine va_get (D := D) (ci := 3) (v := .ref (a 0)) (C := RX3) (T := TX3) (N := 7) hx hb hts iX3 hown hK hP 0 rfl rfl 0 (by decide) f9 (fun _ h9 => h9) rfl dX3_keepFilling_21 ?_
        refine lv_iload_n hx hb dX3_keepFilling_24 rfl (lv_at hl 1 rfl) ?_
        obtain ⟨x25, hC, hM⟩ := bd_s hM
        refine cR_i (va_runV (As := [.int v1]) (rest := [.int v1, .ref (a 14)]) ⟨hx, hb, hml, hown, hts⟩ (kX1_stoneAt (l := l) (D := D) (cI := cI) (cJ := cJ) N a (st := st) (co := co) (ro := ro) (cA := cA) (cD := cD) (su := su) (jA := jA) (jD := jD) (p1 := v1) hC H.size) (cwV 1 hts gX3_keepFilling_X1_stoneAt rfl rfl rfl (by decide +kernel) ⟨Nat.le_of_ble_eq_true rfl, Nat.le_of_ble_eq_true rfl⟩) (preV [.int v1] hN hK (hP.sub (ws' := (fw a cI cJ st co ro cA cD su jA jD)) [4, 5, 6, 7, 8, 9, 10, 11, 12, 13, 14, 15] rfl) (hD.sub (ws' := (fw a cI cJ st co ro cA cD su jA jD)) [4, 5, 6, 7, 8, 9, 10, 11, 12, 13, 14, 15] (by decide) rfl) (ci := 1) (q0 := 0) rfl rfl) rfl rfl hl.1 rfl (lv_room (Nat.le_of_ble_eq_true rfl)) dX3_keepFilling_25 ⟨Nat.le_of_ble_eq_true rfl, Nat.le_of_ble_eq_true rfl⟩) hP hS (fun r u H locs hw hP hS => ?_)
        rw [hw]
        refine cW_v [2] [0, 1, 3, 4, 5, 6, 7, 8, 9, 10, 11, 12, 13, 14, 15] (va_runSN (As := [.ref (a 14), .int v1, .int x25]) (rest := []) ⟨hx, hb, hml, hown, hts⟩ (kX4_write (D := D) (cI := cI) (cJ := cJ) (a 14) ke' v1 x25 H.size) ⟨va_cnB 3 hts gX3_keepFilling_X4_write_n64 rfl rfl rfl (hN (.methodLinkNest RX3 64 yX4_write "CryptSums") (by decide +kernel)) (hts (.initialized RX4) (by decide +kernel)) (by decide +kernel) ⟨Nat.le_of_ble_eq_true rfl, Nat.le_of_ble_eq_true rfl⟩, hts (.static yX4_write) (by decide +kernel), trivial⟩ (preS [.ref (a 14), .int v1, .int x25] hN hK (hP.sub (ws' := [((a 14), .inl (cI, 36, .inl ke'))]) [2] rfl) (hD.sub (ws' := [((a 14), .inl (cI, 36, .inl ke'))]) [2] (by decide) rfl)) rfl rfl hl.1 rfl (lv_room (Nat.le_of_ble_eq_true rfl)) dX3_keepFilling_28 ⟨Nat.le_of_ble_eq_true rfl, Nat.le_of_ble_eq_true rfl⟩) hP hD hS hA rfl (wr := (((xw a cI cJ ho ke' hc tr fo fr st co ro cA cD su jA jD)).eraseIdx 2)) rfl (by decide) (by decide) (fun u H locs hw hP hD hS => ?_)
        replace hP := hP.sub (ws' := (xw a cI cJ ho (wr ke' v1 x25) hc tr fo fr st co ro cA cD su jA jD)) [0, 1, 15, 2, 3, 4, 5, 6, 7, 8, 9, 10, 11, 12, 13, 14] rfl
        replace hD := hD.sub (ws' := (xw a cI cJ ho (wr ke' v1 x25) hc tr fo fr st co ro cA cD su jA jD)) [0, 1, 15, 2, 3, 4, 5, 6, 7, 8, 9, 10, 11, 12, 13, 14] (by decide) rfl
        refine lv_iinc (v := (v1 + 1)) (lv' := [(1, .int (v1 + 1)), (0, .ref (a 12))]) hx hb dX3_keepFilling_31 hl (k := 1) rfl (by rfl) (by decide) rfl (fun ls hl => ?_)
        refine lv_goto (tgt := 9) hx hb dX3_keepFilling_34 (by decide) ?_
        exact ih (v1 + 1) (wr ke' v1 x25) hM H locs ls hP hD hS (lv_sub hl [1, 0] rfl)
  rw [mX3_keepFilling] at hM
  refine lv_aload_n hx hb dX3_keepFilling_0 rfl (lv_at hl 0 rfl) ?_
  refine va_get (D := D) (ci := 3) (v := .int fo) (C := RX3) (T := TX3) (N := 7) hx hb hts iX3 hown hK hP 0 rfl rfl 5 (by decide) f29 (fun _ h9 => h9) rfl dX3_keepFilling_1 ?_
  refine lv_if_ne (tgt := 37) hx hb dX3_keepFilling_4 (by decide) (fun hc => ?_) (fun hc => ?_)
  · replace hM := it_n hc hM
    refine lv_aload_n hx hb dX3_keepFilling_37 rfl (lv_at hl 0 rfl) ?_
    refine lv_dup hx hb dX3_keepFilling_38 rfl ?_
    refine va_get (D := D) (ci := 3) (v := .int fo) (C := RX3) (T := TX3) (N := 7) hx hb hts iX3 hown hK hP 0 rfl rfl 5 (by decide) f29 (fun _ h9 => h9) rfl dX3_keepFilling_39 ?_
    refine lv_iconst (v := 1) hx hb dX3_keepFilling_42 (by decide) ?_
    refine lv_iadd hx hb dX3_keepFilling_43 ?_
    refine va_put (D := D) (ci := 3) (v := .int (fo + (1 : Int32))) (ty := .int) (C := RX3) (T := TX3) (N := 7) hx hb hts iX3 tyX3 tyX3_ok nmX3 hown hK hP hD hS 0 rfl rfl 5 (by decide) f29 (fun _ h9 => h9) rfl (by decide +kernel) rfl rfl (Nat.le_of_ble_eq_true rfl) dX3_keepFilling_44 (fun H locs hP hD hS => ?_)
    replace hP : va_P D vwCl (xw a cI cJ ho ke hc tr (fo + (1 : Int32)) fr st co ro cA cD su jA jD) H := hP
    replace hD : va_D A (xw a cI cJ ho ke hc tr (fo + (1 : Int32)) fr st co ro cA cD su jA jD) := hD
    obtain rfl := Option.some.inj hM
    subst hQ hAe
    exact W.vret hx hb hr (fun t ht hW => ⟨⟨(), rfl, trivial, ⟨by rw [ht]; exact hP, hD⟩⟩, hS.F ht⟩) hS.2.2 dX3_keepFilling_47
  · replace hM := it_p hc hM
    refine lv_iconst (v := 0) hx hb dX3_keepFilling_7 (by decide) ?_
    refine lv_istore_n (lv' := [(1, .int (0 : Int32)), (0, .ref (a 12))]) hx hb dX3_keepFilling_8 rfl hl (by decide) rfl (fun ls hl => ?_)
    exact c9 N (0 : Int32) ke hM H locs ls hP hD hS (lv_sub hl [1, 0] rfl)
def mX3_collectHoles_2 (N : Nat) (st : RowI) (co : Int32) (ro : Int32) : Nat → Int32 → RowI → Int32 → Option (RowI × Int32)
  | 0 => fun _ _ _ => none
  | n + 1 => fun v1 ho' hc' => ((mX1_cells N co ro).bind fun x7 =>
  (if x7 ≤ v1 then
  some (ho', hc')
  else
  ((mX1_isHole N st v1).bind fun x18 =>
  (if x18 = 0 then
  (mX3_collectHoles_2 N st co ro n (v1 + 1) ho' hc')
  else
  (mX3_collectHoles_2 N st co ro n (v1 + 1) (wr ho' hc' v1) (hc' + (1 : Int32)))))))
def mX3_collectHoles (N : Nat) (ho : RowI) (hc : Int32) (st : RowI) (co : Int32) (ro : Int32) : Option (RowI × Int32) :=
  (mX3_collectHoles_2 N st co ro N (0 : Int32) ho hc)
abbrev rmX3_collectHoles : Room := { frames := 2, cells := 0, slots := 0, locals := 42 }
set_option maxHeartbeats 4000000 in
set_option maxRecDepth 100000 in
theorem kX3_collectHoles {l : Launch} {D : va_G} {cI cJ : ClassId} (N : Nat) (a : Nat → Nat) {ho : RowI} {ke : RowI} {hc : Int32} {tr : Int32} {fo : Int32} {fr : Int32} {st : RowI} {co : Int32} {ro : Int32} {cA : CS} {cD : CS} {su : RowJ} {jA : JT} {jD : JT} {o : (RowI × Int32)} (hM : mX3_collectHoles N ho hc st co ro = some o) (sz : Nat) : Met l yX3_collectHoles wsX3_collectHoles rmX3_collectHoles (va_Pc [.ref (a 12)] (Pre D cI cJ (xw a cI cJ ho ke hc tr fo fr st co ro cA cD su jA jD) sz)) (va_Qv (fun (_ : Unit) => True) (aft D (xw a cI cJ ho ke hc tr fo fr st co ro cA cD su jA jD) sz (fun (_ : Unit) => (xw a cI cJ o.1 ke o.2 tr fo fr st co ro cA cD su jA jD))) (va_A (xw a cI cJ ho ke hc tr fo fr st co ro cA cD su jA jD) sz)) 0 0 (va_A (xw a cI cJ ho ke hc tr fo fr st co ro cA cD su jA jD) sz) := by
  refine xofW (cc := cX3_collectHoles) (maxL := 2) (ret := none) rfl (by decide) rfl ?_
  intro p e s m args below meth c ls Q A hQ hAe hx hb hr hml hown hts hlocks hnm hN hK H locs hP hD hS hA hl
  replace hown : s.vm.findClass RX3 = some m.cls := hown
  replace hl : lv_has ls 2 [(0, .ref (a 12))] := hl
  have iX3 : ∀ w ∈ wsX30, w ∈ wsX3_collectHoles := by decide +kernel
  have f15 := hts (.fieldLink RX3 15 "CryptSums$Search" "holes" "[I") (by decide +kernel)
  have f22 := hts (.fieldLink RX3 22 "CryptSums$Search" "holeCount" "I") (by decide +kernel)
  have f9 := hts (.fieldLink RX3 9 "CryptSums$Search" "floor" "LCryptSums$Floor;") (by decide +kernel)
  have c2 : ∀ (n : Nat), ∀ (v1 : Int32) (ho' : RowI) (hc' : Int32), mX3_collectHoles_2 N st co ro n v1 ho' hc' = some o → ∀ (H : Heap) (locs : List Loc) (ls : Array Slot), va_P D vwCl (xw a cI cJ ho' ke hc' tr fo fr st co ro cA cD su jA jD) H → va_D A (xw a cI cJ ho' ke hc' tr fo fr st co ro cA cD su jA jD) → va_S A s.heap H locs → lv_has ls 2 [(0, .ref (a 12)), (1, .int v1)] → W p l e rmX3_collectHoles s m args below meth c H locs 0 0 Q (F0 m 2 ls []) := by
    intro n
    induction n with
    | zero =>
      intro v1 ho' hc' hM
      rw [mX3_collectHoles_2] at hM
      cases hM
    | succ n ih =>
      intro v1 ho' hc' hM H locs ls hP hD hS hl
      rw [mX3_collectHoles_2] at hM
      refine lv_iload_n hx hb dX3_collectHoles_2 rfl (lv_at hl 1 rfl) ?_
      refine lv_aload_n hx hb dX3_collectHoles_3 rfl (lv_at hl 0 rfl) ?_
      refine va_get (D := D) (ci := 3) (v := .ref (a 0)) (C := RX3) (T := TX3) (N := 7) hx hb hts iX3 hown hK hP 0 rfl rfl 0 (by decide) f9 (fun _ h9 => h9) rfl dX3_collectHoles_4 ?_
      obtain ⟨x7, hC, hM⟩ := bd_s hM
      refine cR_i (va_runV (As := []) (rest := [.int v1]) ⟨hx, hb, hml, hown, hts⟩ (kX1_cells (l := l) (D := D) (cI := cI) (cJ := cJ) N a (st := st) (co := co) (ro := ro) (cA := cA) (cD := cD) (su := su) (jA := jA) (jD := jD) hC H.size) (cwV 0 hts gX3_collectHoles_X1_cells rfl rfl rfl (by decide +kernel) ⟨Nat.le_of_ble_eq_true rfl, Nat.le_of_ble_eq_true rfl⟩) (preV [] hN hK (hP.sub (ws' := (fw a cI cJ st co ro cA cD su jA jD)) [4, 5, 6, 7, 8, 9, 10, 11, 12, 13, 14, 15] rfl) (hD.sub (ws' := (fw a cI cJ st co ro cA cD su jA jD)) [4, 5, 6, 7, 8, 9, 10, 11, 12, 13, 14, 15] (by decide) rfl) (ci := 1) (q0 := 0) rfl rfl) rfl rfl hl.1 rfl (lv_room (Nat.le_of_ble_eq_true rfl)) dX3_collectHoles_7 ⟨Nat.le_of_ble_eq_true rfl, Nat.le_of_ble_eq_true rfl⟩) hP hS (fun r u H locs hw hP hS => ?_)
      rw [hw]
      refine lv_icmp_ge (tgt := 52) hx hb dX3_collectHoles_10 (by decide) (fun hc => ?_) (fun hc => ?_)
      · replace hM := it_p hc hM
        obtain rfl := Option.some.inj hM
        subst hQ hAe
        exact W.vret hx hb hr (fun t ht hW => ⟨⟨(), rfl, trivial, ⟨by rw [ht]; exact hP, hD⟩⟩, hS.F ht⟩) hS.2.2 dX3_collectHoles_52
      · replace hM := it_n hc hM
        refine lv_aload_n hx hb dX3_collectHoles_13 rfl (lv_at hl 0 rfl) ?_
        refine va_get (D := D) (ci := 3) (v := .ref (a 0)) (C := RX3) (T := TX3) (N := 7) hx hb hts iX3 hown hK hP 0 rfl rfl 0 (by decide) f9 (fun _ h9 => h9) rfl dX3_collectHoles_14 ?_
        refine lv_iload_n hx hb dX3_collectHoles_17 rfl (lv_at hl 1 rfl) ?_
        obtain ⟨x18, hC, hM⟩ := bd_s hM
        refine cR_i (va_runV (As := [.int v1]) (rest := []) ⟨hx, hb, hml, hown, hts⟩ (kX1_isHole (l := l) (D := D) (cI := cI) (cJ := cJ) N a (st := st) (co := co) (ro := ro) (cA := cA) (cD := cD) (su := su) (jA := jA) (jD := jD) (p1 := v1) hC H.size) (cwV 1 hts gX3_collectHoles_X1_isHole rfl rfl rfl (by decide +kernel) ⟨Nat.le_of_ble_eq_true rfl, Nat.le_of_ble_eq_true rfl⟩) (preV [.int v1] hN hK (hP.sub (ws' := (fw a cI cJ st co ro cA cD su jA jD)) [4, 5, 6, 7, 8, 9, 10, 11, 12, 13, 14, 15] rfl) (hD.sub (ws' := (fw a cI cJ st co ro cA cD su jA jD)) [4, 5, 6, 7, 8, 9, 10, 11, 12, 13, 14, 15] (by decide) rfl) (ci := 1) (q0 := 0) rfl rfl) rfl rfl hl.1 rfl (lv_room (Nat.le_of_ble_eq_true rfl)) dX3_collectHoles_18 ⟨Nat.le_of_ble_eq_true rfl, Nat.le_of_ble_eq_true rfl⟩) hP hS (fun r u H locs hw hP hS => ?_)
        obtain ⟨hw, hz18⟩ := hw
        rw [hw] at hz18
        rw [hw]
        refine lv_if_eq (tgt := 46) hx hb dX3_collectHoles_21 (by decide) (fun hc => ?_) (fun hc => ?_)
        · replace hM := it_p hc hM
          refine lv_iinc (v := (v1 + 1)) (lv' := [(1, .int (v1 + 1)), (0, .ref (a 12))]) hx hb dX3_collectHoles_46 hl (k := 1) rfl (by rfl) (by decide) rfl (fun ls hl => ?_)
          refine lv_goto (tgt := 2) hx hb dX3_collectHoles_49 (by decide) ?_
          exact ih (v1 + 1) ho' hc' hM H locs ls hP hD hS (lv_sub hl [1, 0] rfl)
        · replace hM := it_n hc hM
          refine lv_aload_n hx hb dX3_collectHoles_24 rfl (lv_at hl 0 rfl) ?_
          refine va_get (D := D) (ci := 3) (v := .ref (a 13)) (C := RX3) (T := TX3) (N := 7) hx hb hts iX3 hown hK hP 0 rfl rfl 1 (by decide) f15 (fun _ h9 => h9) rfl dX3_collectHoles_25 ?_
          refine lv_aload_n hx hb dX3_collectHoles_28 rfl (lv_at hl 0 rfl) ?_
          refine va_get (D := D) (ci := 3) (v := .int hc') (C := RX3) (T := TX3) (N := 7) hx hb hts iX3 hown hK hP 0 rfl rfl 3 (by decide) f22 (fun _ h9 => h9) rfl dX3_collectHoles_29 ?_
          refine lv_iload_n hx hb dX3_collectHoles_32 rfl (lv_at hl 1 rfl) ?_
          refine cW_v [1] [0, 2, 3, 4, 5, 6, 7, 8, 9, 10, 11, 12, 13, 14, 15] (va_runSN (As := [.ref (a 13), .int hc', .int v1]) (rest := []) ⟨hx, hb, hml, hown, hts⟩ (kX4_write (D := D) (cI := cI) (cJ := cJ) (a 13) ho' hc' v1 H.size) ⟨va_cnB 3 hts gX3_collectHoles_X4_write_n64 rfl rfl rfl (hN (.methodLinkNest RX3 64 yX4_write "CryptSums") (by decide +kernel)) (hts (.initialized RX4) (by decide +kernel)) (by decide +kernel) ⟨Nat.le_of_ble_eq_true rfl, Nat.le_of_ble_eq_true rfl⟩, hts (.static yX4_write) (by decide +kernel), trivial⟩ (preS [.ref (a 13), .int hc', .int v1] hN hK (hP.sub (ws' := [((a 13), .inl (cI, 36, .inl ho'))]) [1] rfl) (hD.sub (ws' := [((a 13), .inl (cI, 36, .inl ho'))]) [1] (by decide) rfl)) rfl rfl hl.1 rfl (lv_room (Nat.le_of_ble_eq_true rfl)) dX3_collectHoles_33 ⟨Nat.le_of_ble_eq_true rfl, Nat.le_of_ble_eq_true rfl⟩) hP hD hS hA rfl (wr := (((xw a cI cJ ho' ke hc' tr fo fr st co ro cA cD su jA jD)).eraseIdx 1)) rfl (by decide) (by decide) (fun u H locs hw hP hD hS => ?_)
          replace hP := hP.sub (ws' := (xw a cI cJ (wr ho' hc' v1) ke hc' tr fo fr st co ro cA cD su jA jD)) [0, 15, 1, 2, 3, 4, 5, 6, 7, 8, 9, 10, 11, 12, 13, 14] rfl
          replace hD := hD.sub (ws' := (xw a cI cJ (wr ho' hc' v1) ke hc' tr fo fr st co ro cA cD su jA jD)) [0, 15, 1, 2, 3, 4, 5, 6, 7, 8, 9, 10, 11, 12, 13, 14] (by decide) rfl
          refine lv_aload_n hx hb dX3_collectHoles_36 rfl (lv_at hl 0 rfl) ?_
          refine lv_dup hx hb dX3_collectHoles_37 rfl ?_
          refine va_get (D := D) (ci := 3) (v := .int hc') (C := RX3) (T := TX3) (N := 7) hx hb hts iX3 hown hK hP 0 rfl rfl 3 (by decide) f22 (fun _ h9 => h9) rfl dX3_collectHoles_38 ?_
          refine lv_iconst (v := 1) hx hb dX3_collectHoles_41 (by decide) ?_
          refine lv_iadd hx hb dX3_collectHoles_42 ?_
          refine va_put (D := D) (ci := 3) (v := .int (hc' + (1 : Int32))) (ty := .int) (C := RX3) (T := TX3) (N := 7) hx hb hts iX3 tyX3 tyX3_ok nmX3 hown hK hP hD hS 0 rfl rfl 3 (by decide) f22 (fun _ h9 => h9) rfl (by decide +kernel) rfl rfl (Nat.le_of_ble_eq_true rfl) dX3_collectHoles_43 (fun H locs hP hD hS => ?_)
          replace hP : va_P D vwCl (xw a cI cJ (wr ho' hc' v1) ke (hc' + (1 : Int32)) tr fo fr st co ro cA cD su jA jD) H := hP
          replace hD : va_D A (xw a cI cJ (wr ho' hc' v1) ke (hc' + (1 : Int32)) tr fo fr st co ro cA cD su jA jD) := hD
          refine lv_iinc (v := (v1 + 1)) (lv' := [(1, .int (v1 + 1)), (0, .ref (a 12))]) hx hb dX3_collectHoles_46 hl (k := 1) rfl (by rfl) (by decide) rfl (fun ls hl => ?_)
          refine lv_goto (tgt := 2) hx hb dX3_collectHoles_49 (by decide) ?_
          exact ih (v1 + 1) (wr ho' hc' v1) (hc' + (1 : Int32)) hM H locs ls hP hD hS (lv_sub hl [1, 0] rfl)
  rw [mX3_collectHoles] at hM
  refine lv_iconst (v := 0) hx hb dX3_collectHoles_0 (by decide) ?_
  refine lv_istore_n (lv' := [(1, .int (0 : Int32)), (0, .ref (a 12))]) hx hb dX3_collectHoles_1 rfl hl (by decide) rfl (fun ls hl => ?_)
  exact c2 N (0 : Int32) ho hc hM H locs ls hP hD hS (lv_sub hl [1, 0] rfl)
