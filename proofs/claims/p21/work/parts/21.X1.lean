def mX1_cells (N : Nat) (co : Int32) (ro : Int32) : Option Int32 :=
  some (co * ro)
abbrev rmX1_cells : Room := { frames := 0, cells := 0, slots := 0, locals := 0 }
set_option maxHeartbeats 4000000 in
set_option maxRecDepth 100000 in
theorem kX1_cells {l : Launch} {D : va_G} {cI cJ : ClassId} (N : Nat) (a : Nat → Nat) {st : RowI} {co : Int32} {ro : Int32} {cA : CS} {cD : CS} {su : RowJ} {jA : JT} {jD : JT} {o : Int32} (hM : mX1_cells N co ro = some o) (sz : Nat) : Met l yX1_cells wsX1_cells rmX1_cells (va_Pc [.ref (a 0)] (Pre D cI cJ (fw a cI cJ st co ro cA cD su jA jD) sz)) (va_Qi (fun (r : Int32) (_ : Unit) => r = o) (fun _ _ => True) (fun _ => False)) 0 0 (fun _ => False) := by
  refine xofR (cc := cX1_cells) (maxL := 1) (ret := (some .int)) rfl (by decide) rfl ?_
  intro p e s m args below meth c ls Q A hQ hAe hx hb hr hml hown hts hlocks hN hK H locs hP hD hS hl
  replace hown : s.vm.findClass RX1 = some m.cls := hown
  replace hl : lv_has ls 1 [(0, .ref (a 0))] := hl
  have iX1 : ∀ w ∈ wsX10, w ∈ wsX1_cells := by decide +kernel
  have f34 := hts (.fieldLink RX1 34 "CryptSums$Floor" "columns" "I") (by decide +kernel)
  have f38 := hts (.fieldLink RX1 38 "CryptSums$Floor" "rows" "I") (by decide +kernel)
  rw [mX1_cells] at hM
  refine lv_aload_n hx hb dX1_cells_0 rfl (lv_at hl 0 rfl) ?_
  refine va_get (D := D) (ci := 1) (v := .int co) (C := RX1) (T := TX1) (N := 5) hx hb hts iX1 hown hK hP 0 rfl rfl 3 (by decide) f34 (fun _ h9 => h9) rfl dX1_cells_1 ?_
  refine lv_aload_n hx hb dX1_cells_4 rfl (lv_at hl 0 rfl) ?_
  refine va_get (D := D) (ci := 1) (v := .int ro) (C := RX1) (T := TX1) (N := 5) hx hb hts iX1 hown hK hP 0 rfl rfl 4 (by decide) f38 (fun _ h9 => h9) rfl dX1_cells_5 ?_
  refine lv_imul hx hb dX1_cells_8 ?_
  obtain rfl := Option.some.inj hM
  subst hQ hAe
  exact W.iret (v := (co * ro)) hx hb hr (fun t ht hW => ⟨⟨(co * ro), (), rfl, rfl, trivial⟩, hS.F ht⟩) hS.2.2 dX1_cells_9
def mX1_has (N : Nat) (co : Int32) (ro : Int32) (p1 : Int32) : Option Int32 :=
  (if p1 < 0 then
  some (0 : Int32)
  else
  ((mX1_cells N co ro).bind fun x6 =>
  (if x6 ≤ p1 then
  some (0 : Int32)
  else
  some (1 : Int32))))
abbrev rmX1_has : Room := { frames := 1, cells := 0, slots := 0, locals := 20 }
set_option maxHeartbeats 4000000 in
set_option maxRecDepth 100000 in
theorem kX1_has {l : Launch} {D : va_G} {cI cJ : ClassId} (N : Nat) (a : Nat → Nat) {st : RowI} {co : Int32} {ro : Int32} {cA : CS} {cD : CS} {su : RowJ} {jA : JT} {jD : JT} {p1 : Int32} {o : Int32} (hM : mX1_has N co ro p1 = some o) (sz : Nat) : Met l yX1_has wsX1_has rmX1_has (va_Pc [.ref (a 0), .int p1] (Pre D cI cJ (fw a cI cJ st co ro cA cD su jA jD) sz)) (va_Qi (fun (r : Int32) (_ : Unit) => r = o ∧ bz r) (fun _ _ => True) (fun _ => False)) 0 0 (fun _ => False) := by
  refine xofR (cc := cX1_has) (maxL := 2) (ret := (some .boolean)) rfl (by decide) rfl ?_
  intro p e s m args below meth c ls Q A hQ hAe hx hb hr hml hown hts hlocks hN hK H locs hP hD hS hl
  replace hown : s.vm.findClass RX1 = some m.cls := hown
  replace hl : lv_has ls 2 [(0, .ref (a 0)), (1, .int p1)] := hl
  rw [mX1_has] at hM
  refine lv_iload_n hx hb dX1_has_0 rfl (lv_at hl 1 rfl) ?_
  refine lv_if_lt (tgt := 16) hx hb dX1_has_1 (by decide) (fun hcc => ?_) (fun hcc => ?_)
  · replace hM := it_p hcc hM
    refine lv_iconst (v := 0) hx hb dX1_has_16 (by decide) ?_
    obtain rfl := Option.some.inj hM
    subst hQ hAe
    exact W.zret (ty := .boolean) (v := (0 : Int32)) hx hb hr (nb_z (Or.inl rfl)) (fun t ht hW => ⟨⟨(0 : Int32), (), rfl, ⟨rfl, Or.inl rfl⟩, trivial⟩, hS.F ht⟩) hS.2.2 dX1_has_17
  · replace hM := it_n hcc hM
    refine lv_iload_n hx hb dX1_has_4 rfl (lv_at hl 1 rfl) ?_
    refine lv_aload_n hx hb dX1_has_5 rfl (lv_at hl 0 rfl) ?_
    obtain ⟨x6, hC, hM⟩ := bd_s hM
    refine cR_i (va_runV (As := []) (rest := [.int p1]) ⟨hx, hb, hml, hown, hts⟩ (kX1_cells (l := l) (D := D) (cI := cI) (cJ := cJ) N a (st := st) (co := co) (ro := ro) (cA := cA) (cD := cD) (su := su) (jA := jA) (jD := jD) hC H.size) (cwV 0 hts gX1_has_X1_cells rfl rfl rfl (by decide +kernel) ⟨Nat.le_of_ble_eq_true rfl, Nat.le_of_ble_eq_true rfl⟩) (preV [] hN hK hP hD (ci := 1) (q0 := 0) rfl rfl) rfl rfl hl.1 rfl (lv_room (Nat.le_of_ble_eq_true rfl)) dX1_has_6 ⟨Nat.le_of_ble_eq_true rfl, Nat.le_of_ble_eq_true rfl⟩) hP hS (fun r u H locs hw hP hS => ?_)
    rw [hw]
    refine lv_icmp_ge (tgt := 16) hx hb dX1_has_9 (by decide) (fun hcc => ?_) (fun hcc => ?_)
    · replace hM := it_p hcc hM
      refine lv_iconst (v := 0) hx hb dX1_has_16 (by decide) ?_
      obtain rfl := Option.some.inj hM
      subst hQ hAe
      exact W.zret (ty := .boolean) (v := (0 : Int32)) hx hb hr (nb_z (Or.inl rfl)) (fun t ht hW => ⟨⟨(0 : Int32), (), rfl, ⟨rfl, Or.inl rfl⟩, trivial⟩, hS.F ht⟩) hS.2.2 dX1_has_17
    · replace hM := it_n hcc hM
      refine lv_iconst (v := 1) hx hb dX1_has_12 (by decide) ?_
      refine lv_goto (tgt := 17) hx hb dX1_has_13 (by decide) ?_
      obtain rfl := Option.some.inj hM
      subst hQ hAe
      exact W.zret (ty := .boolean) (v := (1 : Int32)) hx hb hr (nb_z (Or.inr rfl)) (fun t ht hW => ⟨⟨(1 : Int32), (), rfl, ⟨rfl, Or.inr rfl⟩, trivial⟩, hS.F ht⟩) hS.2.2 dX1_has_17
def mX1_stoneAt (N : Nat) (st : RowI) (p1 : Int32) : Option Int32 :=
  some (rd st p1)
abbrev rmX1_stoneAt : Room := { frames := 1, cells := 0, slots := 0, locals := 21 }
set_option maxHeartbeats 4000000 in
set_option maxRecDepth 100000 in
theorem kX1_stoneAt {l : Launch} {D : va_G} {cI cJ : ClassId} (N : Nat) (a : Nat → Nat) {st : RowI} {co : Int32} {ro : Int32} {cA : CS} {cD : CS} {su : RowJ} {jA : JT} {jD : JT} {p1 : Int32} {o : Int32} (hM : mX1_stoneAt N st p1 = some o) (sz : Nat) : Met l yX1_stoneAt wsX1_stoneAt rmX1_stoneAt (va_Pc [.ref (a 0), .int p1] (Pre D cI cJ (fw a cI cJ st co ro cA cD su jA jD) sz)) (va_Qi (fun (r : Int32) (_ : Unit) => r = o) (fun _ _ => True) (fun _ => False)) 0 0 (fun _ => False) := by
  refine xofR (cc := cX1_stoneAt) (maxL := 2) (ret := (some .int)) rfl (by decide) rfl ?_
  intro p e s m args below meth c ls Q A hQ hAe hx hb hr hml hown hts hlocks hN hK H locs hP hD hS hl
  replace hown : s.vm.findClass RX1 = some m.cls := hown
  replace hl : lv_has ls 2 [(0, .ref (a 0)), (1, .int p1)] := hl
  have iX1 : ∀ w ∈ wsX10, w ∈ wsX1_stoneAt := by decide +kernel
  have f12 := hts (.fieldLink RX1 12 "CryptSums$Floor" "stones" "[I") (by decide +kernel)
  rw [mX1_stoneAt] at hM
  refine lv_aload_n hx hb dX1_stoneAt_0 rfl (lv_at hl 0 rfl) ?_
  refine va_get (D := D) (ci := 1) (v := .ref (a 1)) (C := RX1) (T := TX1) (N := 5) hx hb hts iX1 hown hK hP 0 rfl rfl 0 (by decide) f12 (fun _ h9 => h9) rfl dX1_stoneAt_1 ?_
  refine lv_iload_n hx hb dX1_stoneAt_4 rfl (lv_at hl 1 rfl) ?_
  refine cR_i (va_runSN (As := [.ref (a 1), .int p1]) (rest := []) ⟨hx, hb, hml, hown, hts⟩ (kX4_read (D := D) (cI := cI) (cJ := cJ) (a 1) st p1 H.size) ⟨va_cnB 2 hts gX1_stoneAt_X4_read_n58 rfl rfl rfl (hN (.methodLinkNest RX1 58 yX4_read "CryptSums") (by decide +kernel)) (hts (.initialized RX4) (by decide +kernel)) (by decide +kernel) ⟨Nat.le_of_ble_eq_true rfl, Nat.le_of_ble_eq_true rfl⟩, hts (.static yX4_read) (by decide +kernel), trivial⟩ (preS [.ref (a 1), .int p1] hN hK (hP.sub (ws' := [((a 1), .inl (cI, 36, .inl st))]) [1] rfl) (hD.sub (ws' := [((a 1), .inl (cI, 36, .inl st))]) [1] (by decide) rfl)) rfl rfl hl.1 rfl (lv_room (Nat.le_of_ble_eq_true rfl)) dX1_stoneAt_5 ⟨Nat.le_of_ble_eq_true rfl, Nat.le_of_ble_eq_true rfl⟩) hP hS (fun r u H locs hw hP hS => ?_)
  rw [hw]
  obtain rfl := Option.some.inj hM
  subst hQ hAe
  exact W.iret (v := (rd st p1)) hx hb hr (fun t ht hW => ⟨⟨(rd st p1), (), rfl, rfl, trivial⟩, hS.F ht⟩) hS.2.2 dX1_stoneAt_8
def mX1_isPillar (N : Nat) (st : RowI) (p1 : Int32) : Option Int32 :=
  (if (rd st p1) = (-1 : Int32) then
  some (1 : Int32)
  else
  some (0 : Int32))
abbrev rmX1_isPillar : Room := { frames := 1, cells := 0, slots := 0, locals := 21 }
set_option maxHeartbeats 4000000 in
set_option maxRecDepth 100000 in
theorem kX1_isPillar {l : Launch} {D : va_G} {cI cJ : ClassId} (N : Nat) (a : Nat → Nat) {st : RowI} {co : Int32} {ro : Int32} {cA : CS} {cD : CS} {su : RowJ} {jA : JT} {jD : JT} {p1 : Int32} {o : Int32} (hM : mX1_isPillar N st p1 = some o) (sz : Nat) : Met l yX1_isPillar wsX1_isPillar rmX1_isPillar (va_Pc [.ref (a 0), .int p1] (Pre D cI cJ (fw a cI cJ st co ro cA cD su jA jD) sz)) (va_Qi (fun (r : Int32) (_ : Unit) => r = o ∧ bz r) (fun _ _ => True) (fun _ => False)) 0 0 (fun _ => False) := by
  refine xofR (cc := cX1_isPillar) (maxL := 2) (ret := (some .boolean)) rfl (by decide) rfl ?_
  intro p e s m args below meth c ls Q A hQ hAe hx hb hr hml hown hts hlocks hN hK H locs hP hD hS hl
  replace hown : s.vm.findClass RX1 = some m.cls := hown
  replace hl : lv_has ls 2 [(0, .ref (a 0)), (1, .int p1)] := hl
  have iX1 : ∀ w ∈ wsX10, w ∈ wsX1_isPillar := by decide +kernel
  have f12 := hts (.fieldLink RX1 12 "CryptSums$Floor" "stones" "[I") (by decide +kernel)
  rw [mX1_isPillar] at hM
  refine lv_aload_n hx hb dX1_isPillar_0 rfl (lv_at hl 0 rfl) ?_
  refine va_get (D := D) (ci := 1) (v := .ref (a 1)) (C := RX1) (T := TX1) (N := 5) hx hb hts iX1 hown hK hP 0 rfl rfl 0 (by decide) f12 (fun _ h9 => h9) rfl dX1_isPillar_1 ?_
  refine lv_iload_n hx hb dX1_isPillar_4 rfl (lv_at hl 1 rfl) ?_
  refine cR_i (va_runSN (As := [.ref (a 1), .int p1]) (rest := []) ⟨hx, hb, hml, hown, hts⟩ (kX4_read (D := D) (cI := cI) (cJ := cJ) (a 1) st p1 H.size) ⟨va_cnB 2 hts gX1_isPillar_X4_read_n58 rfl rfl rfl (hN (.methodLinkNest RX1 58 yX4_read "CryptSums") (by decide +kernel)) (hts (.initialized RX4) (by decide +kernel)) (by decide +kernel) ⟨Nat.le_of_ble_eq_true rfl, Nat.le_of_ble_eq_true rfl⟩, hts (.static yX4_read) (by decide +kernel), trivial⟩ (preS [.ref (a 1), .int p1] hN hK (hP.sub (ws' := [((a 1), .inl (cI, 36, .inl st))]) [1] rfl) (hD.sub (ws' := [((a 1), .inl (cI, 36, .inl st))]) [1] (by decide) rfl)) rfl rfl hl.1 rfl (lv_room (Nat.le_of_ble_eq_true rfl)) dX1_isPillar_5 ⟨Nat.le_of_ble_eq_true rfl, Nat.le_of_ble_eq_true rfl⟩) hP hS (fun r u H locs hw hP hS => ?_)
  rw [hw]
  refine lv_iconst (v := -1) hx hb dX1_isPillar_8 (by decide) ?_
  refine lv_icmp_ne (tgt := 16) hx hb dX1_isPillar_9 (by decide) (fun hcc => ?_) (fun hcc => ?_)
  · replace hM := it_n hcc hM
    refine lv_iconst (v := 0) hx hb dX1_isPillar_16 (by decide) ?_
    obtain rfl := Option.some.inj hM
    subst hQ hAe
    exact W.zret (ty := .boolean) (v := (0 : Int32)) hx hb hr (nb_z (Or.inl rfl)) (fun t ht hW => ⟨⟨(0 : Int32), (), rfl, ⟨rfl, Or.inl rfl⟩, trivial⟩, hS.F ht⟩) hS.2.2 dX1_isPillar_17
  · replace hM := it_p hcc hM
    refine lv_iconst (v := 1) hx hb dX1_isPillar_12 (by decide) ?_
    refine lv_goto (tgt := 17) hx hb dX1_isPillar_13 (by decide) ?_
    obtain rfl := Option.some.inj hM
    subst hQ hAe
    exact W.zret (ty := .boolean) (v := (1 : Int32)) hx hb hr (nb_z (Or.inr rfl)) (fun t ht hW => ⟨⟨(1 : Int32), (), rfl, ⟨rfl, Or.inr rfl⟩, trivial⟩, hS.F ht⟩) hS.2.2 dX1_isPillar_17
def mX1_isHole (N : Nat) (st : RowI) (p1 : Int32) : Option Int32 :=
  (if (rd st p1) = 0 then
  some (1 : Int32)
  else
  some (0 : Int32))
abbrev rmX1_isHole : Room := { frames := 1, cells := 0, slots := 0, locals := 21 }
set_option maxHeartbeats 4000000 in
set_option maxRecDepth 100000 in
theorem kX1_isHole {l : Launch} {D : va_G} {cI cJ : ClassId} (N : Nat) (a : Nat → Nat) {st : RowI} {co : Int32} {ro : Int32} {cA : CS} {cD : CS} {su : RowJ} {jA : JT} {jD : JT} {p1 : Int32} {o : Int32} (hM : mX1_isHole N st p1 = some o) (sz : Nat) : Met l yX1_isHole wsX1_isHole rmX1_isHole (va_Pc [.ref (a 0), .int p1] (Pre D cI cJ (fw a cI cJ st co ro cA cD su jA jD) sz)) (va_Qi (fun (r : Int32) (_ : Unit) => r = o ∧ bz r) (fun _ _ => True) (fun _ => False)) 0 0 (fun _ => False) := by
  refine xofR (cc := cX1_isHole) (maxL := 2) (ret := (some .boolean)) rfl (by decide) rfl ?_
  intro p e s m args below meth c ls Q A hQ hAe hx hb hr hml hown hts hlocks hN hK H locs hP hD hS hl
  replace hown : s.vm.findClass RX1 = some m.cls := hown
  replace hl : lv_has ls 2 [(0, .ref (a 0)), (1, .int p1)] := hl
  have iX1 : ∀ w ∈ wsX10, w ∈ wsX1_isHole := by decide +kernel
  have f12 := hts (.fieldLink RX1 12 "CryptSums$Floor" "stones" "[I") (by decide +kernel)
  rw [mX1_isHole] at hM
  refine lv_aload_n hx hb dX1_isHole_0 rfl (lv_at hl 0 rfl) ?_
  refine va_get (D := D) (ci := 1) (v := .ref (a 1)) (C := RX1) (T := TX1) (N := 5) hx hb hts iX1 hown hK hP 0 rfl rfl 0 (by decide) f12 (fun _ h9 => h9) rfl dX1_isHole_1 ?_
  refine lv_iload_n hx hb dX1_isHole_4 rfl (lv_at hl 1 rfl) ?_
  refine cR_i (va_runSN (As := [.ref (a 1), .int p1]) (rest := []) ⟨hx, hb, hml, hown, hts⟩ (kX4_read (D := D) (cI := cI) (cJ := cJ) (a 1) st p1 H.size) ⟨va_cnB 2 hts gX1_isHole_X4_read_n58 rfl rfl rfl (hN (.methodLinkNest RX1 58 yX4_read "CryptSums") (by decide +kernel)) (hts (.initialized RX4) (by decide +kernel)) (by decide +kernel) ⟨Nat.le_of_ble_eq_true rfl, Nat.le_of_ble_eq_true rfl⟩, hts (.static yX4_read) (by decide +kernel), trivial⟩ (preS [.ref (a 1), .int p1] hN hK (hP.sub (ws' := [((a 1), .inl (cI, 36, .inl st))]) [1] rfl) (hD.sub (ws' := [((a 1), .inl (cI, 36, .inl st))]) [1] (by decide) rfl)) rfl rfl hl.1 rfl (lv_room (Nat.le_of_ble_eq_true rfl)) dX1_isHole_5 ⟨Nat.le_of_ble_eq_true rfl, Nat.le_of_ble_eq_true rfl⟩) hP hS (fun r u H locs hw hP hS => ?_)
  rw [hw]
  refine lv_if_ne (tgt := 15) hx hb dX1_isHole_8 (by decide) (fun hcc => ?_) (fun hcc => ?_)
  · replace hM := it_n hcc hM
    refine lv_iconst (v := 0) hx hb dX1_isHole_15 (by decide) ?_
    obtain rfl := Option.some.inj hM
    subst hQ hAe
    exact W.zret (ty := .boolean) (v := (0 : Int32)) hx hb hr (nb_z (Or.inl rfl)) (fun t ht hW => ⟨⟨(0 : Int32), (), rfl, ⟨rfl, Or.inl rfl⟩, trivial⟩, hS.F ht⟩) hS.2.2 dX1_isHole_16
  · replace hM := it_p hcc hM
    refine lv_iconst (v := 1) hx hb dX1_isHole_11 (by decide) ?_
    refine lv_goto (tgt := 16) hx hb dX1_isHole_12 (by decide) ?_
    obtain rfl := Option.some.inj hM
    subst hQ hAe
    exact W.zret (ty := .boolean) (v := (1 : Int32)) hx hb hr (nb_z (Or.inr rfl)) (fun t ht hW => ⟨⟨(1 : Int32), (), rfl, ⟨rfl, Or.inr rfl⟩, trivial⟩, hS.F ht⟩) hS.2.2 dX1_isHole_16
def mX1_lay (N : Nat) (st : RowI) (p1 : Int32) (p2 : Int32) : Option RowI :=
  some (wr st p1 p2)
abbrev rmX1_lay : Room := { frames := 1, cells := 0, slots := 0, locals := 22 }
set_option maxHeartbeats 4000000 in
set_option maxRecDepth 100000 in
theorem kX1_lay {l : Launch} {D : va_G} {cI cJ : ClassId} (N : Nat) (a : Nat → Nat) {st : RowI} {co : Int32} {ro : Int32} {cA : CS} {cD : CS} {su : RowJ} {jA : JT} {jD : JT} {p1 : Int32} {p2 : Int32} {o : RowI} (hM : mX1_lay N st p1 p2 = some o) (sz : Nat) : Met l yX1_lay wsX1_lay rmX1_lay (va_Pc [.ref (a 0), .int p1, .int p2] (Pre D cI cJ (fw a cI cJ st co ro cA cD su jA jD) sz)) (va_Qv (fun (_ : Unit) => True) (aft D (fw a cI cJ st co ro cA cD su jA jD) sz (fun (_ : Unit) => (fw a cI cJ o co ro cA cD su jA jD))) (va_A (fw a cI cJ st co ro cA cD su jA jD) sz)) 0 0 (va_A (fw a cI cJ st co ro cA cD su jA jD) sz) := by
  refine xofW (cc := cX1_lay) (maxL := 3) (ret := none) rfl (by decide) rfl ?_
  intro p e s m args below meth c ls Q A hQ hAe hx hb hr hml hown hts hlocks hnm hN hK H locs hP hD hS hA hl
  replace hown : s.vm.findClass RX1 = some m.cls := hown
  replace hl : lv_has ls 3 [(0, .ref (a 0)), (1, .int p1), (2, .int p2)] := hl
  have iX1 : ∀ w ∈ wsX10, w ∈ wsX1_lay := by decide +kernel
  have f12 := hts (.fieldLink RX1 12 "CryptSums$Floor" "stones" "[I") (by decide +kernel)
  rw [mX1_lay] at hM
  refine lv_aload_n hx hb dX1_lay_0 rfl (lv_at hl 0 rfl) ?_
  refine va_get (D := D) (ci := 1) (v := .ref (a 1)) (C := RX1) (T := TX1) (N := 5) hx hb hts iX1 hown hK hP 0 rfl rfl 0 (by decide) f12 (fun _ h9 => h9) rfl dX1_lay_1 ?_
  refine lv_iload_n hx hb dX1_lay_4 rfl (lv_at hl 1 rfl) ?_
  refine lv_iload_n hx hb dX1_lay_5 rfl (lv_at hl 2 rfl) ?_
  refine cW_v [1] [0, 2, 3, 4, 5, 6, 7, 8, 9, 10, 11] (va_runSN (As := [.ref (a 1), .int p1, .int p2]) (rest := []) ⟨hx, hb, hml, hown, hts⟩ (kX4_write (D := D) (cI := cI) (cJ := cJ) (a 1) st p1 p2 H.size) ⟨va_cnB 3 hts gX1_lay_X4_write_n41 rfl rfl rfl (hN (.methodLinkNest RX1 41 yX4_write "CryptSums") (by decide +kernel)) (hts (.initialized RX4) (by decide +kernel)) (by decide +kernel) ⟨Nat.le_of_ble_eq_true rfl, Nat.le_of_ble_eq_true rfl⟩, hts (.static yX4_write) (by decide +kernel), trivial⟩ (preS [.ref (a 1), .int p1, .int p2] hN hK (hP.sub (ws' := [((a 1), .inl (cI, 36, .inl st))]) [1] rfl) (hD.sub (ws' := [((a 1), .inl (cI, 36, .inl st))]) [1] (by decide) rfl)) rfl rfl hl.1 rfl (lv_room (Nat.le_of_ble_eq_true rfl)) dX1_lay_6 ⟨Nat.le_of_ble_eq_true rfl, Nat.le_of_ble_eq_true rfl⟩) hP hD hS hA rfl (wr := (((fw a cI cJ st co ro cA cD su jA jD)).eraseIdx 1)) rfl (by decide) (by decide) (fun u H locs hw hP hD hS => ?_)
  replace hP := hP.sub (ws' := (fw a cI cJ (wr st p1 p2) co ro cA cD su jA jD)) [0, 11, 1, 2, 3, 4, 5, 6, 7, 8, 9, 10] rfl
  replace hD := hD.sub (ws' := (fw a cI cJ (wr st p1 p2) co ro cA cD su jA jD)) [0, 11, 1, 2, 3, 4, 5, 6, 7, 8, 9, 10] (by decide) rfl
  obtain rfl := Option.some.inj hM
  subst hQ hAe
  exact W.vret hx hb hr (fun t ht hW => ⟨⟨(), rfl, trivial, ⟨by rw [ht]; exact hP, hD⟩⟩, hS.F ht⟩) hS.2.2 dX1_lay_9
def mX1_joinCells_67 (N : Nat) (st : RowI) (co : Int32) (ro : Int32) (K2 : Int32 → CS → CS → Option (CS × CS)) (K12 : Int32 → Int32 → CS → CS → Option (CS × CS)) (v1 : Int32) (v2 : Int32) (s0 : Int32) (s1 : Int32) (cA' : CS) (cD' : CS) : Option (CS × CS) :=
  ((mX0_join N st cD' s1 s0).bind fun x67 =>
  (K12 v1 (v2 + 1) cA' x67))
def mX1_joinCells_45 (N : Nat) (st : RowI) (co : Int32) (ro : Int32) (K2 : Int32 → CS → CS → Option (CS × CS)) (K12 : Int32 → Int32 → CS → CS → Option (CS × CS)) (v1 : Int32) (v2 : Int32) (v3 : Int32) (s0 : Int32) (s1 : Int32) (cA' : CS) (cD' : CS) : Option (CS × CS) :=
  ((mX0_join N st cA' s1 s0).bind fun x45 =>
  (if v1 = 0 then
  (mX1_joinCells_67 N st co ro K2 K12 v1 v2 (-1 : Int32) v3 x45 cD')
  else
  (mX1_joinCells_67 N st co ro K2 K12 v1 v2 (v3 - co) v3 x45 cD')))
def mX1_joinCells_12 (N : Nat) (st : RowI) (co : Int32) (ro : Int32) (K2 : Int32 → CS → CS → Option (CS × CS)) : Nat → Int32 → Int32 → CS → CS → Option (CS × CS)
  | 0 => fun _ _ _ _ => none
  | n + 1 => fun v1 v2 cA' cD' => (if co ≤ v2 then
  (K2 (v1 + 1) cA' cD')
  else
  (if v2 = 0 then
  (mX1_joinCells_45 N st co ro K2 (mX1_joinCells_12 N st co ro K2 n) v1 v2 ((v1 * co) + v2) (-1 : Int32) ((v1 * co) + v2) cA' cD')
  else
  (mX1_joinCells_45 N st co ro K2 (mX1_joinCells_12 N st co ro K2 n) v1 v2 ((v1 * co) + v2) (((v1 * co) + v2) - (1 : Int32)) ((v1 * co) + v2) cA' cD')))
def mX1_joinCells_2 (N : Nat) (st : RowI) (co : Int32) (ro : Int32) : Nat → Int32 → CS → CS → Option (CS × CS)
  | 0 => fun _ _ _ => none
  | n + 1 => fun v1 cA' cD' => (if ro ≤ v1 then
  some (cA', cD')
  else
  (mX1_joinCells_12 N st co ro (mX1_joinCells_2 N st co ro n) N v1 (0 : Int32) cA' cD'))
def mX1_joinCells (N : Nat) (st : RowI) (co : Int32) (ro : Int32) (cA : CS) (cD : CS) : Option (CS × CS) :=
  (mX1_joinCells_2 N st co ro N (0 : Int32) cA cD)
abbrev rmX1_joinCells : Room := { frames := 2, cells := 0, slots := 0, locals := 45 }
set_option maxHeartbeats 4000000 in
set_option maxRecDepth 100000 in
theorem kX1_joinCells {l : Launch} {D : va_G} {cI cJ : ClassId} (N : Nat) (a : Nat → Nat) {st : RowI} {co : Int32} {ro : Int32} {cA : CS} {cD : CS} {su : RowJ} {jA : JT} {jD : JT} {o : (CS × CS)} (hM : mX1_joinCells N st co ro cA cD = some o) (sz : Nat) : Met l yX1_joinCells wsX1_joinCells rmX1_joinCells (va_Pc [.ref (a 0)] (Pre D cI cJ (fw a cI cJ st co ro cA cD su jA jD) sz)) (va_Qv (fun (_ : Unit) => True) (aft D (fw a cI cJ st co ro cA cD su jA jD) sz (fun (_ : Unit) => (fw a cI cJ st co ro o.1 o.2 su jA jD))) (va_A (fw a cI cJ st co ro cA cD su jA jD) sz)) 0 0 (va_A (fw a cI cJ st co ro cA cD su jA jD) sz) := by
  refine xofW (cc := cX1_joinCells) (maxL := 4) (ret := none) rfl (by decide) rfl ?_
  intro p e s m args below meth c ls Q A hQ hAe hx hb hr hml hown hts hlocks hnm hN hK H locs hP hD hS hA hl
  replace hown : s.vm.findClass RX1 = some m.cls := hown
  replace hl : lv_has ls 4 [(0, .ref (a 0))] := hl
  have iX1 : ∀ w ∈ wsX10, w ∈ wsX1_joinCells := by decide +kernel
  have f23 := hts (.fieldLink RX1 23 "CryptSums$Floor" "across" "LCryptSums$Corridors;") (by decide +kernel)
  have f27 := hts (.fieldLink RX1 27 "CryptSums$Floor" "down" "LCryptSums$Corridors;") (by decide +kernel)
  have f34 := hts (.fieldLink RX1 34 "CryptSums$Floor" "columns" "I") (by decide +kernel)
  have f38 := hts (.fieldLink RX1 38 "CryptSums$Floor" "rows" "I") (by decide +kernel)
  have c67 : ∀ (K2 : Int32 → CS → CS → Option (CS × CS)) (hK2 : ∀ (v1 : Int32) (cA' : CS) (cD' : CS), K2 v1 cA' cD' = some o → ∀ (H : Heap) (locs : List Loc) (ls : Array Slot), va_P D vwCl (fw a cI cJ st co ro cA' cD' su jA jD) H → va_D A (fw a cI cJ st co ro cA' cD' su jA jD) → va_S A s.heap H locs → lv_has ls 4 [(0, .ref (a 0)), (1, .int v1)] → W p l e rmX1_joinCells s m args below meth c H locs 0 0 Q (F0 m 2 ls [])) (K12 : Int32 → Int32 → CS → CS → Option (CS × CS)) (hK12 : ∀ (v1 : Int32) (v2 : Int32) (cA' : CS) (cD' : CS), K12 v1 v2 cA' cD' = some o → ∀ (H : Heap) (locs : List Loc) (ls : Array Slot), va_P D vwCl (fw a cI cJ st co ro cA' cD' su jA jD) H → va_D A (fw a cI cJ st co ro cA' cD' su jA jD) → va_S A s.heap H locs → lv_has ls 4 [(0, .ref (a 0)), (1, .int v1), (2, .int v2)] → W p l e rmX1_joinCells s m args below meth c H locs 0 0 Q (F0 m 12 ls [])) , ∀ (v1 : Int32) (v2 : Int32) (s0 : Int32) (s1 : Int32) (cA' : CS) (cD' : CS), mX1_joinCells_67 N st co ro K2 K12 v1 v2 s0 s1 cA' cD' = some o → ∀ (H : Heap) (locs : List Loc) (ls : Array Slot), va_P D vwCl (fw a cI cJ st co ro cA' cD' su jA jD) H → va_D A (fw a cI cJ st co ro cA' cD' su jA jD) → va_S A s.heap H locs → lv_has ls 4 [(0, .ref (a 0)), (1, .int v1), (2, .int v2)] → W p l e rmX1_joinCells s m args below meth c H locs 0 0 Q (F0 m 67 ls [.int s0, .int s1, .ref (a 3)]) := by
      intro K2 hK2 K12 hK12 v1 v2 s0 s1 cA' cD' hM H locs ls hP hD hS hl
      rw [mX1_joinCells_67] at hM
      obtain ⟨x67, hC, hM⟩ := bd_s hM
      refine cW_v [0, 1, 2, 3, 4, 5, 6, 7, 8, 9, 10, 11] [] (va_runV (As := [.int s1, .int s0]) (rest := []) ⟨hx, hb, hml, hown, hts⟩ (kX0_join_D (l := l) (D := D) (cI := cI) (cJ := cJ) N a (st := st) (co := co) (ro := ro) (cA := cA') (cD := cD') (su := su) (jA := jA) (jD := jD) (p1 := s1) (p2 := s0) hC H.size) (cwV 2 hts gX1_joinCells_X0_join rfl rfl rfl (by decide +kernel) ⟨Nat.le_of_ble_eq_true rfl, Nat.le_of_ble_eq_true rfl⟩) (preV [.int s1, .int s0] hN hK hP hD (ci := 0) (q0 := 3) rfl rfl) rfl rfl hl.1 rfl (lv_room (Nat.le_of_ble_eq_true rfl)) dX1_joinCells_67 ⟨Nat.le_of_ble_eq_true rfl, Nat.le_of_ble_eq_true rfl⟩) hP hD hS hA rfl (wr := []) rfl (by decide) (by decide) (fun u67 H locs hw hP hD hS => ?_)
      replace hP : va_P D vwCl (fw a cI cJ st co ro cA' x67 su jA jD) H := hP
      replace hD : va_D A (fw a cI cJ st co ro cA' x67 su jA jD) := hD
      refine lv_iinc (v := (v2 + 1)) (lv' := [(2, .int (v2 + 1)), (0, .ref (a 0)), (1, .int v1)]) hx hb dX1_joinCells_70 hl (k := 2) rfl (by rfl) (by decide) rfl (fun ls hl => ?_)
      refine lv_goto (tgt := 12) hx hb dX1_joinCells_73 (by decide) ?_
      exact hK12 v1 (v2 + 1) cA' x67 hM H locs ls hP hD hS (lv_sub hl [1, 2, 0] rfl)
  have c45 : ∀ (K2 : Int32 → CS → CS → Option (CS × CS)) (hK2 : ∀ (v1 : Int32) (cA' : CS) (cD' : CS), K2 v1 cA' cD' = some o → ∀ (H : Heap) (locs : List Loc) (ls : Array Slot), va_P D vwCl (fw a cI cJ st co ro cA' cD' su jA jD) H → va_D A (fw a cI cJ st co ro cA' cD' su jA jD) → va_S A s.heap H locs → lv_has ls 4 [(0, .ref (a 0)), (1, .int v1)] → W p l e rmX1_joinCells s m args below meth c H locs 0 0 Q (F0 m 2 ls [])) (K12 : Int32 → Int32 → CS → CS → Option (CS × CS)) (hK12 : ∀ (v1 : Int32) (v2 : Int32) (cA' : CS) (cD' : CS), K12 v1 v2 cA' cD' = some o → ∀ (H : Heap) (locs : List Loc) (ls : Array Slot), va_P D vwCl (fw a cI cJ st co ro cA' cD' su jA jD) H → va_D A (fw a cI cJ st co ro cA' cD' su jA jD) → va_S A s.heap H locs → lv_has ls 4 [(0, .ref (a 0)), (1, .int v1), (2, .int v2)] → W p l e rmX1_joinCells s m args below meth c H locs 0 0 Q (F0 m 12 ls [])) , ∀ (v1 : Int32) (v2 : Int32) (v3 : Int32) (s0 : Int32) (s1 : Int32) (cA' : CS) (cD' : CS), mX1_joinCells_45 N st co ro K2 K12 v1 v2 v3 s0 s1 cA' cD' = some o → ∀ (H : Heap) (locs : List Loc) (ls : Array Slot), va_P D vwCl (fw a cI cJ st co ro cA' cD' su jA jD) H → va_D A (fw a cI cJ st co ro cA' cD' su jA jD) → va_S A s.heap H locs → lv_has ls 4 [(0, .ref (a 0)), (1, .int v1), (2, .int v2), (3, .int v3)] → W p l e rmX1_joinCells s m args below meth c H locs 0 0 Q (F0 m 45 ls [.int s0, .int s1, .ref (a 2)]) := by
      intro K2 hK2 K12 hK12 v1 v2 v3 s0 s1 cA' cD' hM H locs ls hP hD hS hl
      rw [mX1_joinCells_45] at hM
      obtain ⟨x45, hC, hM⟩ := bd_s hM
      refine cW_v [0, 1, 2, 3, 4, 5, 6, 7, 8, 9, 10, 11] [] (va_runV (As := [.int s1, .int s0]) (rest := []) ⟨hx, hb, hml, hown, hts⟩ (kX0_join_A (l := l) (D := D) (cI := cI) (cJ := cJ) N a (st := st) (co := co) (ro := ro) (cA := cA') (cD := cD') (su := su) (jA := jA) (jD := jD) (p1 := s1) (p2 := s0) hC H.size) (cwV 2 hts gX1_joinCells_X0_join rfl rfl rfl (by decide +kernel) ⟨Nat.le_of_ble_eq_true rfl, Nat.le_of_ble_eq_true rfl⟩) (preV [.int s1, .int s0] hN hK hP hD (ci := 0) (q0 := 2) rfl rfl) rfl rfl hl.1 rfl (lv_room (Nat.le_of_ble_eq_true rfl)) dX1_joinCells_45 ⟨Nat.le_of_ble_eq_true rfl, Nat.le_of_ble_eq_true rfl⟩) hP hD hS hA rfl (wr := []) rfl (by decide) (by decide) (fun u45 H locs hw hP hD hS => ?_)
      replace hP : va_P D vwCl (fw a cI cJ st co ro x45 cD' su jA jD) H := hP
      replace hD : va_D A (fw a cI cJ st co ro x45 cD' su jA jD) := hD
      refine lv_aload_n hx hb dX1_joinCells_48 rfl (lv_at hl 0 rfl) ?_
      refine va_get (D := D) (ci := 1) (v := .ref (a 3)) (C := RX1) (T := TX1) (N := 5) hx hb hts iX1 hown hK hP 0 rfl rfl 2 (by decide) f27 (fun _ h9 => h9) rfl dX1_joinCells_49 ?_
      refine lv_iload_n hx hb dX1_joinCells_52 rfl (lv_at hl 3 rfl) ?_
      refine lv_iload_n hx hb dX1_joinCells_53 rfl (lv_at hl 1 rfl) ?_
      refine lv_if_ne (tgt := 61) hx hb dX1_joinCells_54 (by decide) (fun hcc => ?_) (fun hcc => ?_)
      · replace hM := it_n hcc hM
        refine lv_iload_n hx hb dX1_joinCells_61 rfl (lv_at hl 3 rfl) ?_
        refine lv_aload_n hx hb dX1_joinCells_62 rfl (lv_at hl 0 rfl) ?_
        refine va_get (D := D) (ci := 1) (v := .int co) (C := RX1) (T := TX1) (N := 5) hx hb hts iX1 hown hK hP 0 rfl rfl 3 (by decide) f34 (fun _ h9 => h9) rfl dX1_joinCells_63 ?_
        refine lv_isub hx hb dX1_joinCells_66 ?_
        exact c67 K2 hK2 K12 hK12 v1 v2 (v3 - co) v3 x45 cD' hM H locs ls hP hD hS (lv_sub hl [0, 1, 2] rfl)
      · replace hM := it_p hcc hM
        refine lv_iconst (v := -1) hx hb dX1_joinCells_57 (by decide) ?_
        refine lv_goto (tgt := 67) hx hb dX1_joinCells_58 (by decide) ?_
        exact c67 K2 hK2 K12 hK12 v1 v2 (-1 : Int32) v3 x45 cD' hM H locs ls hP hD hS (lv_sub hl [0, 1, 2] rfl)
  have c12 : ∀ (K2 : Int32 → CS → CS → Option (CS × CS)) (hK2 : ∀ (v1 : Int32) (cA' : CS) (cD' : CS), K2 v1 cA' cD' = some o → ∀ (H : Heap) (locs : List Loc) (ls : Array Slot), va_P D vwCl (fw a cI cJ st co ro cA' cD' su jA jD) H → va_D A (fw a cI cJ st co ro cA' cD' su jA jD) → va_S A s.heap H locs → lv_has ls 4 [(0, .ref (a 0)), (1, .int v1)] → W p l e rmX1_joinCells s m args below meth c H locs 0 0 Q (F0 m 2 ls [])) (n : Nat), ∀ (v1 : Int32) (v2 : Int32) (cA' : CS) (cD' : CS), mX1_joinCells_12 N st co ro K2 n v1 v2 cA' cD' = some o → ∀ (H : Heap) (locs : List Loc) (ls : Array Slot), va_P D vwCl (fw a cI cJ st co ro cA' cD' su jA jD) H → va_D A (fw a cI cJ st co ro cA' cD' su jA jD) → va_S A s.heap H locs → lv_has ls 4 [(0, .ref (a 0)), (1, .int v1), (2, .int v2)] → W p l e rmX1_joinCells s m args below meth c H locs 0 0 Q (F0 m 12 ls []) := by
    intro K2 hK2 n
    induction n with
    | zero =>
      intro v1 v2 cA' cD' hM
      rw [mX1_joinCells_12] at hM
      cases hM
    | succ n ih =>
      intro v1 v2 cA' cD' hM H locs ls hP hD hS hl
      rw [mX1_joinCells_12] at hM
      refine lv_iload_n hx hb dX1_joinCells_12 rfl (lv_at hl 2 rfl) ?_
      refine lv_aload_n hx hb dX1_joinCells_13 rfl (lv_at hl 0 rfl) ?_
      refine va_get (D := D) (ci := 1) (v := .int co) (C := RX1) (T := TX1) (N := 5) hx hb hts iX1 hown hK hP 0 rfl rfl 3 (by decide) f34 (fun _ h9 => h9) rfl dX1_joinCells_14 ?_
      refine lv_icmp_ge (tgt := 76) hx hb dX1_joinCells_17 (by decide) (fun hcc => ?_) (fun hcc => ?_)
      · replace hM := it_p hcc hM
        refine lv_iinc (v := (v1 + 1)) (lv' := [(1, .int (v1 + 1)), (0, .ref (a 0)), (2, .int v2)]) hx hb dX1_joinCells_76 hl (k := 1) rfl (by rfl) (by decide) rfl (fun ls hl => ?_)
        refine lv_goto (tgt := 2) hx hb dX1_joinCells_79 (by decide) ?_
        exact hK2 (v1 + 1) cA' cD' hM H locs ls hP hD hS (lv_sub hl [1, 0] rfl)
      · replace hM := it_n hcc hM
        refine lv_iload_n hx hb dX1_joinCells_20 rfl (lv_at hl 1 rfl) ?_
        refine lv_aload_n hx hb dX1_joinCells_21 rfl (lv_at hl 0 rfl) ?_
        refine va_get (D := D) (ci := 1) (v := .int co) (C := RX1) (T := TX1) (N := 5) hx hb hts iX1 hown hK hP 0 rfl rfl 3 (by decide) f34 (fun _ h9 => h9) rfl dX1_joinCells_22 ?_
        refine lv_imul hx hb dX1_joinCells_25 ?_
        refine lv_iload_n hx hb dX1_joinCells_26 rfl (lv_at hl 2 rfl) ?_
        refine lv_iadd hx hb dX1_joinCells_27 ?_
        refine lv_istore_n (lv' := [(3, .int ((v1 * co) + v2)), (0, .ref (a 0)), (1, .int v1), (2, .int v2)]) hx hb dX1_joinCells_28 rfl hl (by decide) rfl (fun ls hl => ?_)
        refine lv_aload_n hx hb dX1_joinCells_29 rfl (lv_at hl 1 rfl) ?_
        refine va_get (D := D) (ci := 1) (v := .ref (a 2)) (C := RX1) (T := TX1) (N := 5) hx hb hts iX1 hown hK hP 0 rfl rfl 1 (by decide) f23 (fun _ h9 => h9) rfl dX1_joinCells_30 ?_
        refine lv_iload_n hx hb dX1_joinCells_33 rfl (lv_at hl 0 rfl) ?_
        refine lv_iload_n hx hb dX1_joinCells_34 rfl (lv_at hl 3 rfl) ?_
        refine lv_if_ne (tgt := 42) hx hb dX1_joinCells_35 (by decide) (fun hcc => ?_) (fun hcc => ?_)
        · replace hM := it_n hcc hM
          refine lv_iload_n hx hb dX1_joinCells_42 rfl (lv_at hl 0 rfl) ?_
          refine lv_iconst (v := 1) hx hb dX1_joinCells_43 (by decide) ?_
          refine lv_isub hx hb dX1_joinCells_44 ?_
          exact c45 K2 hK2 (mX1_joinCells_12 N st co ro K2 n) ih v1 v2 ((v1 * co) + v2) (((v1 * co) + v2) - (1 : Int32)) ((v1 * co) + v2) cA' cD' hM H locs ls hP hD hS (lv_sub hl [1, 2, 3, 0] rfl)
        · replace hM := it_p hcc hM
          refine lv_iconst (v := -1) hx hb dX1_joinCells_38 (by decide) ?_
          refine lv_goto (tgt := 45) hx hb dX1_joinCells_39 (by decide) ?_
          exact c45 K2 hK2 (mX1_joinCells_12 N st co ro K2 n) ih v1 v2 ((v1 * co) + v2) (-1 : Int32) ((v1 * co) + v2) cA' cD' hM H locs ls hP hD hS (lv_sub hl [1, 2, 3, 0] rfl)
  have c2 : ∀ (n : Nat), ∀ (v1 : Int32) (cA' : CS) (cD' : CS), mX1_joinCells_2 N st co ro n v1 cA' cD' = some o → ∀ (H : Heap) (locs : List Loc) (ls : Array Slot), va_P D vwCl (fw a cI cJ st co ro cA' cD' su jA jD) H → va_D A (fw a cI cJ st co ro cA' cD' su jA jD) → va_S A s.heap H locs → lv_has ls 4 [(0, .ref (a 0)), (1, .int v1)] → W p l e rmX1_joinCells s m args below meth c H locs 0 0 Q (F0 m 2 ls []) := by
    intro n
    induction n with
    | zero =>
      intro v1 cA' cD' hM
      rw [mX1_joinCells_2] at hM
      cases hM
    | succ n ih =>
      intro v1 cA' cD' hM H locs ls hP hD hS hl
      rw [mX1_joinCells_2] at hM
      refine lv_iload_n hx hb dX1_joinCells_2 rfl (lv_at hl 1 rfl) ?_
      refine lv_aload_n hx hb dX1_joinCells_3 rfl (lv_at hl 0 rfl) ?_
      refine va_get (D := D) (ci := 1) (v := .int ro) (C := RX1) (T := TX1) (N := 5) hx hb hts iX1 hown hK hP 0 rfl rfl 4 (by decide) f38 (fun _ h9 => h9) rfl dX1_joinCells_4 ?_
      refine lv_icmp_ge (tgt := 82) hx hb dX1_joinCells_7 (by decide) (fun hcc => ?_) (fun hcc => ?_)
      · replace hM := it_p hcc hM
        obtain rfl := Option.some.inj hM
        subst hQ hAe
        exact W.vret hx hb hr (fun t ht hW => ⟨⟨(), rfl, trivial, ⟨by rw [ht]; exact hP, hD⟩⟩, hS.F ht⟩) hS.2.2 dX1_joinCells_82
      · replace hM := it_n hcc hM
        refine lv_iconst (v := 0) hx hb dX1_joinCells_10 (by decide) ?_
        refine lv_istore_n (lv' := [(2, .int (0 : Int32)), (0, .ref (a 0)), (1, .int v1)]) hx hb dX1_joinCells_11 rfl hl (by decide) rfl (fun ls hl => ?_)
        exact c12 (mX1_joinCells_2 N st co ro n) ih N v1 (0 : Int32) cA' cD' hM H locs ls hP hD hS (lv_sub hl [1, 2, 0] rfl)
  rw [mX1_joinCells] at hM
  refine lv_iconst (v := 0) hx hb dX1_joinCells_0 (by decide) ?_
  refine lv_istore_n (lv' := [(1, .int (0 : Int32)), (0, .ref (a 0))]) hx hb dX1_joinCells_1 rfl hl (by decide) rfl (fun ls hl => ?_)
  exact c2 N (0 : Int32) cA cD hM H locs ls hP hD hS (lv_sub hl [1, 0] rfl)
def mX1_clear_12 (N : Nat) (cA : CS) (cD : CS) (p1 : Int32) : Nat → Int32 → RowI → Int32 → Int32 → Option (RowI × Int32 × Int32 × CS × CS)
  | 0 => fun _ _ _ _ => none
  | n + 1 => fun v3 st' co' ro' => (if (36 : Int32) ≤ v3 then
  ((mX0_clear N cA (1 : Int32)).bind fun x38 =>
  ((mX0_clear N cD p1).bind fun x46 =>
  ((mX1_joinCells N st' co' ro' x38 x46).bind fun x50 =>
  some (st', co', ro', x50.1, x50.2))))
  else
  (mX1_clear_12 N cA cD p1 n (v3 + 1) (wr st' v3 (0 : Int32)) co' ro'))
def mX1_clear (N : Nat) (st : RowI) (co : Int32) (ro : Int32) (cA : CS) (cD : CS) (p1 : Int32) (p2 : Int32) : Option (RowI × Int32 × Int32 × CS × CS) :=
  (mX1_clear_12 N cA cD p1 N (0 : Int32) st p1 p2)
abbrev rmX1_clear : Room := { frames := 3, cells := 0, slots := 0, locals := 68 }
set_option maxHeartbeats 4000000 in
set_option maxRecDepth 100000 in
theorem kX1_clear {l : Launch} {D : va_G} {cI cJ : ClassId} (N : Nat) (a : Nat → Nat) {st : RowI} {co : Int32} {ro : Int32} {cA : CS} {cD : CS} {su : RowJ} {jA : JT} {jD : JT} {p1 : Int32} {p2 : Int32} {o : (RowI × Int32 × Int32 × CS × CS)} (hM : mX1_clear N st co ro cA cD p1 p2 = some o) (sz : Nat) : Met l yX1_clear wsX1_clear rmX1_clear (va_Pc [.ref (a 0), .int p1, .int p2] (Pre D cI cJ (fw a cI cJ st co ro cA cD su jA jD) sz)) (va_Qv (fun (_ : Unit) => True) (aft D (fw a cI cJ st co ro cA cD su jA jD) sz (fun (_ : Unit) => (fw a cI cJ o.1 o.2.1 o.2.2.1 o.2.2.2.1 o.2.2.2.2 su jA jD))) (va_A (fw a cI cJ st co ro cA cD su jA jD) sz)) 0 0 (va_A (fw a cI cJ st co ro cA cD su jA jD) sz) := by
  refine xofW (cc := cX1_clear) (maxL := 4) (ret := none) rfl (by decide) rfl ?_
  intro p e s m args below meth c ls Q A hQ hAe hx hb hr hml hown hts hlocks hnm hN hK H locs hP hD hS hA hl
  replace hown : s.vm.findClass RX1 = some m.cls := hown
  replace hl : lv_has ls 4 [(0, .ref (a 0)), (1, .int p1), (2, .int p2)] := hl
  have iX1 : ∀ w ∈ wsX10, w ∈ wsX1_clear := by decide +kernel
  have f12 := hts (.fieldLink RX1 12 "CryptSums$Floor" "stones" "[I") (by decide +kernel)
  have f23 := hts (.fieldLink RX1 23 "CryptSums$Floor" "across" "LCryptSums$Corridors;") (by decide +kernel)
  have f27 := hts (.fieldLink RX1 27 "CryptSums$Floor" "down" "LCryptSums$Corridors;") (by decide +kernel)
  have f34 := hts (.fieldLink RX1 34 "CryptSums$Floor" "columns" "I") (by decide +kernel)
  have f38 := hts (.fieldLink RX1 38 "CryptSums$Floor" "rows" "I") (by decide +kernel)
  have c12 : ∀ (n : Nat), ∀ (v3 : Int32) (st' : RowI) (co' : Int32) (ro' : Int32), mX1_clear_12 N cA cD p1 n v3 st' co' ro' = some o → ∀ (H : Heap) (locs : List Loc) (ls : Array Slot), va_P D vwCl (fw a cI cJ st' co' ro' cA cD su jA jD) H → va_D A (fw a cI cJ st' co' ro' cA cD su jA jD) → va_S A s.heap H locs → lv_has ls 4 [(0, .ref (a 0)), (1, .int p1), (3, .int v3)] → W p l e rmX1_clear s m args below meth c H locs 0 0 Q (F0 m 12 ls []) := by
    intro n
    induction n with
    | zero =>
      intro v3 st' co' ro' hM
      rw [mX1_clear_12] at hM
      cases hM
    | succ n ih =>
      intro v3 st' co' ro' hM H locs ls hP hD hS hl
      rw [mX1_clear_12] at hM
      refine lv_iload_n hx hb dX1_clear_12 rfl (lv_at hl 2 rfl) ?_
      refine lv_bipush (v := 36) hx hb dX1_clear_13 (by decide) ?_
      refine lv_icmp_ge (tgt := 33) hx hb dX1_clear_15 (by decide) (fun hcc => ?_) (fun hcc => ?_)
      · replace hM := it_p hcc hM
        refine lv_aload_n hx hb dX1_clear_33 rfl (lv_at hl 0 rfl) ?_
        refine va_get (D := D) (ci := 1) (v := .ref (a 2)) (C := RX1) (T := TX1) (N := 5) hx hb hts iX1 hown hK hP 0 rfl rfl 1 (by decide) f23 (fun _ h9 => h9) rfl dX1_clear_34 ?_
        refine lv_iconst (v := 1) hx hb dX1_clear_37 (by decide) ?_
        obtain ⟨x38, hC, hM⟩ := bd_s hM
        refine cW_v [0, 1, 2, 3, 4, 5, 6, 7, 8, 9, 10, 11] [] (va_runV (As := [.int (1 : Int32)]) (rest := []) ⟨hx, hb, hml, hown, hts⟩ (kX0_clear_A (l := l) (D := D) (cI := cI) (cJ := cJ) N a (st := st') (co := co') (ro := ro') (cA := cA) (cD := cD) (su := su) (jA := jA) (jD := jD) (p1 := (1 : Int32)) hC H.size) (cwV 1 hts gX1_clear_X0_clear rfl rfl rfl (by decide +kernel) ⟨Nat.le_of_ble_eq_true rfl, Nat.le_of_ble_eq_true rfl⟩) (preV [.int (1 : Int32)] hN hK hP hD (ci := 0) (q0 := 2) rfl rfl) rfl rfl hl.1 rfl (lv_room (Nat.le_of_ble_eq_true rfl)) dX1_clear_38 ⟨Nat.le_of_ble_eq_true rfl, Nat.le_of_ble_eq_true rfl⟩) hP hD hS hA rfl (wr := []) rfl (by decide) (by decide) (fun u38 H locs hw hP hD hS => ?_)
        replace hP : va_P D vwCl (fw a cI cJ st' co' ro' x38 cD su jA jD) H := hP
        replace hD : va_D A (fw a cI cJ st' co' ro' x38 cD su jA jD) := hD
        refine lv_aload_n hx hb dX1_clear_41 rfl (lv_at hl 0 rfl) ?_
        refine va_get (D := D) (ci := 1) (v := .ref (a 3)) (C := RX1) (T := TX1) (N := 5) hx hb hts iX1 hown hK hP 0 rfl rfl 2 (by decide) f27 (fun _ h9 => h9) rfl dX1_clear_42 ?_
        refine lv_iload_n hx hb dX1_clear_45 rfl (lv_at hl 1 rfl) ?_
        obtain ⟨x46, hC, hM⟩ := bd_s hM
        refine cW_v [0, 1, 2, 3, 4, 5, 6, 7, 8, 9, 10, 11] [] (va_runV (As := [.int p1]) (rest := []) ⟨hx, hb, hml, hown, hts⟩ (kX0_clear_D (l := l) (D := D) (cI := cI) (cJ := cJ) N a (st := st') (co := co') (ro := ro') (cA := x38) (cD := cD) (su := su) (jA := jA) (jD := jD) (p1 := p1) hC H.size) (cwV 1 hts gX1_clear_X0_clear rfl rfl rfl (by decide +kernel) ⟨Nat.le_of_ble_eq_true rfl, Nat.le_of_ble_eq_true rfl⟩) (preV [.int p1] hN hK hP hD (ci := 0) (q0 := 3) rfl rfl) rfl rfl hl.1 rfl (lv_room (Nat.le_of_ble_eq_true rfl)) dX1_clear_46 ⟨Nat.le_of_ble_eq_true rfl, Nat.le_of_ble_eq_true rfl⟩) hP hD hS hA rfl (wr := []) rfl (by decide) (by decide) (fun u46 H locs hw hP hD hS => ?_)
        replace hP : va_P D vwCl (fw a cI cJ st' co' ro' x38 x46 su jA jD) H := hP
        replace hD : va_D A (fw a cI cJ st' co' ro' x38 x46 su jA jD) := hD
        refine lv_aload_n hx hb dX1_clear_49 rfl (lv_at hl 0 rfl) ?_
        obtain ⟨x50, hC, hM⟩ := bd_s hM
        refine cW_v [0, 1, 2, 3, 4, 5, 6, 7, 8, 9, 10, 11] [] (va_runV (As := []) (rest := []) ⟨hx, hb, hml, hown, hts⟩ (kX1_joinCells (l := l) (D := D) (cI := cI) (cJ := cJ) N a (st := st') (co := co') (ro := ro') (cA := x38) (cD := x46) (su := su) (jA := jA) (jD := jD) hC H.size) (cwV 0 hts gX1_clear_X1_joinCells rfl rfl rfl (by decide +kernel) ⟨Nat.le_of_ble_eq_true rfl, Nat.le_of_ble_eq_true rfl⟩) (preV [] hN hK hP hD (ci := 1) (q0 := 0) rfl rfl) rfl rfl hl.1 rfl (lv_room (Nat.le_of_ble_eq_true rfl)) dX1_clear_50 ⟨Nat.le_of_ble_eq_true rfl, Nat.le_of_ble_eq_true rfl⟩) hP hD hS hA rfl (wr := []) rfl (by decide) (by decide) (fun u50 H locs hw hP hD hS => ?_)
        replace hP : va_P D vwCl (fw a cI cJ st' co' ro' x50.1 x50.2 su jA jD) H := hP
        replace hD : va_D A (fw a cI cJ st' co' ro' x50.1 x50.2 su jA jD) := hD
        obtain rfl := Option.some.inj hM
        subst hQ hAe
        exact W.vret hx hb hr (fun t ht hW => ⟨⟨(), rfl, trivial, ⟨by rw [ht]; exact hP, hD⟩⟩, hS.F ht⟩) hS.2.2 dX1_clear_53
      · replace hM := it_n hcc hM
        refine lv_aload_n hx hb dX1_clear_18 rfl (lv_at hl 0 rfl) ?_
        refine va_get (D := D) (ci := 1) (v := .ref (a 1)) (C := RX1) (T := TX1) (N := 5) hx hb hts iX1 hown hK hP 0 rfl rfl 0 (by decide) f12 (fun _ h9 => h9) rfl dX1_clear_19 ?_
        refine lv_iload_n hx hb dX1_clear_22 rfl (lv_at hl 2 rfl) ?_
        refine lv_iconst (v := 0) hx hb dX1_clear_23 (by decide) ?_
        refine cW_v [1] [0, 2, 3, 4, 5, 6, 7, 8, 9, 10, 11] (va_runSN (As := [.ref (a 1), .int v3, .int (0 : Int32)]) (rest := []) ⟨hx, hb, hml, hown, hts⟩ (kX4_write (D := D) (cI := cI) (cJ := cJ) (a 1) st' v3 (0 : Int32) H.size) ⟨va_cnB 3 hts gX1_clear_X4_write_n41 rfl rfl rfl (hN (.methodLinkNest RX1 41 yX4_write "CryptSums") (by decide +kernel)) (hts (.initialized RX4) (by decide +kernel)) (by decide +kernel) ⟨Nat.le_of_ble_eq_true rfl, Nat.le_of_ble_eq_true rfl⟩, hts (.static yX4_write) (by decide +kernel), trivial⟩ (preS [.ref (a 1), .int v3, .int (0 : Int32)] hN hK (hP.sub (ws' := [((a 1), .inl (cI, 36, .inl st'))]) [1] rfl) (hD.sub (ws' := [((a 1), .inl (cI, 36, .inl st'))]) [1] (by decide) rfl)) rfl rfl hl.1 rfl (lv_room (Nat.le_of_ble_eq_true rfl)) dX1_clear_24 ⟨Nat.le_of_ble_eq_true rfl, Nat.le_of_ble_eq_true rfl⟩) hP hD hS hA rfl (wr := (((fw a cI cJ st' co' ro' cA cD su jA jD)).eraseIdx 1)) rfl (by decide) (by decide) (fun u H locs hw hP hD hS => ?_)
        replace hP := hP.sub (ws' := (fw a cI cJ (wr st' v3 (0 : Int32)) co' ro' cA cD su jA jD)) [0, 11, 1, 2, 3, 4, 5, 6, 7, 8, 9, 10] rfl
        replace hD := hD.sub (ws' := (fw a cI cJ (wr st' v3 (0 : Int32)) co' ro' cA cD su jA jD)) [0, 11, 1, 2, 3, 4, 5, 6, 7, 8, 9, 10] (by decide) rfl
        refine lv_iinc (v := (v3 + 1)) (lv' := [(3, .int (v3 + 1)), (0, .ref (a 0)), (1, .int p1)]) hx hb dX1_clear_27 hl (k := 2) rfl (by rfl) (by decide) rfl (fun ls hl => ?_)
        refine lv_goto (tgt := 12) hx hb dX1_clear_30 (by decide) ?_
        exact ih (v3 + 1) (wr st' v3 (0 : Int32)) co' ro' hM H locs ls hP hD hS (lv_sub hl [1, 2, 0] rfl)
  rw [mX1_clear] at hM
  refine lv_aload_n hx hb dX1_clear_0 rfl (lv_at hl 0 rfl) ?_
  refine lv_iload_n hx hb dX1_clear_1 rfl (lv_at hl 1 rfl) ?_
  refine va_put (D := D) (ci := 1) (v := .int p1) (ty := .int) (C := RX1) (T := TX1) (N := 5) hx hb hts iX1 tyX1 tyX1_ok nmX1 hown hK hP hD hS 0 rfl rfl 3 (by decide) f34 (fun _ h9 => h9) rfl (by decide +kernel) rfl rfl (Nat.le_of_ble_eq_true rfl) dX1_clear_2 (fun H locs hP hD hS => ?_)
  replace hP : va_P D vwCl (fw a cI cJ st p1 ro cA cD su jA jD) H := hP
  replace hD : va_D A (fw a cI cJ st p1 ro cA cD su jA jD) := hD
  refine lv_aload_n hx hb dX1_clear_5 rfl (lv_at hl 0 rfl) ?_
  refine lv_iload_n hx hb dX1_clear_6 rfl (lv_at hl 2 rfl) ?_
  refine va_put (D := D) (ci := 1) (v := .int p2) (ty := .int) (C := RX1) (T := TX1) (N := 5) hx hb hts iX1 tyX1 tyX1_ok nmX1 hown hK hP hD hS 0 rfl rfl 4 (by decide) f38 (fun _ h9 => h9) rfl (by decide +kernel) rfl rfl (Nat.le_of_ble_eq_true rfl) dX1_clear_7 (fun H locs hP hD hS => ?_)
  replace hP : va_P D vwCl (fw a cI cJ st p1 p2 cA cD su jA jD) H := hP
  replace hD : va_D A (fw a cI cJ st p1 p2 cA cD su jA jD) := hD
  refine lv_iconst (v := 0) hx hb dX1_clear_10 (by decide) ?_
  refine lv_istore_n (lv' := [(3, .int (0 : Int32)), (0, .ref (a 0)), (1, .int p1), (2, .int p2)]) hx hb dX1_clear_11 rfl hl (by decide) rfl (fun ls hl => ?_)
  exact c12 N (0 : Int32) st p1 p2 hM H locs ls hP hD hS (lv_sub hl [1, 2, 0] rfl)
def mX1_turnPillar_18 (N : Nat) (st : RowI) (co : Int32) (ro : Int32) (cA : CS) (cD : CS) (s0 : Int32) (s1 : Int32) : Option (RowI × CS × CS) :=
  ((mX1_joinCells N (wr st s1 s0) co ro cA cD).bind fun x22 =>
  some ((wr st s1 s0), x22.1, x22.2))
def mX1_turnPillar (N : Nat) (st : RowI) (co : Int32) (ro : Int32) (cA : CS) (cD : CS) (p1 : Int32) : Option (RowI × CS × CS) :=
  ((mX1_isPillar N st p1).bind fun x7 =>
  (if x7 = 0 then
  (mX1_turnPillar_18 N st co ro cA cD (-1 : Int32) p1)
  else
  (mX1_turnPillar_18 N st co ro cA cD (0 : Int32) p1)))
abbrev rmX1_turnPillar : Room := { frames := 3, cells := 0, slots := 0, locals := 68 }
set_option maxHeartbeats 4000000 in
set_option maxRecDepth 100000 in
theorem kX1_turnPillar {l : Launch} {D : va_G} {cI cJ : ClassId} (N : Nat) (a : Nat → Nat) {st : RowI} {co : Int32} {ro : Int32} {cA : CS} {cD : CS} {su : RowJ} {jA : JT} {jD : JT} {p1 : Int32} {o : (RowI × CS × CS)} (hM : mX1_turnPillar N st co ro cA cD p1 = some o) (sz : Nat) : Met l yX1_turnPillar wsX1_turnPillar rmX1_turnPillar (va_Pc [.ref (a 0), .int p1] (Pre D cI cJ (fw a cI cJ st co ro cA cD su jA jD) sz)) (va_Qv (fun (_ : Unit) => True) (aft D (fw a cI cJ st co ro cA cD su jA jD) sz (fun (_ : Unit) => (fw a cI cJ o.1 co ro o.2.1 o.2.2 su jA jD))) (va_A (fw a cI cJ st co ro cA cD su jA jD) sz)) 0 0 (va_A (fw a cI cJ st co ro cA cD su jA jD) sz) := by
  refine xofW (cc := cX1_turnPillar) (maxL := 2) (ret := none) rfl (by decide) rfl ?_
  intro p e s m args below meth c ls Q A hQ hAe hx hb hr hml hown hts hlocks hnm hN hK H locs hP hD hS hA hl
  replace hown : s.vm.findClass RX1 = some m.cls := hown
  replace hl : lv_has ls 2 [(0, .ref (a 0)), (1, .int p1)] := hl
  have iX1 : ∀ w ∈ wsX10, w ∈ wsX1_turnPillar := by decide +kernel
  have f12 := hts (.fieldLink RX1 12 "CryptSums$Floor" "stones" "[I") (by decide +kernel)
  have c18 : ∀ (s0 : Int32) (s1 : Int32), mX1_turnPillar_18 N st co ro cA cD s0 s1 = some o → ∀ (H : Heap) (locs : List Loc) (ls : Array Slot), va_P D vwCl (fw a cI cJ st co ro cA cD su jA jD) H → va_D A (fw a cI cJ st co ro cA cD su jA jD) → va_S A s.heap H locs → lv_has ls 2 [(0, .ref (a 0))] → W p l e rmX1_turnPillar s m args below meth c H locs 0 0 Q (F0 m 18 ls [.int s0, .int s1, .ref (a 1)]) := by
      intro  s0 s1 hM H locs ls hP hD hS hl
      rw [mX1_turnPillar_18] at hM
      refine cW_v [1] [0, 2, 3, 4, 5, 6, 7, 8, 9, 10, 11] (va_runSN (As := [.ref (a 1), .int s1, .int s0]) (rest := []) ⟨hx, hb, hml, hown, hts⟩ (kX4_write (D := D) (cI := cI) (cJ := cJ) (a 1) st s1 s0 H.size) ⟨va_cnB 3 hts gX1_turnPillar_X4_write_n41 rfl rfl rfl (hN (.methodLinkNest RX1 41 yX4_write "CryptSums") (by decide +kernel)) (hts (.initialized RX4) (by decide +kernel)) (by decide +kernel) ⟨Nat.le_of_ble_eq_true rfl, Nat.le_of_ble_eq_true rfl⟩, hts (.static yX4_write) (by decide +kernel), trivial⟩ (preS [.ref (a 1), .int s1, .int s0] hN hK (hP.sub (ws' := [((a 1), .inl (cI, 36, .inl st))]) [1] rfl) (hD.sub (ws' := [((a 1), .inl (cI, 36, .inl st))]) [1] (by decide) rfl)) rfl rfl hl.1 rfl (lv_room (Nat.le_of_ble_eq_true rfl)) dX1_turnPillar_18 ⟨Nat.le_of_ble_eq_true rfl, Nat.le_of_ble_eq_true rfl⟩) hP hD hS hA rfl (wr := (((fw a cI cJ st co ro cA cD su jA jD)).eraseIdx 1)) rfl (by decide) (by decide) (fun u H locs hw hP hD hS => ?_)
      replace hP := hP.sub (ws' := (fw a cI cJ (wr st s1 s0) co ro cA cD su jA jD)) [0, 11, 1, 2, 3, 4, 5, 6, 7, 8, 9, 10] rfl
      replace hD := hD.sub (ws' := (fw a cI cJ (wr st s1 s0) co ro cA cD su jA jD)) [0, 11, 1, 2, 3, 4, 5, 6, 7, 8, 9, 10] (by decide) rfl
      refine lv_aload_n hx hb dX1_turnPillar_21 rfl (lv_at hl 0 rfl) ?_
      obtain ⟨x22, hC, hM⟩ := bd_s hM
      refine cW_v [0, 1, 2, 3, 4, 5, 6, 7, 8, 9, 10, 11] [] (va_runV (As := []) (rest := []) ⟨hx, hb, hml, hown, hts⟩ (kX1_joinCells (l := l) (D := D) (cI := cI) (cJ := cJ) N a (st := (wr st s1 s0)) (co := co) (ro := ro) (cA := cA) (cD := cD) (su := su) (jA := jA) (jD := jD) hC H.size) (cwV 0 hts gX1_turnPillar_X1_joinCells rfl rfl rfl (by decide +kernel) ⟨Nat.le_of_ble_eq_true rfl, Nat.le_of_ble_eq_true rfl⟩) (preV [] hN hK hP hD (ci := 1) (q0 := 0) rfl rfl) rfl rfl hl.1 rfl (lv_room (Nat.le_of_ble_eq_true rfl)) dX1_turnPillar_22 ⟨Nat.le_of_ble_eq_true rfl, Nat.le_of_ble_eq_true rfl⟩) hP hD hS hA rfl (wr := []) rfl (by decide) (by decide) (fun u22 H locs hw hP hD hS => ?_)
      replace hP : va_P D vwCl (fw a cI cJ (wr st s1 s0) co ro x22.1 x22.2 su jA jD) H := hP
      replace hD : va_D A (fw a cI cJ (wr st s1 s0) co ro x22.1 x22.2 su jA jD) := hD
      obtain rfl := Option.some.inj hM
      subst hQ hAe
      exact W.vret hx hb hr (fun t ht hW => ⟨⟨(), rfl, trivial, ⟨by rw [ht]; exact hP, hD⟩⟩, hS.F ht⟩) hS.2.2 dX1_turnPillar_25
  rw [mX1_turnPillar] at hM
  refine lv_aload_n hx hb dX1_turnPillar_0 rfl (lv_at hl 0 rfl) ?_
  refine va_get (D := D) (ci := 1) (v := .ref (a 1)) (C := RX1) (T := TX1) (N := 5) hx hb hts iX1 hown hK hP 0 rfl rfl 0 (by decide) f12 (fun _ h9 => h9) rfl dX1_turnPillar_1 ?_
  refine lv_iload_n hx hb dX1_turnPillar_4 rfl (lv_at hl 1 rfl) ?_
  refine lv_aload_n hx hb dX1_turnPillar_5 rfl (lv_at hl 0 rfl) ?_
  refine lv_iload_n hx hb dX1_turnPillar_6 rfl (lv_at hl 1 rfl) ?_
  obtain ⟨x7, hC, hM⟩ := bd_s hM
  refine cR_i (va_runV (As := [.int p1]) (rest := [.int p1, .ref (a 1)]) ⟨hx, hb, hml, hown, hts⟩ (kX1_isPillar (l := l) (D := D) (cI := cI) (cJ := cJ) N a (st := st) (co := co) (ro := ro) (cA := cA) (cD := cD) (su := su) (jA := jA) (jD := jD) (p1 := p1) hC H.size) (cwV 1 hts gX1_turnPillar_X1_isPillar rfl rfl rfl (by decide +kernel) ⟨Nat.le_of_ble_eq_true rfl, Nat.le_of_ble_eq_true rfl⟩) (preV [.int p1] hN hK hP hD (ci := 1) (q0 := 0) rfl rfl) rfl rfl hl.1 rfl (lv_room (Nat.le_of_ble_eq_true rfl)) dX1_turnPillar_7 ⟨Nat.le_of_ble_eq_true rfl, Nat.le_of_ble_eq_true rfl⟩) hP hS (fun r u H locs hw hP hS => ?_)
  obtain ⟨hw, hz7⟩ := hw
  rw [hw] at hz7
  rw [hw]
  refine lv_if_eq (tgt := 17) hx hb dX1_turnPillar_10 (by decide) (fun hcc => ?_) (fun hcc => ?_)
  · replace hM := it_p hcc hM
    refine lv_iconst (v := -1) hx hb dX1_turnPillar_17 (by decide) ?_
    exact c18 (-1 : Int32) p1 hM H locs ls hP hD hS (lv_sub hl [0] rfl)
  · replace hM := it_n hcc hM
    refine lv_iconst (v := 0) hx hb dX1_turnPillar_13 (by decide) ?_
    refine lv_goto (tgt := 18) hx hb dX1_turnPillar_14 (by decide) ?_
    exact c18 (0 : Int32) p1 hM H locs ls hP hD hS (lv_sub hl [0] rfl)
def mX1_numbersFor (N : Nat) (st : RowI) (cA : CS) (cD : CS) (su : RowJ) (p1 : Int32) : Option Int32 :=
  ((mX1_isHole N st p1).bind fun x2 =>
  (if x2 = 0 then
  some (0 : Int32)
  else
  ((mX0_numbersFor N st cA su p1).bind fun x13 =>
  ((mX0_numbersFor N st cD su p1).bind fun x21 =>
  some (x13 &&& x21)))))
abbrev rmX1_numbersFor : Room := { frames := 3, cells := 0, slots := 0, locals := 74 }
set_option maxHeartbeats 4000000 in
set_option maxRecDepth 100000 in
theorem kX1_numbersFor {l : Launch} {D : va_G} {cI cJ : ClassId} (N : Nat) (a : Nat → Nat) {st : RowI} {co : Int32} {ro : Int32} {cA : CS} {cD : CS} {su : RowJ} {jA : JT} {jD : JT} {p1 : Int32} {o : Int32} (hM : mX1_numbersFor N st cA cD su p1 = some o) (sz : Nat) : Met l yX1_numbersFor wsX1_numbersFor rmX1_numbersFor (va_Pc [.ref (a 0), .int p1] (Pre D cI cJ (fw a cI cJ st co ro cA cD su jA jD) sz)) (va_Qi (fun (r : Int32) (_ : JT × JT) => r = o) (aft D (fw a cI cJ st co ro cA cD su jA jD) sz (fun (u : JT × JT) => (fw a cI cJ st co ro cA cD su u.1 u.2))) (va_A (fw a cI cJ st co ro cA cD su jA jD) sz)) 0 0 (va_A (fw a cI cJ st co ro cA cD su jA jD) sz) := by
  refine xofW (cc := cX1_numbersFor) (maxL := 2) (ret := (some .int)) rfl (by decide) rfl ?_
  intro p e s m args below meth c ls Q A hQ hAe hx hb hr hml hown hts hlocks hnm hN hK H locs hP hD hS hA hl
  replace hown : s.vm.findClass RX1 = some m.cls := hown
  replace hl : lv_has ls 2 [(0, .ref (a 0)), (1, .int p1)] := hl
  have iX1 : ∀ w ∈ wsX10, w ∈ wsX1_numbersFor := by decide +kernel
  have f23 := hts (.fieldLink RX1 23 "CryptSums$Floor" "across" "LCryptSums$Corridors;") (by decide +kernel)
  have f27 := hts (.fieldLink RX1 27 "CryptSums$Floor" "down" "LCryptSums$Corridors;") (by decide +kernel)
  rw [mX1_numbersFor] at hM
  refine lv_aload_n hx hb dX1_numbersFor_0 rfl (lv_at hl 0 rfl) ?_
  refine lv_iload_n hx hb dX1_numbersFor_1 rfl (lv_at hl 1 rfl) ?_
  obtain ⟨x2, hC, hM⟩ := bd_s hM
  refine cR_i (va_runV (As := [.int p1]) (rest := []) ⟨hx, hb, hml, hown, hts⟩ (kX1_isHole (l := l) (D := D) (cI := cI) (cJ := cJ) N a (st := st) (co := co) (ro := ro) (cA := cA) (cD := cD) (su := su) (jA := jA) (jD := jD) (p1 := p1) hC H.size) (cwV 1 hts gX1_numbersFor_X1_isHole rfl rfl rfl (by decide +kernel) ⟨Nat.le_of_ble_eq_true rfl, Nat.le_of_ble_eq_true rfl⟩) (preV [.int p1] hN hK hP hD (ci := 1) (q0 := 0) rfl rfl) rfl rfl hl.1 rfl (lv_room (Nat.le_of_ble_eq_true rfl)) dX1_numbersFor_2 ⟨Nat.le_of_ble_eq_true rfl, Nat.le_of_ble_eq_true rfl⟩) hP hS (fun r u H locs hw hP hS => ?_)
  obtain ⟨hw, hz2⟩ := hw
  rw [hw] at hz2
  rw [hw]
  refine lv_if_eq (tgt := 28) hx hb dX1_numbersFor_5 (by decide) (fun hcc => ?_) (fun hcc => ?_)
  · replace hM := it_p hcc hM
    refine lv_iconst (v := 0) hx hb dX1_numbersFor_28 (by decide) ?_
    obtain rfl := Option.some.inj hM
    subst hQ hAe
    exact W.iret (v := (0 : Int32)) hx hb hr (fun t ht hW => ⟨⟨(0 : Int32), (jA, jD), rfl, rfl, ⟨by rw [ht]; exact hP, hD⟩⟩, hS.F ht⟩) hS.2.2 dX1_numbersFor_29
  · replace hM := it_n hcc hM
    refine lv_aload_n hx hb dX1_numbersFor_8 rfl (lv_at hl 0 rfl) ?_
    refine va_get (D := D) (ci := 1) (v := .ref (a 2)) (C := RX1) (T := TX1) (N := 5) hx hb hts iX1 hown hK hP 0 rfl rfl 1 (by decide) f23 (fun _ h9 => h9) rfl dX1_numbersFor_9 ?_
    refine lv_iload_n hx hb dX1_numbersFor_12 rfl (lv_at hl 1 rfl) ?_
    obtain ⟨x13, hC, hM⟩ := bd_s hM
    refine cW_i [0, 1, 2, 3, 4, 5, 6, 7, 8, 9, 10, 11] [] (va_runV (As := [.int p1]) (rest := []) ⟨hx, hb, hml, hown, hts⟩ (kX0_numbersFor_A (l := l) (D := D) (cI := cI) (cJ := cJ) N a (st := st) (co := co) (ro := ro) (cA := cA) (cD := cD) (su := su) (jA := jA) (jD := jD) (p1 := p1) hC H.size) (cwV 1 hts gX1_numbersFor_X0_numbersFor rfl rfl rfl (by decide +kernel) ⟨Nat.le_of_ble_eq_true rfl, Nat.le_of_ble_eq_true rfl⟩) (preV [.int p1] hN hK hP hD (ci := 0) (q0 := 2) rfl rfl) rfl rfl hl.1 rfl (lv_room (Nat.le_of_ble_eq_true rfl)) dX1_numbersFor_13 ⟨Nat.le_of_ble_eq_true rfl, Nat.le_of_ble_eq_true rfl⟩) hP hD hS hA rfl (wr := []) rfl (by decide) (by decide) (fun r u13 H locs hw hP hD hS => ?_)
    replace hP : va_P D vwCl (fw a cI cJ st co ro cA cD su u13.1 u13.2) H := hP
    replace hD : va_D A (fw a cI cJ st co ro cA cD su u13.1 u13.2) := hD
    rw [hw]
    refine lv_aload_n hx hb dX1_numbersFor_16 rfl (lv_at hl 0 rfl) ?_
    refine va_get (D := D) (ci := 1) (v := .ref (a 3)) (C := RX1) (T := TX1) (N := 5) hx hb hts iX1 hown hK hP 0 rfl rfl 2 (by decide) f27 (fun _ h9 => h9) rfl dX1_numbersFor_17 ?_
    refine lv_iload_n hx hb dX1_numbersFor_20 rfl (lv_at hl 1 rfl) ?_
    obtain ⟨x21, hC, hM⟩ := bd_s hM
    refine cW_i [0, 1, 2, 3, 4, 5, 6, 7, 8, 9, 10, 11] [] (va_runV (As := [.int p1]) (rest := [.int x13]) ⟨hx, hb, hml, hown, hts⟩ (kX0_numbersFor_D (l := l) (D := D) (cI := cI) (cJ := cJ) N a (st := st) (co := co) (ro := ro) (cA := cA) (cD := cD) (su := su) (jA := u13.1) (jD := u13.2) (p1 := p1) hC H.size) (cwV 1 hts gX1_numbersFor_X0_numbersFor rfl rfl rfl (by decide +kernel) ⟨Nat.le_of_ble_eq_true rfl, Nat.le_of_ble_eq_true rfl⟩) (preV [.int p1] hN hK hP hD (ci := 0) (q0 := 3) rfl rfl) rfl rfl hl.1 rfl (lv_room (Nat.le_of_ble_eq_true rfl)) dX1_numbersFor_21 ⟨Nat.le_of_ble_eq_true rfl, Nat.le_of_ble_eq_true rfl⟩) hP hD hS hA rfl (wr := []) rfl (by decide) (by decide) (fun r u21 H locs hw hP hD hS => ?_)
    replace hP : va_P D vwCl (fw a cI cJ st co ro cA cD su u21.1 u21.2) H := hP
    replace hD : va_D A (fw a cI cJ st co ro cA cD su u21.1 u21.2) := hD
    rw [hw]
    refine lv_iand hx hb dX1_numbersFor_24 ?_
    refine lv_goto (tgt := 29) hx hb dX1_numbersFor_25 (by decide) ?_
    obtain rfl := Option.some.inj hM
    subst hQ hAe
    exact W.iret (v := (x13 &&& x21)) hx hb hr (fun t ht hW => ⟨⟨(x13 &&& x21), (u21.1, u21.2), rfl, rfl, ⟨by rw [ht]; exact hP, hD⟩⟩, hS.F ht⟩) hS.2.2 dX1_numbersFor_29
def mX1_corridorsOf_4 (N : Nat) (co : Int32) (ro : Int32) (cA : CS) : Nat → Int32 → Int32 → Option Int32
  | 0 => fun _ _ => none
  | n + 1 => fun v2 v3 => ((mX1_cells N co ro).bind fun x6 =>
  (if x6 ≤ v3 then
  some v2
  else
  ((mX0_beginsAt N cA v3).bind fun x14 =>
  (if x14 = 0 then
  (mX1_corridorsOf_4 N co ro cA n v2 (v3 + 1))
  else
  (mX1_corridorsOf_4 N co ro cA n (v2 + 1) (v3 + 1))))))
def mX1_corridorsOf (N : Nat) (co : Int32) (ro : Int32) (cA : CS) : Option Int32 :=
  (mX1_corridorsOf_4 N co ro cA N (0 : Int32) (0 : Int32))
abbrev rmX1_corridorsOf : Room := { frames := 2, cells := 0, slots := 0, locals := 42 }
set_option maxHeartbeats 4000000 in
set_option maxRecDepth 100000 in
theorem kX1_corridorsOf_A {l : Launch} {D : va_G} {cI cJ : ClassId} (N : Nat) (a : Nat → Nat) {st : RowI} {co : Int32} {ro : Int32} {cA : CS} {cD : CS} {su : RowJ} {jA : JT} {jD : JT} {o : Int32} (hM : mX1_corridorsOf N co ro cA = some o) (sz : Nat) : Met l yX1_corridorsOf wsX1_corridorsOf rmX1_corridorsOf (va_Pc [.ref (a 0), .ref (a 2)] (Pre D cI cJ (fw a cI cJ st co ro cA cD su jA jD) sz)) (va_Qi (fun (r : Int32) (_ : Unit) => r = o) (fun _ _ => True) (fun _ => False)) 0 0 (fun _ => False) := by
  refine xofR (cc := cX1_corridorsOf) (maxL := 4) (ret := (some .int)) rfl (by decide) rfl ?_
  intro p e s m args below meth c ls Q A hQ hAe hx hb hr hml hown hts hlocks hN hK H locs hP hD hS hl
  replace hown : s.vm.findClass RX1 = some m.cls := hown
  replace hl : lv_has ls 4 [(0, .ref (a 0)), (1, .ref (a 2))] := hl
  have c4 : ∀ (n : Nat), ∀ (v2 : Int32) (v3 : Int32), mX1_corridorsOf_4 N co ro cA n v2 v3 = some o → ∀ (H : Heap) (locs : List Loc) (ls : Array Slot), va_P D vwCl (fw a cI cJ st co ro cA cD su jA jD) H → va_S A s.heap H locs → lv_has ls 4 [(0, .ref (a 0)), (1, .ref (a 2)), (2, .int v2), (3, .int v3)] → W p l e rmX1_corridorsOf s m args below meth c H locs 0 0 Q (F0 m 4 ls []) := by
    intro n
    induction n with
    | zero =>
      intro v2 v3 hM
      rw [mX1_corridorsOf_4] at hM
      cases hM
    | succ n ih =>
      intro v2 v3 hM H locs ls hP hS hl
      rw [mX1_corridorsOf_4] at hM
      refine lv_iload_n hx hb dX1_corridorsOf_4 rfl (lv_at hl 3 rfl) ?_
      refine lv_aload_n hx hb dX1_corridorsOf_5 rfl (lv_at hl 0 rfl) ?_
      obtain ⟨x6, hC, hM⟩ := bd_s hM
      refine cR_i (va_runV (As := []) (rest := [.int v3]) ⟨hx, hb, hml, hown, hts⟩ (kX1_cells (l := l) (D := D) (cI := cI) (cJ := cJ) N a (st := st) (co := co) (ro := ro) (cA := cA) (cD := cD) (su := su) (jA := jA) (jD := jD) hC H.size) (cwV 0 hts gX1_corridorsOf_X1_cells rfl rfl rfl (by decide +kernel) ⟨Nat.le_of_ble_eq_true rfl, Nat.le_of_ble_eq_true rfl⟩) (preV [] hN hK hP hD (ci := 1) (q0 := 0) rfl rfl) rfl rfl hl.1 rfl (lv_room (Nat.le_of_ble_eq_true rfl)) dX1_corridorsOf_6 ⟨Nat.le_of_ble_eq_true rfl, Nat.le_of_ble_eq_true rfl⟩) hP hS (fun r u H locs hw hP hS => ?_)
      rw [hw]
      refine lv_icmp_ge (tgt := 29) hx hb dX1_corridorsOf_9 (by decide) (fun hcc => ?_) (fun hcc => ?_)
      · replace hM := it_p hcc hM
        refine lv_iload_n hx hb dX1_corridorsOf_29 rfl (lv_at hl 2 rfl) ?_
        obtain rfl := Option.some.inj hM
        subst hQ hAe
        exact W.iret (v := v2) hx hb hr (fun t ht hW => ⟨⟨v2, (), rfl, rfl, trivial⟩, hS.F ht⟩) hS.2.2 dX1_corridorsOf_30
      · replace hM := it_n hcc hM
        refine lv_aload_n hx hb dX1_corridorsOf_12 rfl (lv_at hl 1 rfl) ?_
        refine lv_iload_n hx hb dX1_corridorsOf_13 rfl (lv_at hl 3 rfl) ?_
        obtain ⟨x14, hC, hM⟩ := bd_s hM
        refine cR_i (va_runV (As := [.int v3]) (rest := []) ⟨hx, hb, hml, hown, hts⟩ (kX0_beginsAt_A (l := l) (D := D) (cI := cI) (cJ := cJ) N a (st := st) (co := co) (ro := ro) (cA := cA) (cD := cD) (su := su) (jA := jA) (jD := jD) (p1 := v3) hC H.size) (cwV 1 hts gX1_corridorsOf_X0_beginsAt rfl rfl rfl (by decide +kernel) ⟨Nat.le_of_ble_eq_true rfl, Nat.le_of_ble_eq_true rfl⟩) (preV [.int v3] hN hK hP hD (ci := 0) (q0 := 2) rfl rfl) rfl rfl hl.1 rfl (lv_room (Nat.le_of_ble_eq_true rfl)) dX1_corridorsOf_14 ⟨Nat.le_of_ble_eq_true rfl, Nat.le_of_ble_eq_true rfl⟩) hP hS (fun r u H locs hw hP hS => ?_)
        obtain ⟨hw, hz14⟩ := hw
        rw [hw] at hz14
        rw [hw]
        refine lv_if_eq (tgt := 23) hx hb dX1_corridorsOf_17 (by decide) (fun hcc => ?_) (fun hcc => ?_)
        · replace hM := it_p hcc hM
          refine lv_iinc (v := (v3 + 1)) (lv' := [(3, .int (v3 + 1)), (0, .ref (a 0)), (1, .ref (a 2)), (2, .int v2)]) hx hb dX1_corridorsOf_23 hl (k := 3) rfl (by rfl) (by decide) rfl (fun ls hl => ?_)
          refine lv_goto (tgt := 4) hx hb dX1_corridorsOf_26 (by decide) ?_
          exact ih v2 (v3 + 1) hM H locs ls hP hS (lv_sub hl [1, 2, 3, 0] rfl)
        · replace hM := it_n hcc hM
          refine lv_iinc (v := (v2 + 1)) (lv' := [(2, .int (v2 + 1)), (0, .ref (a 0)), (1, .ref (a 2)), (3, .int v3)]) hx hb dX1_corridorsOf_20 hl (k := 2) rfl (by rfl) (by decide) rfl (fun ls hl => ?_)
          refine lv_iinc (v := (v3 + 1)) (lv' := [(3, .int (v3 + 1)), (2, .int (v2 + 1)), (0, .ref (a 0)), (1, .ref (a 2))]) hx hb dX1_corridorsOf_23 hl (k := 3) rfl (by rfl) (by decide) rfl (fun ls hl => ?_)
          refine lv_goto (tgt := 4) hx hb dX1_corridorsOf_26 (by decide) ?_
          exact ih (v2 + 1) (v3 + 1) hM H locs ls hP hS (lv_sub hl [2, 3, 1, 0] rfl)
  rw [mX1_corridorsOf] at hM
  refine lv_iconst (v := 0) hx hb dX1_corridorsOf_0 (by decide) ?_
  refine lv_istore_n (lv' := [(2, .int (0 : Int32)), (0, .ref (a 0)), (1, .ref (a 2))]) hx hb dX1_corridorsOf_1 rfl hl (by decide) rfl (fun ls hl => ?_)
  refine lv_iconst (v := 0) hx hb dX1_corridorsOf_2 (by decide) ?_
  refine lv_istore_n (lv' := [(3, .int (0 : Int32)), (2, .int (0 : Int32)), (0, .ref (a 0)), (1, .ref (a 2))]) hx hb dX1_corridorsOf_3 rfl hl (by decide) rfl (fun ls hl => ?_)
  exact c4 N (0 : Int32) (0 : Int32) hM H locs ls hP hS (lv_sub hl [2, 3, 1, 0] rfl)
set_option maxHeartbeats 4000000 in
set_option maxRecDepth 100000 in
theorem kX1_corridorsOf_D {l : Launch} {D : va_G} {cI cJ : ClassId} (N : Nat) (a : Nat → Nat) {st : RowI} {co : Int32} {ro : Int32} {cA : CS} {cD : CS} {su : RowJ} {jA : JT} {jD : JT} {o : Int32} (hM : mX1_corridorsOf N co ro cD = some o) (sz : Nat) : Met l yX1_corridorsOf wsX1_corridorsOf rmX1_corridorsOf (va_Pc [.ref (a 0), .ref (a 3)] (Pre D cI cJ (fw a cI cJ st co ro cA cD su jA jD) sz)) (va_Qi (fun (r : Int32) (_ : Unit) => r = o) (fun _ _ => True) (fun _ => False)) 0 0 (fun _ => False) := by
  refine xofR (cc := cX1_corridorsOf) (maxL := 4) (ret := (some .int)) rfl (by decide) rfl ?_
  intro p e s m args below meth c ls Q A hQ hAe hx hb hr hml hown hts hlocks hN hK H locs hP hD hS hl
  replace hown : s.vm.findClass RX1 = some m.cls := hown
  replace hl : lv_has ls 4 [(0, .ref (a 0)), (1, .ref (a 3))] := hl
  have c4 : ∀ (n : Nat), ∀ (v2 : Int32) (v3 : Int32), mX1_corridorsOf_4 N co ro cD n v2 v3 = some o → ∀ (H : Heap) (locs : List Loc) (ls : Array Slot), va_P D vwCl (fw a cI cJ st co ro cA cD su jA jD) H → va_S A s.heap H locs → lv_has ls 4 [(0, .ref (a 0)), (1, .ref (a 3)), (2, .int v2), (3, .int v3)] → W p l e rmX1_corridorsOf s m args below meth c H locs 0 0 Q (F0 m 4 ls []) := by
    intro n
    induction n with
    | zero =>
      intro v2 v3 hM
      rw [mX1_corridorsOf_4] at hM
      cases hM
    | succ n ih =>
      intro v2 v3 hM H locs ls hP hS hl
      rw [mX1_corridorsOf_4] at hM
      refine lv_iload_n hx hb dX1_corridorsOf_4 rfl (lv_at hl 3 rfl) ?_
      refine lv_aload_n hx hb dX1_corridorsOf_5 rfl (lv_at hl 0 rfl) ?_
      obtain ⟨x6, hC, hM⟩ := bd_s hM
      refine cR_i (va_runV (As := []) (rest := [.int v3]) ⟨hx, hb, hml, hown, hts⟩ (kX1_cells (l := l) (D := D) (cI := cI) (cJ := cJ) N a (st := st) (co := co) (ro := ro) (cA := cA) (cD := cD) (su := su) (jA := jA) (jD := jD) hC H.size) (cwV 0 hts gX1_corridorsOf_X1_cells rfl rfl rfl (by decide +kernel) ⟨Nat.le_of_ble_eq_true rfl, Nat.le_of_ble_eq_true rfl⟩) (preV [] hN hK hP hD (ci := 1) (q0 := 0) rfl rfl) rfl rfl hl.1 rfl (lv_room (Nat.le_of_ble_eq_true rfl)) dX1_corridorsOf_6 ⟨Nat.le_of_ble_eq_true rfl, Nat.le_of_ble_eq_true rfl⟩) hP hS (fun r u H locs hw hP hS => ?_)
      rw [hw]
      refine lv_icmp_ge (tgt := 29) hx hb dX1_corridorsOf_9 (by decide) (fun hcc => ?_) (fun hcc => ?_)
      · replace hM := it_p hcc hM
        refine lv_iload_n hx hb dX1_corridorsOf_29 rfl (lv_at hl 2 rfl) ?_
        obtain rfl := Option.some.inj hM
        subst hQ hAe
        exact W.iret (v := v2) hx hb hr (fun t ht hW => ⟨⟨v2, (), rfl, rfl, trivial⟩, hS.F ht⟩) hS.2.2 dX1_corridorsOf_30
      · replace hM := it_n hcc hM
        refine lv_aload_n hx hb dX1_corridorsOf_12 rfl (lv_at hl 1 rfl) ?_
        refine lv_iload_n hx hb dX1_corridorsOf_13 rfl (lv_at hl 3 rfl) ?_
        obtain ⟨x14, hC, hM⟩ := bd_s hM
        refine cR_i (va_runV (As := [.int v3]) (rest := []) ⟨hx, hb, hml, hown, hts⟩ (kX0_beginsAt_D (l := l) (D := D) (cI := cI) (cJ := cJ) N a (st := st) (co := co) (ro := ro) (cA := cA) (cD := cD) (su := su) (jA := jA) (jD := jD) (p1 := v3) hC H.size) (cwV 1 hts gX1_corridorsOf_X0_beginsAt rfl rfl rfl (by decide +kernel) ⟨Nat.le_of_ble_eq_true rfl, Nat.le_of_ble_eq_true rfl⟩) (preV [.int v3] hN hK hP hD (ci := 0) (q0 := 3) rfl rfl) rfl rfl hl.1 rfl (lv_room (Nat.le_of_ble_eq_true rfl)) dX1_corridorsOf_14 ⟨Nat.le_of_ble_eq_true rfl, Nat.le_of_ble_eq_true rfl⟩) hP hS (fun r u H locs hw hP hS => ?_)
        obtain ⟨hw, hz14⟩ := hw
        rw [hw] at hz14
        rw [hw]
        refine lv_if_eq (tgt := 23) hx hb dX1_corridorsOf_17 (by decide) (fun hcc => ?_) (fun hcc => ?_)
        · replace hM := it_p hcc hM
          refine lv_iinc (v := (v3 + 1)) (lv' := [(3, .int (v3 + 1)), (0, .ref (a 0)), (1, .ref (a 3)), (2, .int v2)]) hx hb dX1_corridorsOf_23 hl (k := 3) rfl (by rfl) (by decide) rfl (fun ls hl => ?_)
          refine lv_goto (tgt := 4) hx hb dX1_corridorsOf_26 (by decide) ?_
          exact ih v2 (v3 + 1) hM H locs ls hP hS (lv_sub hl [1, 2, 3, 0] rfl)
        · replace hM := it_n hcc hM
          refine lv_iinc (v := (v2 + 1)) (lv' := [(2, .int (v2 + 1)), (0, .ref (a 0)), (1, .ref (a 3)), (3, .int v3)]) hx hb dX1_corridorsOf_20 hl (k := 2) rfl (by rfl) (by decide) rfl (fun ls hl => ?_)
          refine lv_iinc (v := (v3 + 1)) (lv' := [(3, .int (v3 + 1)), (2, .int (v2 + 1)), (0, .ref (a 0)), (1, .ref (a 3))]) hx hb dX1_corridorsOf_23 hl (k := 3) rfl (by rfl) (by decide) rfl (fun ls hl => ?_)
          refine lv_goto (tgt := 4) hx hb dX1_corridorsOf_26 (by decide) ?_
          exact ih (v2 + 1) (v3 + 1) hM H locs ls hP hS (lv_sub hl [2, 3, 1, 0] rfl)
  rw [mX1_corridorsOf] at hM
  refine lv_iconst (v := 0) hx hb dX1_corridorsOf_0 (by decide) ?_
  refine lv_istore_n (lv' := [(2, .int (0 : Int32)), (0, .ref (a 0)), (1, .ref (a 3))]) hx hb dX1_corridorsOf_1 rfl hl (by decide) rfl (fun ls hl => ?_)
  refine lv_iconst (v := 0) hx hb dX1_corridorsOf_2 (by decide) ?_
  refine lv_istore_n (lv' := [(3, .int (0 : Int32)), (2, .int (0 : Int32)), (0, .ref (a 0)), (1, .ref (a 3))]) hx hb dX1_corridorsOf_3 rfl hl (by decide) rfl (fun ls hl => ?_)
  exact c4 N (0 : Int32) (0 : Int32) hM H locs ls hP hS (lv_sub hl [2, 3, 1, 0] rfl)
def mX1_wellOf_4 (N : Nat) (st : RowI) (co : Int32) (ro : Int32) (cA : CS) (su : RowJ) : Nat → Int32 → Int32 → Option Int32
  | 0 => fun _ _ => none
  | n + 1 => fun v2 v3 => ((mX1_cells N co ro).bind fun x6 =>
  (if x6 ≤ v3 then
  some v2
  else
  ((mX0_beginsAt N cA v3).bind fun x14 =>
  (if x14 = 0 then
  (mX1_wellOf_4 N st co ro cA su n v2 (v3 + 1))
  else
  ((mX0_isWellFrom N st cA su v3).bind fun x22 =>
  (if x22 = 0 then
  (mX1_wellOf_4 N st co ro cA su n v2 (v3 + 1))
  else
  (mX1_wellOf_4 N st co ro cA su n (v2 + 1) (v3 + 1))))))))
def mX1_wellOf (N : Nat) (st : RowI) (co : Int32) (ro : Int32) (cA : CS) (su : RowJ) : Option Int32 :=
  (mX1_wellOf_4 N st co ro cA su N (0 : Int32) (0 : Int32))
abbrev rmX1_wellOf : Room := { frames := 3, cells := 0, slots := 0, locals := 68 }
set_option maxHeartbeats 4000000 in
set_option maxRecDepth 100000 in
theorem kX1_wellOf_A {l : Launch} {D : va_G} {cI cJ : ClassId} (N : Nat) (a : Nat → Nat) {st : RowI} {co : Int32} {ro : Int32} {cA : CS} {cD : CS} {su : RowJ} {jA : JT} {jD : JT} {o : Int32} (hM : mX1_wellOf N st co ro cA su = some o) (sz : Nat) : Met l yX1_wellOf wsX1_wellOf rmX1_wellOf (va_Pc [.ref (a 0), .ref (a 2)] (Pre D cI cJ (fw a cI cJ st co ro cA cD su jA jD) sz)) (va_Qi (fun (r : Int32) (_ : JT × JT) => r = o) (aft D (fw a cI cJ st co ro cA cD su jA jD) sz (fun (u : JT × JT) => (fw a cI cJ st co ro cA cD su u.1 u.2))) (va_A (fw a cI cJ st co ro cA cD su jA jD) sz)) 0 0 (va_A (fw a cI cJ st co ro cA cD su jA jD) sz) := by
  refine xofW (cc := cX1_wellOf) (maxL := 4) (ret := (some .int)) rfl (by decide) rfl ?_
  intro p e s m args below meth c ls Q A hQ hAe hx hb hr hml hown hts hlocks hnm hN hK H locs hP hD hS hA hl
  replace hown : s.vm.findClass RX1 = some m.cls := hown
  replace hl : lv_has ls 4 [(0, .ref (a 0)), (1, .ref (a 2))] := hl
  have c4 : ∀ (n : Nat), ∀ (v2 : Int32) (v3 : Int32), mX1_wellOf_4 N st co ro cA su n v2 v3 = some o → ∀ (jA' : JT) (jD' : JT) (H : Heap) (locs : List Loc) (ls : Array Slot), va_P D vwCl (fw a cI cJ st co ro cA cD su jA' jD') H → va_D A (fw a cI cJ st co ro cA cD su jA' jD') → va_S A s.heap H locs → lv_has ls 4 [(0, .ref (a 0)), (1, .ref (a 2)), (2, .int v2), (3, .int v3)] → W p l e rmX1_wellOf s m args below meth c H locs 0 0 Q (F0 m 4 ls []) := by
    intro n
    induction n with
    | zero =>
      intro v2 v3 hM
      rw [mX1_wellOf_4] at hM
      cases hM
    | succ n ih =>
      intro v2 v3 hM jA' jD' H locs ls hP hD hS hl
      rw [mX1_wellOf_4] at hM
      refine lv_iload_n hx hb dX1_wellOf_4 rfl (lv_at hl 3 rfl) ?_
      refine lv_aload_n hx hb dX1_wellOf_5 rfl (lv_at hl 0 rfl) ?_
      obtain ⟨x6, hC, hM⟩ := bd_s hM
      refine cR_i (va_runV (As := []) (rest := [.int v3]) ⟨hx, hb, hml, hown, hts⟩ (kX1_cells (l := l) (D := D) (cI := cI) (cJ := cJ) N a (st := st) (co := co) (ro := ro) (cA := cA) (cD := cD) (su := su) (jA := jA') (jD := jD') hC H.size) (cwV 0 hts gX1_wellOf_X1_cells rfl rfl rfl (by decide +kernel) ⟨Nat.le_of_ble_eq_true rfl, Nat.le_of_ble_eq_true rfl⟩) (preV [] hN hK hP hD (ci := 1) (q0 := 0) rfl rfl) rfl rfl hl.1 rfl (lv_room (Nat.le_of_ble_eq_true rfl)) dX1_wellOf_6 ⟨Nat.le_of_ble_eq_true rfl, Nat.le_of_ble_eq_true rfl⟩) hP hS (fun r u H locs hw hP hS => ?_)
      rw [hw]
      refine lv_icmp_ge (tgt := 37) hx hb dX1_wellOf_9 (by decide) (fun hcc => ?_) (fun hcc => ?_)
      · replace hM := it_p hcc hM
        refine lv_iload_n hx hb dX1_wellOf_37 rfl (lv_at hl 2 rfl) ?_
        obtain rfl := Option.some.inj hM
        subst hQ hAe
        exact W.iret (v := v2) hx hb hr (fun t ht hW => ⟨⟨v2, (jA', jD'), rfl, rfl, ⟨by rw [ht]; exact hP, hD⟩⟩, hS.F ht⟩) hS.2.2 dX1_wellOf_38
      · replace hM := it_n hcc hM
        refine lv_aload_n hx hb dX1_wellOf_12 rfl (lv_at hl 1 rfl) ?_
        refine lv_iload_n hx hb dX1_wellOf_13 rfl (lv_at hl 3 rfl) ?_
        obtain ⟨x14, hC, hM⟩ := bd_s hM
        refine cR_i (va_runV (As := [.int v3]) (rest := []) ⟨hx, hb, hml, hown, hts⟩ (kX0_beginsAt_A (l := l) (D := D) (cI := cI) (cJ := cJ) N a (st := st) (co := co) (ro := ro) (cA := cA) (cD := cD) (su := su) (jA := jA') (jD := jD') (p1 := v3) hC H.size) (cwV 1 hts gX1_wellOf_X0_beginsAt rfl rfl rfl (by decide +kernel) ⟨Nat.le_of_ble_eq_true rfl, Nat.le_of_ble_eq_true rfl⟩) (preV [.int v3] hN hK hP hD (ci := 0) (q0 := 2) rfl rfl) rfl rfl hl.1 rfl (lv_room (Nat.le_of_ble_eq_true rfl)) dX1_wellOf_14 ⟨Nat.le_of_ble_eq_true rfl, Nat.le_of_ble_eq_true rfl⟩) hP hS (fun r u H locs hw hP hS => ?_)
        obtain ⟨hw, hz14⟩ := hw
        rw [hw] at hz14
        rw [hw]
        refine lv_if_eq (tgt := 31) hx hb dX1_wellOf_17 (by decide) (fun hcc => ?_) (fun hcc => ?_)
        · replace hM := it_p hcc hM
          refine lv_iinc (v := (v3 + 1)) (lv' := [(3, .int (v3 + 1)), (0, .ref (a 0)), (1, .ref (a 2)), (2, .int v2)]) hx hb dX1_wellOf_31 hl (k := 3) rfl (by rfl) (by decide) rfl (fun ls hl => ?_)
          refine lv_goto (tgt := 4) hx hb dX1_wellOf_34 (by decide) ?_
          exact ih v2 (v3 + 1) hM jA' jD' H locs ls hP hD hS (lv_sub hl [1, 2, 3, 0] rfl)
        · replace hM := it_n hcc hM
          refine lv_aload_n hx hb dX1_wellOf_20 rfl (lv_at hl 1 rfl) ?_
          refine lv_iload_n hx hb dX1_wellOf_21 rfl (lv_at hl 3 rfl) ?_
          obtain ⟨x22, hC, hM⟩ := bd_s hM
          refine cW_i [0, 1, 2, 3, 4, 5, 6, 7, 8, 9, 10, 11] [] (va_runV (As := [.int v3]) (rest := []) ⟨hx, hb, hml, hown, hts⟩ (kX0_isWellFrom_A (l := l) (D := D) (cI := cI) (cJ := cJ) N a (st := st) (co := co) (ro := ro) (cA := cA) (cD := cD) (su := su) (jA := jA') (jD := jD') (p1 := v3) hC H.size) (cwV 1 hts gX1_wellOf_X0_isWellFrom rfl rfl rfl (by decide +kernel) ⟨Nat.le_of_ble_eq_true rfl, Nat.le_of_ble_eq_true rfl⟩) (preV [.int v3] hN hK hP hD (ci := 0) (q0 := 2) rfl rfl) rfl rfl hl.1 rfl (lv_room (Nat.le_of_ble_eq_true rfl)) dX1_wellOf_22 ⟨Nat.le_of_ble_eq_true rfl, Nat.le_of_ble_eq_true rfl⟩) hP hD hS hA rfl (wr := []) rfl (by decide) (by decide) (fun r u22 H locs hw hP hD hS => ?_)
          replace hP : va_P D vwCl (fw a cI cJ st co ro cA cD su u22.1 u22.2) H := hP
          replace hD : va_D A (fw a cI cJ st co ro cA cD su u22.1 u22.2) := hD
          obtain ⟨hw, hz22⟩ := hw
          rw [hw] at hz22
          rw [hw]
          refine lv_if_eq (tgt := 31) hx hb dX1_wellOf_25 (by decide) (fun hcc => ?_) (fun hcc => ?_)
          · replace hM := it_p hcc hM
            refine lv_iinc (v := (v3 + 1)) (lv' := [(3, .int (v3 + 1)), (0, .ref (a 0)), (1, .ref (a 2)), (2, .int v2)]) hx hb dX1_wellOf_31 hl (k := 3) rfl (by rfl) (by decide) rfl (fun ls hl => ?_)
            refine lv_goto (tgt := 4) hx hb dX1_wellOf_34 (by decide) ?_
            exact ih v2 (v3 + 1) hM u22.1 u22.2 H locs ls hP hD hS (lv_sub hl [1, 2, 3, 0] rfl)
          · replace hM := it_n hcc hM
            refine lv_iinc (v := (v2 + 1)) (lv' := [(2, .int (v2 + 1)), (0, .ref (a 0)), (1, .ref (a 2)), (3, .int v3)]) hx hb dX1_wellOf_28 hl (k := 2) rfl (by rfl) (by decide) rfl (fun ls hl => ?_)
            refine lv_iinc (v := (v3 + 1)) (lv' := [(3, .int (v3 + 1)), (2, .int (v2 + 1)), (0, .ref (a 0)), (1, .ref (a 2))]) hx hb dX1_wellOf_31 hl (k := 3) rfl (by rfl) (by decide) rfl (fun ls hl => ?_)
            refine lv_goto (tgt := 4) hx hb dX1_wellOf_34 (by decide) ?_
            exact ih (v2 + 1) (v3 + 1) hM u22.1 u22.2 H locs ls hP hD hS (lv_sub hl [2, 3, 1, 0] rfl)
  rw [mX1_wellOf] at hM
  refine lv_iconst (v := 0) hx hb dX1_wellOf_0 (by decide) ?_
  refine lv_istore_n (lv' := [(2, .int (0 : Int32)), (0, .ref (a 0)), (1, .ref (a 2))]) hx hb dX1_wellOf_1 rfl hl (by decide) rfl (fun ls hl => ?_)
  refine lv_iconst (v := 0) hx hb dX1_wellOf_2 (by decide) ?_
  refine lv_istore_n (lv' := [(3, .int (0 : Int32)), (2, .int (0 : Int32)), (0, .ref (a 0)), (1, .ref (a 2))]) hx hb dX1_wellOf_3 rfl hl (by decide) rfl (fun ls hl => ?_)
  exact c4 N (0 : Int32) (0 : Int32) hM jA jD H locs ls hP hD hS (lv_sub hl [2, 3, 1, 0] rfl)
set_option maxHeartbeats 4000000 in
set_option maxRecDepth 100000 in
theorem kX1_wellOf_D {l : Launch} {D : va_G} {cI cJ : ClassId} (N : Nat) (a : Nat → Nat) {st : RowI} {co : Int32} {ro : Int32} {cA : CS} {cD : CS} {su : RowJ} {jA : JT} {jD : JT} {o : Int32} (hM : mX1_wellOf N st co ro cD su = some o) (sz : Nat) : Met l yX1_wellOf wsX1_wellOf rmX1_wellOf (va_Pc [.ref (a 0), .ref (a 3)] (Pre D cI cJ (fw a cI cJ st co ro cA cD su jA jD) sz)) (va_Qi (fun (r : Int32) (_ : JT × JT) => r = o) (aft D (fw a cI cJ st co ro cA cD su jA jD) sz (fun (u : JT × JT) => (fw a cI cJ st co ro cA cD su u.1 u.2))) (va_A (fw a cI cJ st co ro cA cD su jA jD) sz)) 0 0 (va_A (fw a cI cJ st co ro cA cD su jA jD) sz) := by
  refine xofW (cc := cX1_wellOf) (maxL := 4) (ret := (some .int)) rfl (by decide) rfl ?_
  intro p e s m args below meth c ls Q A hQ hAe hx hb hr hml hown hts hlocks hnm hN hK H locs hP hD hS hA hl
  replace hown : s.vm.findClass RX1 = some m.cls := hown
  replace hl : lv_has ls 4 [(0, .ref (a 0)), (1, .ref (a 3))] := hl
  have c4 : ∀ (n : Nat), ∀ (v2 : Int32) (v3 : Int32), mX1_wellOf_4 N st co ro cD su n v2 v3 = some o → ∀ (jA' : JT) (jD' : JT) (H : Heap) (locs : List Loc) (ls : Array Slot), va_P D vwCl (fw a cI cJ st co ro cA cD su jA' jD') H → va_D A (fw a cI cJ st co ro cA cD su jA' jD') → va_S A s.heap H locs → lv_has ls 4 [(0, .ref (a 0)), (1, .ref (a 3)), (2, .int v2), (3, .int v3)] → W p l e rmX1_wellOf s m args below meth c H locs 0 0 Q (F0 m 4 ls []) := by
    intro n
    induction n with
    | zero =>
      intro v2 v3 hM
      rw [mX1_wellOf_4] at hM
      cases hM
    | succ n ih =>
      intro v2 v3 hM jA' jD' H locs ls hP hD hS hl
      rw [mX1_wellOf_4] at hM
      refine lv_iload_n hx hb dX1_wellOf_4 rfl (lv_at hl 3 rfl) ?_
      refine lv_aload_n hx hb dX1_wellOf_5 rfl (lv_at hl 0 rfl) ?_
      obtain ⟨x6, hC, hM⟩ := bd_s hM
      refine cR_i (va_runV (As := []) (rest := [.int v3]) ⟨hx, hb, hml, hown, hts⟩ (kX1_cells (l := l) (D := D) (cI := cI) (cJ := cJ) N a (st := st) (co := co) (ro := ro) (cA := cA) (cD := cD) (su := su) (jA := jA') (jD := jD') hC H.size) (cwV 0 hts gX1_wellOf_X1_cells rfl rfl rfl (by decide +kernel) ⟨Nat.le_of_ble_eq_true rfl, Nat.le_of_ble_eq_true rfl⟩) (preV [] hN hK hP hD (ci := 1) (q0 := 0) rfl rfl) rfl rfl hl.1 rfl (lv_room (Nat.le_of_ble_eq_true rfl)) dX1_wellOf_6 ⟨Nat.le_of_ble_eq_true rfl, Nat.le_of_ble_eq_true rfl⟩) hP hS (fun r u H locs hw hP hS => ?_)
      rw [hw]
      refine lv_icmp_ge (tgt := 37) hx hb dX1_wellOf_9 (by decide) (fun hcc => ?_) (fun hcc => ?_)
      · replace hM := it_p hcc hM
        refine lv_iload_n hx hb dX1_wellOf_37 rfl (lv_at hl 2 rfl) ?_
        obtain rfl := Option.some.inj hM
        subst hQ hAe
        exact W.iret (v := v2) hx hb hr (fun t ht hW => ⟨⟨v2, (jA', jD'), rfl, rfl, ⟨by rw [ht]; exact hP, hD⟩⟩, hS.F ht⟩) hS.2.2 dX1_wellOf_38
      · replace hM := it_n hcc hM
        refine lv_aload_n hx hb dX1_wellOf_12 rfl (lv_at hl 1 rfl) ?_
        refine lv_iload_n hx hb dX1_wellOf_13 rfl (lv_at hl 3 rfl) ?_
        obtain ⟨x14, hC, hM⟩ := bd_s hM
        refine cR_i (va_runV (As := [.int v3]) (rest := []) ⟨hx, hb, hml, hown, hts⟩ (kX0_beginsAt_D (l := l) (D := D) (cI := cI) (cJ := cJ) N a (st := st) (co := co) (ro := ro) (cA := cA) (cD := cD) (su := su) (jA := jA') (jD := jD') (p1 := v3) hC H.size) (cwV 1 hts gX1_wellOf_X0_beginsAt rfl rfl rfl (by decide +kernel) ⟨Nat.le_of_ble_eq_true rfl, Nat.le_of_ble_eq_true rfl⟩) (preV [.int v3] hN hK hP hD (ci := 0) (q0 := 3) rfl rfl) rfl rfl hl.1 rfl (lv_room (Nat.le_of_ble_eq_true rfl)) dX1_wellOf_14 ⟨Nat.le_of_ble_eq_true rfl, Nat.le_of_ble_eq_true rfl⟩) hP hS (fun r u H locs hw hP hS => ?_)
        obtain ⟨hw, hz14⟩ := hw
        rw [hw] at hz14
        rw [hw]
        refine lv_if_eq (tgt := 31) hx hb dX1_wellOf_17 (by decide) (fun hcc => ?_) (fun hcc => ?_)
        · replace hM := it_p hcc hM
          refine lv_iinc (v := (v3 + 1)) (lv' := [(3, .int (v3 + 1)), (0, .ref (a 0)), (1, .ref (a 3)), (2, .int v2)]) hx hb dX1_wellOf_31 hl (k := 3) rfl (by rfl) (by decide) rfl (fun ls hl => ?_)
          refine lv_goto (tgt := 4) hx hb dX1_wellOf_34 (by decide) ?_
          exact ih v2 (v3 + 1) hM jA' jD' H locs ls hP hD hS (lv_sub hl [1, 2, 3, 0] rfl)
        · replace hM := it_n hcc hM
          refine lv_aload_n hx hb dX1_wellOf_20 rfl (lv_at hl 1 rfl) ?_
          refine lv_iload_n hx hb dX1_wellOf_21 rfl (lv_at hl 3 rfl) ?_
          obtain ⟨x22, hC, hM⟩ := bd_s hM
          refine cW_i [0, 1, 2, 3, 4, 5, 6, 7, 8, 9, 10, 11] [] (va_runV (As := [.int v3]) (rest := []) ⟨hx, hb, hml, hown, hts⟩ (kX0_isWellFrom_D (l := l) (D := D) (cI := cI) (cJ := cJ) N a (st := st) (co := co) (ro := ro) (cA := cA) (cD := cD) (su := su) (jA := jA') (jD := jD') (p1 := v3) hC H.size) (cwV 1 hts gX1_wellOf_X0_isWellFrom rfl rfl rfl (by decide +kernel) ⟨Nat.le_of_ble_eq_true rfl, Nat.le_of_ble_eq_true rfl⟩) (preV [.int v3] hN hK hP hD (ci := 0) (q0 := 3) rfl rfl) rfl rfl hl.1 rfl (lv_room (Nat.le_of_ble_eq_true rfl)) dX1_wellOf_22 ⟨Nat.le_of_ble_eq_true rfl, Nat.le_of_ble_eq_true rfl⟩) hP hD hS hA rfl (wr := []) rfl (by decide) (by decide) (fun r u22 H locs hw hP hD hS => ?_)
          replace hP : va_P D vwCl (fw a cI cJ st co ro cA cD su u22.1 u22.2) H := hP
          replace hD : va_D A (fw a cI cJ st co ro cA cD su u22.1 u22.2) := hD
          obtain ⟨hw, hz22⟩ := hw
          rw [hw] at hz22
          rw [hw]
          refine lv_if_eq (tgt := 31) hx hb dX1_wellOf_25 (by decide) (fun hcc => ?_) (fun hcc => ?_)
          · replace hM := it_p hcc hM
            refine lv_iinc (v := (v3 + 1)) (lv' := [(3, .int (v3 + 1)), (0, .ref (a 0)), (1, .ref (a 3)), (2, .int v2)]) hx hb dX1_wellOf_31 hl (k := 3) rfl (by rfl) (by decide) rfl (fun ls hl => ?_)
            refine lv_goto (tgt := 4) hx hb dX1_wellOf_34 (by decide) ?_
            exact ih v2 (v3 + 1) hM u22.1 u22.2 H locs ls hP hD hS (lv_sub hl [1, 2, 3, 0] rfl)
          · replace hM := it_n hcc hM
            refine lv_iinc (v := (v2 + 1)) (lv' := [(2, .int (v2 + 1)), (0, .ref (a 0)), (1, .ref (a 3)), (3, .int v3)]) hx hb dX1_wellOf_28 hl (k := 2) rfl (by rfl) (by decide) rfl (fun ls hl => ?_)
            refine lv_iinc (v := (v3 + 1)) (lv' := [(3, .int (v3 + 1)), (2, .int (v2 + 1)), (0, .ref (a 0)), (1, .ref (a 3))]) hx hb dX1_wellOf_31 hl (k := 3) rfl (by rfl) (by decide) rfl (fun ls hl => ?_)
            refine lv_goto (tgt := 4) hx hb dX1_wellOf_34 (by decide) ?_
            exact ih (v2 + 1) (v3 + 1) hM u22.1 u22.2 H locs ls hP hD hS (lv_sub hl [2, 3, 1, 0] rfl)
  rw [mX1_wellOf] at hM
  refine lv_iconst (v := 0) hx hb dX1_wellOf_0 (by decide) ?_
  refine lv_istore_n (lv' := [(2, .int (0 : Int32)), (0, .ref (a 0)), (1, .ref (a 3))]) hx hb dX1_wellOf_1 rfl hl (by decide) rfl (fun ls hl => ?_)
  refine lv_iconst (v := 0) hx hb dX1_wellOf_2 (by decide) ?_
  refine lv_istore_n (lv' := [(3, .int (0 : Int32)), (2, .int (0 : Int32)), (0, .ref (a 0)), (1, .ref (a 3))]) hx hb dX1_wellOf_3 rfl hl (by decide) rfl (fun ls hl => ?_)
  exact c4 N (0 : Int32) (0 : Int32) hM jA jD H locs ls hP hD hS (lv_sub hl [2, 3, 1, 0] rfl)
def mX1_summedOf_4 (N : Nat) (co : Int32) (ro : Int32) (cA : CS) : Nat → Int32 → Int32 → Option Int32
  | 0 => fun _ _ => none
  | n + 1 => fun v2 v3 => ((mX1_cells N co ro).bind fun x6 =>
  (if x6 ≤ v3 then
  some v2
  else
  ((mX0_beginsAt N cA v3).bind fun x14 =>
  (if x14 = 0 then
  (mX1_summedOf_4 N co ro cA n v2 (v3 + 1))
  else
  ((mX0_toldAt N cA v3).bind fun x22 =>
  (if x22 ≤ 0 then
  (mX1_summedOf_4 N co ro cA n v2 (v3 + 1))
  else
  (mX1_summedOf_4 N co ro cA n (v2 + 1) (v3 + 1))))))))
def mX1_summedOf (N : Nat) (co : Int32) (ro : Int32) (cA : CS) : Option Int32 :=
  (mX1_summedOf_4 N co ro cA N (0 : Int32) (0 : Int32))
abbrev rmX1_summedOf : Room := { frames := 2, cells := 0, slots := 0, locals := 42 }
set_option maxHeartbeats 4000000 in
set_option maxRecDepth 100000 in
theorem kX1_summedOf_A {l : Launch} {D : va_G} {cI cJ : ClassId} (N : Nat) (a : Nat → Nat) {st : RowI} {co : Int32} {ro : Int32} {cA : CS} {cD : CS} {su : RowJ} {jA : JT} {jD : JT} {o : Int32} (hM : mX1_summedOf N co ro cA = some o) (sz : Nat) : Met l yX1_summedOf wsX1_summedOf rmX1_summedOf (va_Pc [.ref (a 0), .ref (a 2)] (Pre D cI cJ (fw a cI cJ st co ro cA cD su jA jD) sz)) (va_Qi (fun (r : Int32) (_ : Unit) => r = o) (fun _ _ => True) (fun _ => False)) 0 0 (fun _ => False) := by
  refine xofR (cc := cX1_summedOf) (maxL := 4) (ret := (some .int)) rfl (by decide) rfl ?_
  intro p e s m args below meth c ls Q A hQ hAe hx hb hr hml hown hts hlocks hN hK H locs hP hD hS hl
  replace hown : s.vm.findClass RX1 = some m.cls := hown
  replace hl : lv_has ls 4 [(0, .ref (a 0)), (1, .ref (a 2))] := hl
  have c4 : ∀ (n : Nat), ∀ (v2 : Int32) (v3 : Int32), mX1_summedOf_4 N co ro cA n v2 v3 = some o → ∀ (H : Heap) (locs : List Loc) (ls : Array Slot), va_P D vwCl (fw a cI cJ st co ro cA cD su jA jD) H → va_S A s.heap H locs → lv_has ls 4 [(0, .ref (a 0)), (1, .ref (a 2)), (2, .int v2), (3, .int v3)] → W p l e rmX1_summedOf s m args below meth c H locs 0 0 Q (F0 m 4 ls []) := by
    intro n
    induction n with
    | zero =>
      intro v2 v3 hM
      rw [mX1_summedOf_4] at hM
      cases hM
    | succ n ih =>
      intro v2 v3 hM H locs ls hP hS hl
      rw [mX1_summedOf_4] at hM
      refine lv_iload_n hx hb dX1_summedOf_4 rfl (lv_at hl 3 rfl) ?_
      refine lv_aload_n hx hb dX1_summedOf_5 rfl (lv_at hl 0 rfl) ?_
      obtain ⟨x6, hC, hM⟩ := bd_s hM
      refine cR_i (va_runV (As := []) (rest := [.int v3]) ⟨hx, hb, hml, hown, hts⟩ (kX1_cells (l := l) (D := D) (cI := cI) (cJ := cJ) N a (st := st) (co := co) (ro := ro) (cA := cA) (cD := cD) (su := su) (jA := jA) (jD := jD) hC H.size) (cwV 0 hts gX1_summedOf_X1_cells rfl rfl rfl (by decide +kernel) ⟨Nat.le_of_ble_eq_true rfl, Nat.le_of_ble_eq_true rfl⟩) (preV [] hN hK hP hD (ci := 1) (q0 := 0) rfl rfl) rfl rfl hl.1 rfl (lv_room (Nat.le_of_ble_eq_true rfl)) dX1_summedOf_6 ⟨Nat.le_of_ble_eq_true rfl, Nat.le_of_ble_eq_true rfl⟩) hP hS (fun r u H locs hw hP hS => ?_)
      rw [hw]
      refine lv_icmp_ge (tgt := 37) hx hb dX1_summedOf_9 (by decide) (fun hcc => ?_) (fun hcc => ?_)
      · replace hM := it_p hcc hM
        refine lv_iload_n hx hb dX1_summedOf_37 rfl (lv_at hl 2 rfl) ?_
        obtain rfl := Option.some.inj hM
        subst hQ hAe
        exact W.iret (v := v2) hx hb hr (fun t ht hW => ⟨⟨v2, (), rfl, rfl, trivial⟩, hS.F ht⟩) hS.2.2 dX1_summedOf_38
      · replace hM := it_n hcc hM
        refine lv_aload_n hx hb dX1_summedOf_12 rfl (lv_at hl 1 rfl) ?_
        refine lv_iload_n hx hb dX1_summedOf_13 rfl (lv_at hl 3 rfl) ?_
        obtain ⟨x14, hC, hM⟩ := bd_s hM
        refine cR_i (va_runV (As := [.int v3]) (rest := []) ⟨hx, hb, hml, hown, hts⟩ (kX0_beginsAt_A (l := l) (D := D) (cI := cI) (cJ := cJ) N a (st := st) (co := co) (ro := ro) (cA := cA) (cD := cD) (su := su) (jA := jA) (jD := jD) (p1 := v3) hC H.size) (cwV 1 hts gX1_summedOf_X0_beginsAt rfl rfl rfl (by decide +kernel) ⟨Nat.le_of_ble_eq_true rfl, Nat.le_of_ble_eq_true rfl⟩) (preV [.int v3] hN hK hP hD (ci := 0) (q0 := 2) rfl rfl) rfl rfl hl.1 rfl (lv_room (Nat.le_of_ble_eq_true rfl)) dX1_summedOf_14 ⟨Nat.le_of_ble_eq_true rfl, Nat.le_of_ble_eq_true rfl⟩) hP hS (fun r u H locs hw hP hS => ?_)
        obtain ⟨hw, hz14⟩ := hw
        rw [hw] at hz14
        rw [hw]
        refine lv_if_eq (tgt := 31) hx hb dX1_summedOf_17 (by decide) (fun hcc => ?_) (fun hcc => ?_)
        · replace hM := it_p hcc hM
          refine lv_iinc (v := (v3 + 1)) (lv' := [(3, .int (v3 + 1)), (0, .ref (a 0)), (1, .ref (a 2)), (2, .int v2)]) hx hb dX1_summedOf_31 hl (k := 3) rfl (by rfl) (by decide) rfl (fun ls hl => ?_)
          refine lv_goto (tgt := 4) hx hb dX1_summedOf_34 (by decide) ?_
          exact ih v2 (v3 + 1) hM H locs ls hP hS (lv_sub hl [1, 2, 3, 0] rfl)
        · replace hM := it_n hcc hM
          refine lv_aload_n hx hb dX1_summedOf_20 rfl (lv_at hl 1 rfl) ?_
          refine lv_iload_n hx hb dX1_summedOf_21 rfl (lv_at hl 3 rfl) ?_
          obtain ⟨x22, hC, hM⟩ := bd_s hM
          refine cR_i (va_runV (As := [.int v3]) (rest := []) ⟨hx, hb, hml, hown, hts⟩ (kX0_toldAt_A (l := l) (D := D) (cI := cI) (cJ := cJ) N a (st := st) (co := co) (ro := ro) (cA := cA) (cD := cD) (su := su) (jA := jA) (jD := jD) (p1 := v3) hC H.size) (cwV 1 hts gX1_summedOf_X0_toldAt rfl rfl rfl (by decide +kernel) ⟨Nat.le_of_ble_eq_true rfl, Nat.le_of_ble_eq_true rfl⟩) (preV [.int v3] hN hK hP hD (ci := 0) (q0 := 2) rfl rfl) rfl rfl hl.1 rfl (lv_room (Nat.le_of_ble_eq_true rfl)) dX1_summedOf_22 ⟨Nat.le_of_ble_eq_true rfl, Nat.le_of_ble_eq_true rfl⟩) hP hS (fun r u H locs hw hP hS => ?_)
          rw [hw]
          refine lv_if_le (tgt := 31) hx hb dX1_summedOf_25 (by decide) (fun hcc => ?_) (fun hcc => ?_)
          · replace hM := it_p hcc hM
            refine lv_iinc (v := (v3 + 1)) (lv' := [(3, .int (v3 + 1)), (0, .ref (a 0)), (1, .ref (a 2)), (2, .int v2)]) hx hb dX1_summedOf_31 hl (k := 3) rfl (by rfl) (by decide) rfl (fun ls hl => ?_)
            refine lv_goto (tgt := 4) hx hb dX1_summedOf_34 (by decide) ?_
            exact ih v2 (v3 + 1) hM H locs ls hP hS (lv_sub hl [1, 2, 3, 0] rfl)
          · replace hM := it_n hcc hM
            refine lv_iinc (v := (v2 + 1)) (lv' := [(2, .int (v2 + 1)), (0, .ref (a 0)), (1, .ref (a 2)), (3, .int v3)]) hx hb dX1_summedOf_28 hl (k := 2) rfl (by rfl) (by decide) rfl (fun ls hl => ?_)
            refine lv_iinc (v := (v3 + 1)) (lv' := [(3, .int (v3 + 1)), (2, .int (v2 + 1)), (0, .ref (a 0)), (1, .ref (a 2))]) hx hb dX1_summedOf_31 hl (k := 3) rfl (by rfl) (by decide) rfl (fun ls hl => ?_)
            refine lv_goto (tgt := 4) hx hb dX1_summedOf_34 (by decide) ?_
            exact ih (v2 + 1) (v3 + 1) hM H locs ls hP hS (lv_sub hl [2, 3, 1, 0] rfl)
  rw [mX1_summedOf] at hM
  refine lv_iconst (v := 0) hx hb dX1_summedOf_0 (by decide) ?_
  refine lv_istore_n (lv' := [(2, .int (0 : Int32)), (0, .ref (a 0)), (1, .ref (a 2))]) hx hb dX1_summedOf_1 rfl hl (by decide) rfl (fun ls hl => ?_)
  refine lv_iconst (v := 0) hx hb dX1_summedOf_2 (by decide) ?_
  refine lv_istore_n (lv' := [(3, .int (0 : Int32)), (2, .int (0 : Int32)), (0, .ref (a 0)), (1, .ref (a 2))]) hx hb dX1_summedOf_3 rfl hl (by decide) rfl (fun ls hl => ?_)
  exact c4 N (0 : Int32) (0 : Int32) hM H locs ls hP hS (lv_sub hl [2, 3, 1, 0] rfl)
set_option maxHeartbeats 4000000 in
set_option maxRecDepth 100000 in
theorem kX1_summedOf_D {l : Launch} {D : va_G} {cI cJ : ClassId} (N : Nat) (a : Nat → Nat) {st : RowI} {co : Int32} {ro : Int32} {cA : CS} {cD : CS} {su : RowJ} {jA : JT} {jD : JT} {o : Int32} (hM : mX1_summedOf N co ro cD = some o) (sz : Nat) : Met l yX1_summedOf wsX1_summedOf rmX1_summedOf (va_Pc [.ref (a 0), .ref (a 3)] (Pre D cI cJ (fw a cI cJ st co ro cA cD su jA jD) sz)) (va_Qi (fun (r : Int32) (_ : Unit) => r = o) (fun _ _ => True) (fun _ => False)) 0 0 (fun _ => False) := by
  refine xofR (cc := cX1_summedOf) (maxL := 4) (ret := (some .int)) rfl (by decide) rfl ?_
  intro p e s m args below meth c ls Q A hQ hAe hx hb hr hml hown hts hlocks hN hK H locs hP hD hS hl
  replace hown : s.vm.findClass RX1 = some m.cls := hown
  replace hl : lv_has ls 4 [(0, .ref (a 0)), (1, .ref (a 3))] := hl
  have c4 : ∀ (n : Nat), ∀ (v2 : Int32) (v3 : Int32), mX1_summedOf_4 N co ro cD n v2 v3 = some o → ∀ (H : Heap) (locs : List Loc) (ls : Array Slot), va_P D vwCl (fw a cI cJ st co ro cA cD su jA jD) H → va_S A s.heap H locs → lv_has ls 4 [(0, .ref (a 0)), (1, .ref (a 3)), (2, .int v2), (3, .int v3)] → W p l e rmX1_summedOf s m args below meth c H locs 0 0 Q (F0 m 4 ls []) := by
    intro n
    induction n with
    | zero =>
      intro v2 v3 hM
      rw [mX1_summedOf_4] at hM
      cases hM
    | succ n ih =>
      intro v2 v3 hM H locs ls hP hS hl
      rw [mX1_summedOf_4] at hM
      refine lv_iload_n hx hb dX1_summedOf_4 rfl (lv_at hl 3 rfl) ?_
      refine lv_aload_n hx hb dX1_summedOf_5 rfl (lv_at hl 0 rfl) ?_
      obtain ⟨x6, hC, hM⟩ := bd_s hM
      refine cR_i (va_runV (As := []) (rest := [.int v3]) ⟨hx, hb, hml, hown, hts⟩ (kX1_cells (l := l) (D := D) (cI := cI) (cJ := cJ) N a (st := st) (co := co) (ro := ro) (cA := cA) (cD := cD) (su := su) (jA := jA) (jD := jD) hC H.size) (cwV 0 hts gX1_summedOf_X1_cells rfl rfl rfl (by decide +kernel) ⟨Nat.le_of_ble_eq_true rfl, Nat.le_of_ble_eq_true rfl⟩) (preV [] hN hK hP hD (ci := 1) (q0 := 0) rfl rfl) rfl rfl hl.1 rfl (lv_room (Nat.le_of_ble_eq_true rfl)) dX1_summedOf_6 ⟨Nat.le_of_ble_eq_true rfl, Nat.le_of_ble_eq_true rfl⟩) hP hS (fun r u H locs hw hP hS => ?_)
      rw [hw]
      refine lv_icmp_ge (tgt := 37) hx hb dX1_summedOf_9 (by decide) (fun hcc => ?_) (fun hcc => ?_)
      · replace hM := it_p hcc hM
        refine lv_iload_n hx hb dX1_summedOf_37 rfl (lv_at hl 2 rfl) ?_
        obtain rfl := Option.some.inj hM
        subst hQ hAe
        exact W.iret (v := v2) hx hb hr (fun t ht hW => ⟨⟨v2, (), rfl, rfl, trivial⟩, hS.F ht⟩) hS.2.2 dX1_summedOf_38
      · replace hM := it_n hcc hM
        refine lv_aload_n hx hb dX1_summedOf_12 rfl (lv_at hl 1 rfl) ?_
        refine lv_iload_n hx hb dX1_summedOf_13 rfl (lv_at hl 3 rfl) ?_
        obtain ⟨x14, hC, hM⟩ := bd_s hM
        refine cR_i (va_runV (As := [.int v3]) (rest := []) ⟨hx, hb, hml, hown, hts⟩ (kX0_beginsAt_D (l := l) (D := D) (cI := cI) (cJ := cJ) N a (st := st) (co := co) (ro := ro) (cA := cA) (cD := cD) (su := su) (jA := jA) (jD := jD) (p1 := v3) hC H.size) (cwV 1 hts gX1_summedOf_X0_beginsAt rfl rfl rfl (by decide +kernel) ⟨Nat.le_of_ble_eq_true rfl, Nat.le_of_ble_eq_true rfl⟩) (preV [.int v3] hN hK hP hD (ci := 0) (q0 := 3) rfl rfl) rfl rfl hl.1 rfl (lv_room (Nat.le_of_ble_eq_true rfl)) dX1_summedOf_14 ⟨Nat.le_of_ble_eq_true rfl, Nat.le_of_ble_eq_true rfl⟩) hP hS (fun r u H locs hw hP hS => ?_)
        obtain ⟨hw, hz14⟩ := hw
        rw [hw] at hz14
        rw [hw]
        refine lv_if_eq (tgt := 31) hx hb dX1_summedOf_17 (by decide) (fun hcc => ?_) (fun hcc => ?_)
        · replace hM := it_p hcc hM
          refine lv_iinc (v := (v3 + 1)) (lv' := [(3, .int (v3 + 1)), (0, .ref (a 0)), (1, .ref (a 3)), (2, .int v2)]) hx hb dX1_summedOf_31 hl (k := 3) rfl (by rfl) (by decide) rfl (fun ls hl => ?_)
          refine lv_goto (tgt := 4) hx hb dX1_summedOf_34 (by decide) ?_
          exact ih v2 (v3 + 1) hM H locs ls hP hS (lv_sub hl [1, 2, 3, 0] rfl)
        · replace hM := it_n hcc hM
          refine lv_aload_n hx hb dX1_summedOf_20 rfl (lv_at hl 1 rfl) ?_
          refine lv_iload_n hx hb dX1_summedOf_21 rfl (lv_at hl 3 rfl) ?_
          obtain ⟨x22, hC, hM⟩ := bd_s hM
          refine cR_i (va_runV (As := [.int v3]) (rest := []) ⟨hx, hb, hml, hown, hts⟩ (kX0_toldAt_D (l := l) (D := D) (cI := cI) (cJ := cJ) N a (st := st) (co := co) (ro := ro) (cA := cA) (cD := cD) (su := su) (jA := jA) (jD := jD) (p1 := v3) hC H.size) (cwV 1 hts gX1_summedOf_X0_toldAt rfl rfl rfl (by decide +kernel) ⟨Nat.le_of_ble_eq_true rfl, Nat.le_of_ble_eq_true rfl⟩) (preV [.int v3] hN hK hP hD (ci := 0) (q0 := 3) rfl rfl) rfl rfl hl.1 rfl (lv_room (Nat.le_of_ble_eq_true rfl)) dX1_summedOf_22 ⟨Nat.le_of_ble_eq_true rfl, Nat.le_of_ble_eq_true rfl⟩) hP hS (fun r u H locs hw hP hS => ?_)
          rw [hw]
          refine lv_if_le (tgt := 31) hx hb dX1_summedOf_25 (by decide) (fun hcc => ?_) (fun hcc => ?_)
          · replace hM := it_p hcc hM
            refine lv_iinc (v := (v3 + 1)) (lv' := [(3, .int (v3 + 1)), (0, .ref (a 0)), (1, .ref (a 3)), (2, .int v2)]) hx hb dX1_summedOf_31 hl (k := 3) rfl (by rfl) (by decide) rfl (fun ls hl => ?_)
            refine lv_goto (tgt := 4) hx hb dX1_summedOf_34 (by decide) ?_
            exact ih v2 (v3 + 1) hM H locs ls hP hS (lv_sub hl [1, 2, 3, 0] rfl)
          · replace hM := it_n hcc hM
            refine lv_iinc (v := (v2 + 1)) (lv' := [(2, .int (v2 + 1)), (0, .ref (a 0)), (1, .ref (a 3)), (3, .int v3)]) hx hb dX1_summedOf_28 hl (k := 2) rfl (by rfl) (by decide) rfl (fun ls hl => ?_)
            refine lv_iinc (v := (v3 + 1)) (lv' := [(3, .int (v3 + 1)), (2, .int (v2 + 1)), (0, .ref (a 0)), (1, .ref (a 3))]) hx hb dX1_summedOf_31 hl (k := 3) rfl (by rfl) (by decide) rfl (fun ls hl => ?_)
            refine lv_goto (tgt := 4) hx hb dX1_summedOf_34 (by decide) ?_
            exact ih (v2 + 1) (v3 + 1) hM H locs ls hP hS (lv_sub hl [2, 3, 1, 0] rfl)
  rw [mX1_summedOf] at hM
  refine lv_iconst (v := 0) hx hb dX1_summedOf_0 (by decide) ?_
  refine lv_istore_n (lv' := [(2, .int (0 : Int32)), (0, .ref (a 0)), (1, .ref (a 3))]) hx hb dX1_summedOf_1 rfl hl (by decide) rfl (fun ls hl => ?_)
  refine lv_iconst (v := 0) hx hb dX1_summedOf_2 (by decide) ?_
  refine lv_istore_n (lv' := [(3, .int (0 : Int32)), (2, .int (0 : Int32)), (0, .ref (a 0)), (1, .ref (a 3))]) hx hb dX1_summedOf_3 rfl hl (by decide) rfl (fun ls hl => ?_)
  exact c4 N (0 : Int32) (0 : Int32) hM H locs ls hP hS (lv_sub hl [2, 3, 1, 0] rfl)
def mX1_isAllWell (N : Nat) (st : RowI) (co : Int32) (ro : Int32) (cA : CS) (cD : CS) (su : RowJ) : Option Int32 :=
  ((mX1_wellOf N st co ro cA su).bind fun x5 =>
  ((mX1_wellOf N st co ro cD su).bind fun x13 =>
  ((mX1_corridorsOf N co ro cA).bind fun x22 =>
  ((mX1_corridorsOf N co ro cD).bind fun x30 =>
  (if (x5 + x13) = (x22 + x30) then
  some (1 : Int32)
  else
  some (0 : Int32))))))
abbrev rmX1_isAllWell : Room := { frames := 4, cells := 0, slots := 0, locals := 91 }
set_option maxHeartbeats 4000000 in
set_option maxRecDepth 100000 in
theorem kX1_isAllWell {l : Launch} {D : va_G} {cI cJ : ClassId} (N : Nat) (a : Nat → Nat) {st : RowI} {co : Int32} {ro : Int32} {cA : CS} {cD : CS} {su : RowJ} {jA : JT} {jD : JT} {o : Int32} (hM : mX1_isAllWell N st co ro cA cD su = some o) (sz : Nat) : Met l yX1_isAllWell wsX1_isAllWell rmX1_isAllWell (va_Pc [.ref (a 0)] (Pre D cI cJ (fw a cI cJ st co ro cA cD su jA jD) sz)) (va_Qi (fun (r : Int32) (_ : JT × JT) => r = o ∧ bz r) (aft D (fw a cI cJ st co ro cA cD su jA jD) sz (fun (u : JT × JT) => (fw a cI cJ st co ro cA cD su u.1 u.2))) (va_A (fw a cI cJ st co ro cA cD su jA jD) sz)) 0 0 (va_A (fw a cI cJ st co ro cA cD su jA jD) sz) := by
  refine xofW (cc := cX1_isAllWell) (maxL := 1) (ret := (some .boolean)) rfl (by decide) rfl ?_
  intro p e s m args below meth c ls Q A hQ hAe hx hb hr hml hown hts hlocks hnm hN hK H locs hP hD hS hA hl
  replace hown : s.vm.findClass RX1 = some m.cls := hown
  replace hl : lv_has ls 1 [(0, .ref (a 0))] := hl
  have iX1 : ∀ w ∈ wsX10, w ∈ wsX1_isAllWell := by decide +kernel
  have f23 := hts (.fieldLink RX1 23 "CryptSums$Floor" "across" "LCryptSums$Corridors;") (by decide +kernel)
  have f27 := hts (.fieldLink RX1 27 "CryptSums$Floor" "down" "LCryptSums$Corridors;") (by decide +kernel)
  rw [mX1_isAllWell] at hM
  refine lv_aload_n hx hb dX1_isAllWell_0 rfl (lv_at hl 0 rfl) ?_
  refine lv_aload_n hx hb dX1_isAllWell_1 rfl (lv_at hl 0 rfl) ?_
  refine va_get (D := D) (ci := 1) (v := .ref (a 2)) (C := RX1) (T := TX1) (N := 5) hx hb hts iX1 hown hK hP 0 rfl rfl 1 (by decide) f23 (fun _ h9 => h9) rfl dX1_isAllWell_2 ?_
  obtain ⟨x5, hC, hM⟩ := bd_s hM
  refine cW_i [0, 1, 2, 3, 4, 5, 6, 7, 8, 9, 10, 11] [] (va_runV (As := [.ref (a 2)]) (rest := []) ⟨hx, hb, hml, hown, hts⟩ (kX1_wellOf_A (l := l) (D := D) (cI := cI) (cJ := cJ) N a (st := st) (co := co) (ro := ro) (cA := cA) (cD := cD) (su := su) (jA := jA) (jD := jD) hC H.size) (cwV 1 hts gX1_isAllWell_X1_wellOf rfl rfl rfl (by decide +kernel) ⟨Nat.le_of_ble_eq_true rfl, Nat.le_of_ble_eq_true rfl⟩) (preV [.ref (a 2)] hN hK hP hD (ci := 1) (q0 := 0) rfl rfl) rfl rfl hl.1 rfl (lv_room (Nat.le_of_ble_eq_true rfl)) dX1_isAllWell_5 ⟨Nat.le_of_ble_eq_true rfl, Nat.le_of_ble_eq_true rfl⟩) hP hD hS hA rfl (wr := []) rfl (by decide) (by decide) (fun r u5 H locs hw hP hD hS => ?_)
  replace hP : va_P D vwCl (fw a cI cJ st co ro cA cD su u5.1 u5.2) H := hP
  replace hD : va_D A (fw a cI cJ st co ro cA cD su u5.1 u5.2) := hD
  rw [hw]
  refine lv_aload_n hx hb dX1_isAllWell_8 rfl (lv_at hl 0 rfl) ?_
  refine lv_aload_n hx hb dX1_isAllWell_9 rfl (lv_at hl 0 rfl) ?_
  refine va_get (D := D) (ci := 1) (v := .ref (a 3)) (C := RX1) (T := TX1) (N := 5) hx hb hts iX1 hown hK hP 0 rfl rfl 2 (by decide) f27 (fun _ h9 => h9) rfl dX1_isAllWell_10 ?_
  obtain ⟨x13, hC, hM⟩ := bd_s hM
  refine cW_i [0, 1, 2, 3, 4, 5, 6, 7, 8, 9, 10, 11] [] (va_runV (As := [.ref (a 3)]) (rest := [.int x5]) ⟨hx, hb, hml, hown, hts⟩ (kX1_wellOf_D (l := l) (D := D) (cI := cI) (cJ := cJ) N a (st := st) (co := co) (ro := ro) (cA := cA) (cD := cD) (su := su) (jA := u5.1) (jD := u5.2) hC H.size) (cwV 1 hts gX1_isAllWell_X1_wellOf rfl rfl rfl (by decide +kernel) ⟨Nat.le_of_ble_eq_true rfl, Nat.le_of_ble_eq_true rfl⟩) (preV [.ref (a 3)] hN hK hP hD (ci := 1) (q0 := 0) rfl rfl) rfl rfl hl.1 rfl (lv_room (Nat.le_of_ble_eq_true rfl)) dX1_isAllWell_13 ⟨Nat.le_of_ble_eq_true rfl, Nat.le_of_ble_eq_true rfl⟩) hP hD hS hA rfl (wr := []) rfl (by decide) (by decide) (fun r u13 H locs hw hP hD hS => ?_)
  replace hP : va_P D vwCl (fw a cI cJ st co ro cA cD su u13.1 u13.2) H := hP
  replace hD : va_D A (fw a cI cJ st co ro cA cD su u13.1 u13.2) := hD
  rw [hw]
  refine lv_iadd hx hb dX1_isAllWell_16 ?_
  refine lv_aload_n hx hb dX1_isAllWell_17 rfl (lv_at hl 0 rfl) ?_
  refine lv_aload_n hx hb dX1_isAllWell_18 rfl (lv_at hl 0 rfl) ?_
  refine va_get (D := D) (ci := 1) (v := .ref (a 2)) (C := RX1) (T := TX1) (N := 5) hx hb hts iX1 hown hK hP 0 rfl rfl 1 (by decide) f23 (fun _ h9 => h9) rfl dX1_isAllWell_19 ?_
  obtain ⟨x22, hC, hM⟩ := bd_s hM
  refine cR_i (va_runV (As := [.ref (a 2)]) (rest := [.int (x5 + x13)]) ⟨hx, hb, hml, hown, hts⟩ (kX1_corridorsOf_A (l := l) (D := D) (cI := cI) (cJ := cJ) N a (st := st) (co := co) (ro := ro) (cA := cA) (cD := cD) (su := su) (jA := u13.1) (jD := u13.2) hC H.size) (cwV 1 hts gX1_isAllWell_X1_corridorsOf rfl rfl rfl (by decide +kernel) ⟨Nat.le_of_ble_eq_true rfl, Nat.le_of_ble_eq_true rfl⟩) (preV [.ref (a 2)] hN hK hP hD (ci := 1) (q0 := 0) rfl rfl) rfl rfl hl.1 rfl (lv_room (Nat.le_of_ble_eq_true rfl)) dX1_isAllWell_22 ⟨Nat.le_of_ble_eq_true rfl, Nat.le_of_ble_eq_true rfl⟩) hP hS (fun r u H locs hw hP hS => ?_)
  rw [hw]
  refine lv_aload_n hx hb dX1_isAllWell_25 rfl (lv_at hl 0 rfl) ?_
  refine lv_aload_n hx hb dX1_isAllWell_26 rfl (lv_at hl 0 rfl) ?_
  refine va_get (D := D) (ci := 1) (v := .ref (a 3)) (C := RX1) (T := TX1) (N := 5) hx hb hts iX1 hown hK hP 0 rfl rfl 2 (by decide) f27 (fun _ h9 => h9) rfl dX1_isAllWell_27 ?_
  obtain ⟨x30, hC, hM⟩ := bd_s hM
  refine cR_i (va_runV (As := [.ref (a 3)]) (rest := [.int x22, .int (x5 + x13)]) ⟨hx, hb, hml, hown, hts⟩ (kX1_corridorsOf_D (l := l) (D := D) (cI := cI) (cJ := cJ) N a (st := st) (co := co) (ro := ro) (cA := cA) (cD := cD) (su := su) (jA := u13.1) (jD := u13.2) hC H.size) (cwV 1 hts gX1_isAllWell_X1_corridorsOf rfl rfl rfl (by decide +kernel) ⟨Nat.le_of_ble_eq_true rfl, Nat.le_of_ble_eq_true rfl⟩) (preV [.ref (a 3)] hN hK hP hD (ci := 1) (q0 := 0) rfl rfl) rfl rfl hl.1 rfl (lv_room (Nat.le_of_ble_eq_true rfl)) dX1_isAllWell_30 ⟨Nat.le_of_ble_eq_true rfl, Nat.le_of_ble_eq_true rfl⟩) hP hS (fun r u H locs hw hP hS => ?_)
  rw [hw]
  refine lv_iadd hx hb dX1_isAllWell_33 ?_
  refine lv_icmp_ne (tgt := 41) hx hb dX1_isAllWell_34 (by decide) (fun hcc => ?_) (fun hcc => ?_)
  · replace hM := it_n hcc hM
    refine lv_iconst (v := 0) hx hb dX1_isAllWell_41 (by decide) ?_
    obtain rfl := Option.some.inj hM
    subst hQ hAe
    exact W.zret (ty := .boolean) (v := (0 : Int32)) hx hb hr (nb_z (Or.inl rfl)) (fun t ht hW => ⟨⟨(0 : Int32), (u13.1, u13.2), rfl, ⟨rfl, Or.inl rfl⟩, ⟨by rw [ht]; exact hP, hD⟩⟩, hS.F ht⟩) hS.2.2 dX1_isAllWell_42
  · replace hM := it_p hcc hM
    refine lv_iconst (v := 1) hx hb dX1_isAllWell_37 (by decide) ?_
    refine lv_goto (tgt := 42) hx hb dX1_isAllWell_38 (by decide) ?_
    obtain rfl := Option.some.inj hM
    subst hQ hAe
    exact W.zret (ty := .boolean) (v := (1 : Int32)) hx hb hr (nb_z (Or.inr rfl)) (fun t ht hW => ⟨⟨(1 : Int32), (u13.1, u13.2), rfl, ⟨rfl, Or.inr rfl⟩, ⟨by rw [ht]; exact hP, hD⟩⟩, hS.F ht⟩) hS.2.2 dX1_isAllWell_42
def mX1_firstSingle_2 (N : Nat) (st : RowI) (co : Int32) (ro : Int32) (cA : CS) (cD : CS) (su : RowJ) : Nat → Int32 → Option Int32
  | 0 => fun _ => none
  | n + 1 => fun v1 => ((mX1_cells N co ro).bind fun x4 =>
  (if x4 ≤ v1 then
  some (-1 : Int32)
  else
  ((mX1_numbersFor N st cA cD su v1).bind fun x12 =>
  (if (bc x12) = (1 : Int32) then
  some v1
  else
  (mX1_firstSingle_2 N st co ro cA cD su n (v1 + 1))))))
def mX1_firstSingle (N : Nat) (st : RowI) (co : Int32) (ro : Int32) (cA : CS) (cD : CS) (su : RowJ) : Option Int32 :=
  (mX1_firstSingle_2 N st co ro cA cD su N (0 : Int32))
abbrev rmX1_firstSingle : Room := { frames := 4, cells := 0, slots := 0, locals := 95 }
set_option maxHeartbeats 4000000 in
set_option maxRecDepth 100000 in
theorem kX1_firstSingle {l : Launch} {D : va_G} {cI cJ : ClassId} (N : Nat) (a : Nat → Nat) {st : RowI} {co : Int32} {ro : Int32} {cA : CS} {cD : CS} {su : RowJ} {jA : JT} {jD : JT} {o : Int32} (hM : mX1_firstSingle N st co ro cA cD su = some o) (sz : Nat) : Met l yX1_firstSingle wsX1_firstSingle rmX1_firstSingle (va_Pc [.ref (a 0)] (Pre D cI cJ (fw a cI cJ st co ro cA cD su jA jD) sz)) (va_Qi (fun (r : Int32) (_ : JT × JT) => r = o) (aft D (fw a cI cJ st co ro cA cD su jA jD) sz (fun (u : JT × JT) => (fw a cI cJ st co ro cA cD su u.1 u.2))) (va_A (fw a cI cJ st co ro cA cD su jA jD) sz)) 0 0 (va_A (fw a cI cJ st co ro cA cD su jA jD) sz) := by
  refine xofW (cc := cX1_firstSingle) (maxL := 2) (ret := (some .int)) rfl (by decide) rfl ?_
  intro p e s m args below meth c ls Q A hQ hAe hx hb hr hml hown hts hlocks hnm hN hK H locs hP hD hS hA hl
  replace hown : s.vm.findClass RX1 = some m.cls := hown
  replace hl : lv_has ls 2 [(0, .ref (a 0))] := hl
  have c2 : ∀ (n : Nat), ∀ (v1 : Int32), mX1_firstSingle_2 N st co ro cA cD su n v1 = some o → ∀ (jA' : JT) (jD' : JT) (H : Heap) (locs : List Loc) (ls : Array Slot), va_P D vwCl (fw a cI cJ st co ro cA cD su jA' jD') H → va_D A (fw a cI cJ st co ro cA cD su jA' jD') → va_S A s.heap H locs → lv_has ls 2 [(0, .ref (a 0)), (1, .int v1)] → W p l e rmX1_firstSingle s m args below meth c H locs 0 0 Q (F0 m 2 ls []) := by
    intro n
    induction n with
    | zero =>
      intro v1 hM
      rw [mX1_firstSingle_2] at hM
      cases hM
    | succ n ih =>
      intro v1 hM jA' jD' H locs ls hP hD hS hl
      rw [mX1_firstSingle_2] at hM
      refine lv_iload_n hx hb dX1_firstSingle_2 rfl (lv_at hl 1 rfl) ?_
      refine lv_aload_n hx hb dX1_firstSingle_3 rfl (lv_at hl 0 rfl) ?_
      obtain ⟨x4, hC, hM⟩ := bd_s hM
      refine cR_i (va_runV (As := []) (rest := [.int v1]) ⟨hx, hb, hml, hown, hts⟩ (kX1_cells (l := l) (D := D) (cI := cI) (cJ := cJ) N a (st := st) (co := co) (ro := ro) (cA := cA) (cD := cD) (su := su) (jA := jA') (jD := jD') hC H.size) (cwV 0 hts gX1_firstSingle_X1_cells rfl rfl rfl (by decide +kernel) ⟨Nat.le_of_ble_eq_true rfl, Nat.le_of_ble_eq_true rfl⟩) (preV [] hN hK hP hD (ci := 1) (q0 := 0) rfl rfl) rfl rfl hl.1 rfl (lv_room (Nat.le_of_ble_eq_true rfl)) dX1_firstSingle_4 ⟨Nat.le_of_ble_eq_true rfl, Nat.le_of_ble_eq_true rfl⟩) hP hS (fun r u H locs hw hP hS => ?_)
      rw [hw]
      refine lv_icmp_ge (tgt := 30) hx hb dX1_firstSingle_7 (by decide) (fun hcc => ?_) (fun hcc => ?_)
      · replace hM := it_p hcc hM
        refine lv_iconst (v := -1) hx hb dX1_firstSingle_30 (by decide) ?_
        obtain rfl := Option.some.inj hM
        subst hQ hAe
        exact W.iret (v := (-1 : Int32)) hx hb hr (fun t ht hW => ⟨⟨(-1 : Int32), (jA', jD'), rfl, rfl, ⟨by rw [ht]; exact hP, hD⟩⟩, hS.F ht⟩) hS.2.2 dX1_firstSingle_31
      · replace hM := it_n hcc hM
        refine lv_aload_n hx hb dX1_firstSingle_10 rfl (lv_at hl 0 rfl) ?_
        refine lv_iload_n hx hb dX1_firstSingle_11 rfl (lv_at hl 1 rfl) ?_
        obtain ⟨x12, hC, hM⟩ := bd_s hM
        refine cW_i [0, 1, 2, 3, 4, 5, 6, 7, 8, 9, 10, 11] [] (va_runV (As := [.int v1]) (rest := []) ⟨hx, hb, hml, hown, hts⟩ (kX1_numbersFor (l := l) (D := D) (cI := cI) (cJ := cJ) N a (st := st) (co := co) (ro := ro) (cA := cA) (cD := cD) (su := su) (jA := jA') (jD := jD') (p1 := v1) hC H.size) (cwV 1 hts gX1_firstSingle_X1_numbersFor rfl rfl rfl (by decide +kernel) ⟨Nat.le_of_ble_eq_true rfl, Nat.le_of_ble_eq_true rfl⟩) (preV [.int v1] hN hK hP hD (ci := 1) (q0 := 0) rfl rfl) rfl rfl hl.1 rfl (lv_room (Nat.le_of_ble_eq_true rfl)) dX1_firstSingle_12 ⟨Nat.le_of_ble_eq_true rfl, Nat.le_of_ble_eq_true rfl⟩) hP hD hS hA rfl (wr := []) rfl (by decide) (by decide) (fun r u12 H locs hw hP hD hS => ?_)
        replace hP : va_P D vwCl (fw a cI cJ st co ro cA cD su u12.1 u12.2) H := hP
        replace hD : va_D A (fw a cI cJ st co ro cA cD su u12.1 u12.2) := hD
        rw [hw]
        refine cR_i (va_runS (As := [.int x12]) (rest := []) ⟨hx, hb, hml, hown, hts⟩ (kJ6_bitCount (D := D) (cI := cI) (cJ := cJ) x12 H.size) (va_cwS 1 hts gX1_firstSingle_J6_bitCount_0f7a4 rfl rfl rfl (by decide +kernel) ⟨Nat.le_of_ble_eq_true rfl, Nat.le_of_ble_eq_true rfl⟩) (preS [.int x12] hN hK (hP.sub (ws' := zw) [] rfl) (hD.sub (ws' := zw) [] (by decide) rfl)) rfl rfl hl.1 rfl (lv_room (Nat.le_of_ble_eq_true rfl)) dX1_firstSingle_15 ⟨Nat.le_of_ble_eq_true rfl, Nat.le_of_ble_eq_true rfl⟩) hP hS (fun r u H locs hw hP hS => ?_)
        rw [hw]
        refine lv_iconst (v := 1) hx hb dX1_firstSingle_18 (by decide) ?_
        refine lv_icmp_ne (tgt := 24) hx hb dX1_firstSingle_19 (by decide) (fun hcc => ?_) (fun hcc => ?_)
        · replace hM := it_n hcc hM
          refine lv_iinc (v := (v1 + 1)) (lv' := [(1, .int (v1 + 1)), (0, .ref (a 0))]) hx hb dX1_firstSingle_24 hl (k := 1) rfl (by rfl) (by decide) rfl (fun ls hl => ?_)
          refine lv_goto (tgt := 2) hx hb dX1_firstSingle_27 (by decide) ?_
          exact ih (v1 + 1) hM u12.1 u12.2 H locs ls hP hD hS (lv_sub hl [1, 0] rfl)
        · replace hM := it_p hcc hM
          refine lv_iload_n hx hb dX1_firstSingle_22 rfl (lv_at hl 1 rfl) ?_
          obtain rfl := Option.some.inj hM
          subst hQ hAe
          exact W.iret (v := v1) hx hb hr (fun t ht hW => ⟨⟨v1, (u12.1, u12.2), rfl, rfl, ⟨by rw [ht]; exact hP, hD⟩⟩, hS.F ht⟩) hS.2.2 dX1_firstSingle_23
  rw [mX1_firstSingle] at hM
  refine lv_iconst (v := 0) hx hb dX1_firstSingle_0 (by decide) ?_
  refine lv_istore_n (lv' := [(1, .int (0 : Int32)), (0, .ref (a 0))]) hx hb dX1_firstSingle_1 rfl hl (by decide) rfl (fun ls hl => ?_)
  exact c2 N (0 : Int32) hM jA jD H locs ls hP hD hS (lv_sub hl [1, 0] rfl)
def mX1_tightest_7 (N : Nat) (st : RowI) (co : Int32) (ro : Int32) (cA : CS) (cD : CS) (su : RowJ) : Nat → Int32 → Int32 → Int32 → Option Int32
  | 0 => fun _ _ _ => none
  | n + 1 => fun v1 v2 v3 => ((mX1_cells N co ro).bind fun x9 =>
  (if x9 ≤ v3 then
  some v1
  else
  ((mX1_numbersFor N st cA cD su v3).bind fun x17 =>
  ((mX1_isHole N st v3).bind fun x27 =>
  (if x27 = 0 then
  (mX1_tightest_7 N st co ro cA cD su n v1 v2 (v3 + 1))
  else
  (if v2 ≤ (bc x17) then
  (mX1_tightest_7 N st co ro cA cD su n v1 v2 (v3 + 1))
  else
  (mX1_tightest_7 N st co ro cA cD su n v3 (bc x17) (v3 + 1))))))))
def mX1_tightest (N : Nat) (st : RowI) (co : Int32) (ro : Int32) (cA : CS) (cD : CS) (su : RowJ) : Option Int32 :=
  (mX1_tightest_7 N st co ro cA cD su N (-1 : Int32) (10 : Int32) (0 : Int32))
abbrev rmX1_tightest : Room := { frames := 4, cells := 0, slots := 0, locals := 95 }
set_option maxHeartbeats 4000000 in
set_option maxRecDepth 100000 in
theorem kX1_tightest {l : Launch} {D : va_G} {cI cJ : ClassId} (N : Nat) (a : Nat → Nat) {st : RowI} {co : Int32} {ro : Int32} {cA : CS} {cD : CS} {su : RowJ} {jA : JT} {jD : JT} {o : Int32} (hM : mX1_tightest N st co ro cA cD su = some o) (sz : Nat) : Met l yX1_tightest wsX1_tightest rmX1_tightest (va_Pc [.ref (a 0)] (Pre D cI cJ (fw a cI cJ st co ro cA cD su jA jD) sz)) (va_Qi (fun (r : Int32) (_ : JT × JT) => r = o) (aft D (fw a cI cJ st co ro cA cD su jA jD) sz (fun (u : JT × JT) => (fw a cI cJ st co ro cA cD su u.1 u.2))) (va_A (fw a cI cJ st co ro cA cD su jA jD) sz)) 0 0 (va_A (fw a cI cJ st co ro cA cD su jA jD) sz) := by
  refine xofW (cc := cX1_tightest) (maxL := 5) (ret := (some .int)) rfl (by decide) rfl ?_
  intro p e s m args below meth c ls Q A hQ hAe hx hb hr hml hown hts hlocks hnm hN hK H locs hP hD hS hA hl
  replace hown : s.vm.findClass RX1 = some m.cls := hown
  replace hl : lv_has ls 5 [(0, .ref (a 0))] := hl
  have c7 : ∀ (n : Nat), ∀ (v1 : Int32) (v2 : Int32) (v3 : Int32), mX1_tightest_7 N st co ro cA cD su n v1 v2 v3 = some o → ∀ (jA' : JT) (jD' : JT) (H : Heap) (locs : List Loc) (ls : Array Slot), va_P D vwCl (fw a cI cJ st co ro cA cD su jA' jD') H → va_D A (fw a cI cJ st co ro cA cD su jA' jD') → va_S A s.heap H locs → lv_has ls 5 [(0, .ref (a 0)), (1, .int v1), (2, .int v2), (3, .int v3)] → W p l e rmX1_tightest s m args below meth c H locs 0 0 Q (F0 m 7 ls []) := by
    intro n
    induction n with
    | zero =>
      intro v1 v2 v3 hM
      rw [mX1_tightest_7] at hM
      cases hM
    | succ n ih =>
      intro v1 v2 v3 hM jA' jD' H locs ls hP hD hS hl
      rw [mX1_tightest_7] at hM
      refine lv_iload_n hx hb dX1_tightest_7 rfl (lv_at hl 3 rfl) ?_
      refine lv_aload_n hx hb dX1_tightest_8 rfl (lv_at hl 0 rfl) ?_
      obtain ⟨x9, hC, hM⟩ := bd_s hM
      refine cR_i (va_runV (As := []) (rest := [.int v3]) ⟨hx, hb, hml, hown, hts⟩ (kX1_cells (l := l) (D := D) (cI := cI) (cJ := cJ) N a (st := st) (co := co) (ro := ro) (cA := cA) (cD := cD) (su := su) (jA := jA') (jD := jD') hC H.size) (cwV 0 hts gX1_tightest_X1_cells rfl rfl rfl (by decide +kernel) ⟨Nat.le_of_ble_eq_true rfl, Nat.le_of_ble_eq_true rfl⟩) (preV [] hN hK hP hD (ci := 1) (q0 := 0) rfl rfl) rfl rfl hl.1 rfl (lv_room (Nat.le_of_ble_eq_true rfl)) dX1_tightest_9 ⟨Nat.le_of_ble_eq_true rfl, Nat.le_of_ble_eq_true rfl⟩) hP hS (fun r u H locs hw hP hS => ?_)
      rw [hw]
      refine lv_icmp_ge (tgt := 50) hx hb dX1_tightest_12 (by decide) (fun hcc => ?_) (fun hcc => ?_)
      · replace hM := it_p hcc hM
        refine lv_iload_n hx hb dX1_tightest_50 rfl (lv_at hl 1 rfl) ?_
        obtain rfl := Option.some.inj hM
        subst hQ hAe
        exact W.iret (v := v1) hx hb hr (fun t ht hW => ⟨⟨v1, (jA', jD'), rfl, rfl, ⟨by rw [ht]; exact hP, hD⟩⟩, hS.F ht⟩) hS.2.2 dX1_tightest_51
      · replace hM := it_n hcc hM
        refine lv_aload_n hx hb dX1_tightest_15 rfl (lv_at hl 0 rfl) ?_
        refine lv_iload_n hx hb dX1_tightest_16 rfl (lv_at hl 3 rfl) ?_
        obtain ⟨x17, hC, hM⟩ := bd_s hM
        refine cW_i [0, 1, 2, 3, 4, 5, 6, 7, 8, 9, 10, 11] [] (va_runV (As := [.int v3]) (rest := []) ⟨hx, hb, hml, hown, hts⟩ (kX1_numbersFor (l := l) (D := D) (cI := cI) (cJ := cJ) N a (st := st) (co := co) (ro := ro) (cA := cA) (cD := cD) (su := su) (jA := jA') (jD := jD') (p1 := v3) hC H.size) (cwV 1 hts gX1_tightest_X1_numbersFor rfl rfl rfl (by decide +kernel) ⟨Nat.le_of_ble_eq_true rfl, Nat.le_of_ble_eq_true rfl⟩) (preV [.int v3] hN hK hP hD (ci := 1) (q0 := 0) rfl rfl) rfl rfl hl.1 rfl (lv_room (Nat.le_of_ble_eq_true rfl)) dX1_tightest_17 ⟨Nat.le_of_ble_eq_true rfl, Nat.le_of_ble_eq_true rfl⟩) hP hD hS hA rfl (wr := []) rfl (by decide) (by decide) (fun r u17 H locs hw hP hD hS => ?_)
        replace hP : va_P D vwCl (fw a cI cJ st co ro cA cD su u17.1 u17.2) H := hP
        replace hD : va_D A (fw a cI cJ st co ro cA cD su u17.1 u17.2) := hD
        rw [hw]
        refine cR_i (va_runS (As := [.int x17]) (rest := []) ⟨hx, hb, hml, hown, hts⟩ (kJ6_bitCount (D := D) (cI := cI) (cJ := cJ) x17 H.size) (va_cwS 1 hts gX1_tightest_J6_bitCount_0f7a4 rfl rfl rfl (by decide +kernel) ⟨Nat.le_of_ble_eq_true rfl, Nat.le_of_ble_eq_true rfl⟩) (preS [.int x17] hN hK (hP.sub (ws' := zw) [] rfl) (hD.sub (ws' := zw) [] (by decide) rfl)) rfl rfl hl.1 rfl (lv_room (Nat.le_of_ble_eq_true rfl)) dX1_tightest_20 ⟨Nat.le_of_ble_eq_true rfl, Nat.le_of_ble_eq_true rfl⟩) hP hS (fun r u H locs hw hP hS => ?_)
        rw [hw]
        refine lv_istore (lv' := [(4, .int (bc x17)), (0, .ref (a 0)), (1, .int v1), (2, .int v2), (3, .int v3)]) hx hb dX1_tightest_23 hl (by decide) rfl (fun ls hl => ?_)
        refine lv_aload_n hx hb dX1_tightest_25 rfl (lv_at hl 1 rfl) ?_
        refine lv_iload_n hx hb dX1_tightest_26 rfl (lv_at hl 4 rfl) ?_
        obtain ⟨x27, hC, hM⟩ := bd_s hM
        refine cR_i (va_runV (As := [.int v3]) (rest := []) ⟨hx, hb, hml, hown, hts⟩ (kX1_isHole (l := l) (D := D) (cI := cI) (cJ := cJ) N a (st := st) (co := co) (ro := ro) (cA := cA) (cD := cD) (su := su) (jA := u17.1) (jD := u17.2) (p1 := v3) hC H.size) (cwV 1 hts gX1_tightest_X1_isHole rfl rfl rfl (by decide +kernel) ⟨Nat.le_of_ble_eq_true rfl, Nat.le_of_ble_eq_true rfl⟩) (preV [.int v3] hN hK hP hD (ci := 1) (q0 := 0) rfl rfl) rfl rfl hl.1 rfl (lv_room (Nat.le_of_ble_eq_true rfl)) dX1_tightest_27 ⟨Nat.le_of_ble_eq_true rfl, Nat.le_of_ble_eq_true rfl⟩) hP hS (fun r u H locs hw hP hS => ?_)
        obtain ⟨hw, hz27⟩ := hw
        rw [hw] at hz27
        rw [hw]
        refine lv_if_eq (tgt := 44) hx hb dX1_tightest_30 (by decide) (fun hcc => ?_) (fun hcc => ?_)
        · replace hM := it_p hcc hM
          refine lv_iinc (v := (v3 + 1)) (lv' := [(3, .int (v3 + 1)), (4, .int (bc x17)), (0, .ref (a 0)), (1, .int v1), (2, .int v2)]) hx hb dX1_tightest_44 hl (k := 4) rfl (by rfl) (by decide) rfl (fun ls hl => ?_)
          refine lv_goto (tgt := 7) hx hb dX1_tightest_47 (by decide) ?_
          exact ih v1 v2 (v3 + 1) hM u17.1 u17.2 H locs ls hP hD hS (lv_sub hl [2, 3, 4, 0] rfl)
        · replace hM := it_n hcc hM
          refine lv_iload hx hb dX1_tightest_33 (lv_at hl 0 rfl) ?_
          refine lv_iload_n hx hb dX1_tightest_35 rfl (lv_at hl 3 rfl) ?_
          refine lv_icmp_ge (tgt := 44) hx hb dX1_tightest_36 (by decide) (fun hcc => ?_) (fun hcc => ?_)
          · replace hM := it_p hcc hM
            refine lv_iinc (v := (v3 + 1)) (lv' := [(3, .int (v3 + 1)), (4, .int (bc x17)), (0, .ref (a 0)), (1, .int v1), (2, .int v2)]) hx hb dX1_tightest_44 hl (k := 4) rfl (by rfl) (by decide) rfl (fun ls hl => ?_)
            refine lv_goto (tgt := 7) hx hb dX1_tightest_47 (by decide) ?_
            exact ih v1 v2 (v3 + 1) hM u17.1 u17.2 H locs ls hP hD hS (lv_sub hl [2, 3, 4, 0] rfl)
          · replace hM := it_n hcc hM
            refine lv_iload_n hx hb dX1_tightest_39 rfl (lv_at hl 4 rfl) ?_
            refine lv_istore_n (lv' := [(1, .int v3), (4, .int (bc x17)), (0, .ref (a 0)), (2, .int v2), (3, .int v3)]) hx hb dX1_tightest_40 rfl hl (by decide) rfl (fun ls hl => ?_)
            refine lv_iload hx hb dX1_tightest_41 (lv_at hl 1 rfl) ?_
            refine lv_istore_n (lv' := [(2, .int (bc x17)), (1, .int v3), (4, .int (bc x17)), (0, .ref (a 0)), (3, .int v3)]) hx hb dX1_tightest_43 rfl hl (by decide) rfl (fun ls hl => ?_)
            refine lv_iinc (v := (v3 + 1)) (lv' := [(3, .int (v3 + 1)), (2, .int (bc x17)), (1, .int v3), (4, .int (bc x17)), (0, .ref (a 0))]) hx hb dX1_tightest_44 hl (k := 4) rfl (by rfl) (by decide) rfl (fun ls hl => ?_)
            refine lv_goto (tgt := 7) hx hb dX1_tightest_47 (by decide) ?_
            exact ih v3 (bc x17) (v3 + 1) hM u17.1 u17.2 H locs ls hP hD hS (lv_sub hl [4, 2, 1, 0] rfl)
  rw [mX1_tightest] at hM
  refine lv_iconst (v := -1) hx hb dX1_tightest_0 (by decide) ?_
  refine lv_istore_n (lv' := [(1, .int (-1 : Int32)), (0, .ref (a 0))]) hx hb dX1_tightest_1 rfl hl (by decide) rfl (fun ls hl => ?_)
  refine lv_bipush (v := 10) hx hb dX1_tightest_2 (by decide) ?_
  refine lv_istore_n (lv' := [(2, .int (10 : Int32)), (1, .int (-1 : Int32)), (0, .ref (a 0))]) hx hb dX1_tightest_4 rfl hl (by decide) rfl (fun ls hl => ?_)
  refine lv_iconst (v := 0) hx hb dX1_tightest_5 (by decide) ?_
  refine lv_istore_n (lv' := [(3, .int (0 : Int32)), (2, .int (10 : Int32)), (1, .int (-1 : Int32)), (0, .ref (a 0))]) hx hb dX1_tightest_6 rfl hl (by decide) rfl (fun ls hl => ?_)
  exact c7 N (-1 : Int32) (10 : Int32) (0 : Int32) hM jA jD H locs ls hP hD hS (lv_sub hl [3, 2, 1, 0] rfl)
def mX1_openCells_4 (N : Nat) (st : RowI) (co : Int32) (ro : Int32) : Nat → Int32 → Int32 → Option Int32
  | 0 => fun _ _ => none
  | n + 1 => fun v1 v2 => ((mX1_cells N co ro).bind fun x6 =>
  (if x6 ≤ v2 then
  some v1
  else
  ((mX1_isPillar N st v2).bind fun x14 =>
  (if x14 = 0 then
  (mX1_openCells_4 N st co ro n (v1 + 1) (v2 + 1))
  else
  (mX1_openCells_4 N st co ro n v1 (v2 + 1))))))
def mX1_openCells (N : Nat) (st : RowI) (co : Int32) (ro : Int32) : Option Int32 :=
  (mX1_openCells_4 N st co ro N (0 : Int32) (0 : Int32))
abbrev rmX1_openCells : Room := { frames := 2, cells := 0, slots := 0, locals := 42 }
set_option maxHeartbeats 4000000 in
set_option maxRecDepth 100000 in
theorem kX1_openCells {l : Launch} {D : va_G} {cI cJ : ClassId} (N : Nat) (a : Nat → Nat) {st : RowI} {co : Int32} {ro : Int32} {cA : CS} {cD : CS} {su : RowJ} {jA : JT} {jD : JT} {o : Int32} (hM : mX1_openCells N st co ro = some o) (sz : Nat) : Met l yX1_openCells wsX1_openCells rmX1_openCells (va_Pc [.ref (a 0)] (Pre D cI cJ (fw a cI cJ st co ro cA cD su jA jD) sz)) (va_Qi (fun (r : Int32) (_ : Unit) => r = o) (fun _ _ => True) (fun _ => False)) 0 0 (fun _ => False) := by
  refine xofR (cc := cX1_openCells) (maxL := 3) (ret := (some .int)) rfl (by decide) rfl ?_
  intro p e s m args below meth c ls Q A hQ hAe hx hb hr hml hown hts hlocks hN hK H locs hP hD hS hl
  replace hown : s.vm.findClass RX1 = some m.cls := hown
  replace hl : lv_has ls 3 [(0, .ref (a 0))] := hl
  have c4 : ∀ (n : Nat), ∀ (v1 : Int32) (v2 : Int32), mX1_openCells_4 N st co ro n v1 v2 = some o → ∀ (H : Heap) (locs : List Loc) (ls : Array Slot), va_P D vwCl (fw a cI cJ st co ro cA cD su jA jD) H → va_S A s.heap H locs → lv_has ls 3 [(0, .ref (a 0)), (1, .int v1), (2, .int v2)] → W p l e rmX1_openCells s m args below meth c H locs 0 0 Q (F0 m 4 ls []) := by
    intro n
    induction n with
    | zero =>
      intro v1 v2 hM
      rw [mX1_openCells_4] at hM
      cases hM
    | succ n ih =>
      intro v1 v2 hM H locs ls hP hS hl
      rw [mX1_openCells_4] at hM
      refine lv_iload_n hx hb dX1_openCells_4 rfl (lv_at hl 2 rfl) ?_
      refine lv_aload_n hx hb dX1_openCells_5 rfl (lv_at hl 0 rfl) ?_
      obtain ⟨x6, hC, hM⟩ := bd_s hM
      refine cR_i (va_runV (As := []) (rest := [.int v2]) ⟨hx, hb, hml, hown, hts⟩ (kX1_cells (l := l) (D := D) (cI := cI) (cJ := cJ) N a (st := st) (co := co) (ro := ro) (cA := cA) (cD := cD) (su := su) (jA := jA) (jD := jD) hC H.size) (cwV 0 hts gX1_openCells_X1_cells rfl rfl rfl (by decide +kernel) ⟨Nat.le_of_ble_eq_true rfl, Nat.le_of_ble_eq_true rfl⟩) (preV [] hN hK hP hD (ci := 1) (q0 := 0) rfl rfl) rfl rfl hl.1 rfl (lv_room (Nat.le_of_ble_eq_true rfl)) dX1_openCells_6 ⟨Nat.le_of_ble_eq_true rfl, Nat.le_of_ble_eq_true rfl⟩) hP hS (fun r u H locs hw hP hS => ?_)
      rw [hw]
      refine lv_icmp_ge (tgt := 29) hx hb dX1_openCells_9 (by decide) (fun hcc => ?_) (fun hcc => ?_)
      · replace hM := it_p hcc hM
        refine lv_iload_n hx hb dX1_openCells_29 rfl (lv_at hl 1 rfl) ?_
        obtain rfl := Option.some.inj hM
        subst hQ hAe
        exact W.iret (v := v1) hx hb hr (fun t ht hW => ⟨⟨v1, (), rfl, rfl, trivial⟩, hS.F ht⟩) hS.2.2 dX1_openCells_30
      · replace hM := it_n hcc hM
        refine lv_aload_n hx hb dX1_openCells_12 rfl (lv_at hl 0 rfl) ?_
        refine lv_iload_n hx hb dX1_openCells_13 rfl (lv_at hl 2 rfl) ?_
        obtain ⟨x14, hC, hM⟩ := bd_s hM
        refine cR_i (va_runV (As := [.int v2]) (rest := []) ⟨hx, hb, hml, hown, hts⟩ (kX1_isPillar (l := l) (D := D) (cI := cI) (cJ := cJ) N a (st := st) (co := co) (ro := ro) (cA := cA) (cD := cD) (su := su) (jA := jA) (jD := jD) (p1 := v2) hC H.size) (cwV 1 hts gX1_openCells_X1_isPillar rfl rfl rfl (by decide +kernel) ⟨Nat.le_of_ble_eq_true rfl, Nat.le_of_ble_eq_true rfl⟩) (preV [.int v2] hN hK hP hD (ci := 1) (q0 := 0) rfl rfl) rfl rfl hl.1 rfl (lv_room (Nat.le_of_ble_eq_true rfl)) dX1_openCells_14 ⟨Nat.le_of_ble_eq_true rfl, Nat.le_of_ble_eq_true rfl⟩) hP hS (fun r u H locs hw hP hS => ?_)
        obtain ⟨hw, hz14⟩ := hw
        rw [hw] at hz14
        rw [hw]
        refine lv_if_ne (tgt := 23) hx hb dX1_openCells_17 (by decide) (fun hcc => ?_) (fun hcc => ?_)
        · replace hM := it_n hcc hM
          refine lv_iinc (v := (v2 + 1)) (lv' := [(2, .int (v2 + 1)), (0, .ref (a 0)), (1, .int v1)]) hx hb dX1_openCells_23 hl (k := 2) rfl (by rfl) (by decide) rfl (fun ls hl => ?_)
          refine lv_goto (tgt := 4) hx hb dX1_openCells_26 (by decide) ?_
          exact ih v1 (v2 + 1) hM H locs ls hP hS (lv_sub hl [1, 2, 0] rfl)
        · replace hM := it_p hcc hM
          refine lv_iinc (v := (v1 + 1)) (lv' := [(1, .int (v1 + 1)), (0, .ref (a 0)), (2, .int v2)]) hx hb dX1_openCells_20 hl (k := 1) rfl (by rfl) (by decide) rfl (fun ls hl => ?_)
          refine lv_iinc (v := (v2 + 1)) (lv' := [(2, .int (v2 + 1)), (1, .int (v1 + 1)), (0, .ref (a 0))]) hx hb dX1_openCells_23 hl (k := 2) rfl (by rfl) (by decide) rfl (fun ls hl => ?_)
          refine lv_goto (tgt := 4) hx hb dX1_openCells_26 (by decide) ?_
          exact ih (v1 + 1) (v2 + 1) hM H locs ls hP hS (lv_sub hl [2, 1, 0] rfl)
  rw [mX1_openCells] at hM
  refine lv_iconst (v := 0) hx hb dX1_openCells_0 (by decide) ?_
  refine lv_istore_n (lv' := [(1, .int (0 : Int32)), (0, .ref (a 0))]) hx hb dX1_openCells_1 rfl hl (by decide) rfl (fun ls hl => ?_)
  refine lv_iconst (v := 0) hx hb dX1_openCells_2 (by decide) ?_
  refine lv_istore_n (lv' := [(2, .int (0 : Int32)), (1, .int (0 : Int32)), (0, .ref (a 0))]) hx hb dX1_openCells_3 rfl hl (by decide) rfl (fun ls hl => ?_)
  exact c4 N (0 : Int32) (0 : Int32) hM H locs ls hP hS (lv_sub hl [2, 1, 0] rfl)
def mX1_stonesLaid_4 (N : Nat) (st : RowI) (co : Int32) (ro : Int32) : Nat → Int32 → Int32 → Option Int32
  | 0 => fun _ _ => none
  | n + 1 => fun v1 v2 => ((mX1_cells N co ro).bind fun x6 =>
  (if x6 ≤ v2 then
  some v1
  else
  (if (rd st v2) ≤ 0 then
  (mX1_stonesLaid_4 N st co ro n v1 (v2 + 1))
  else
  (mX1_stonesLaid_4 N st co ro n (v1 + 1) (v2 + 1)))))
def mX1_stonesLaid (N : Nat) (st : RowI) (co : Int32) (ro : Int32) : Option Int32 :=
  (mX1_stonesLaid_4 N st co ro N (0 : Int32) (0 : Int32))
abbrev rmX1_stonesLaid : Room := { frames := 1, cells := 0, slots := 0, locals := 21 }
set_option maxHeartbeats 4000000 in
set_option maxRecDepth 100000 in
theorem kX1_stonesLaid {l : Launch} {D : va_G} {cI cJ : ClassId} (N : Nat) (a : Nat → Nat) {st : RowI} {co : Int32} {ro : Int32} {cA : CS} {cD : CS} {su : RowJ} {jA : JT} {jD : JT} {o : Int32} (hM : mX1_stonesLaid N st co ro = some o) (sz : Nat) : Met l yX1_stonesLaid wsX1_stonesLaid rmX1_stonesLaid (va_Pc [.ref (a 0)] (Pre D cI cJ (fw a cI cJ st co ro cA cD su jA jD) sz)) (va_Qi (fun (r : Int32) (_ : Unit) => r = o) (fun _ _ => True) (fun _ => False)) 0 0 (fun _ => False) := by
  refine xofR (cc := cX1_stonesLaid) (maxL := 3) (ret := (some .int)) rfl (by decide) rfl ?_
  intro p e s m args below meth c ls Q A hQ hAe hx hb hr hml hown hts hlocks hN hK H locs hP hD hS hl
  replace hown : s.vm.findClass RX1 = some m.cls := hown
  replace hl : lv_has ls 3 [(0, .ref (a 0))] := hl
  have iX1 : ∀ w ∈ wsX10, w ∈ wsX1_stonesLaid := by decide +kernel
  have f12 := hts (.fieldLink RX1 12 "CryptSums$Floor" "stones" "[I") (by decide +kernel)
  have c4 : ∀ (n : Nat), ∀ (v1 : Int32) (v2 : Int32), mX1_stonesLaid_4 N st co ro n v1 v2 = some o → ∀ (H : Heap) (locs : List Loc) (ls : Array Slot), va_P D vwCl (fw a cI cJ st co ro cA cD su jA jD) H → va_S A s.heap H locs → lv_has ls 3 [(0, .ref (a 0)), (1, .int v1), (2, .int v2)] → W p l e rmX1_stonesLaid s m args below meth c H locs 0 0 Q (F0 m 4 ls []) := by
    intro n
    induction n with
    | zero =>
      intro v1 v2 hM
      rw [mX1_stonesLaid_4] at hM
      cases hM
    | succ n ih =>
      intro v1 v2 hM H locs ls hP hS hl
      rw [mX1_stonesLaid_4] at hM
      refine lv_iload_n hx hb dX1_stonesLaid_4 rfl (lv_at hl 2 rfl) ?_
      refine lv_aload_n hx hb dX1_stonesLaid_5 rfl (lv_at hl 0 rfl) ?_
      obtain ⟨x6, hC, hM⟩ := bd_s hM
      refine cR_i (va_runV (As := []) (rest := [.int v2]) ⟨hx, hb, hml, hown, hts⟩ (kX1_cells (l := l) (D := D) (cI := cI) (cJ := cJ) N a (st := st) (co := co) (ro := ro) (cA := cA) (cD := cD) (su := su) (jA := jA) (jD := jD) hC H.size) (cwV 0 hts gX1_stonesLaid_X1_cells rfl rfl rfl (by decide +kernel) ⟨Nat.le_of_ble_eq_true rfl, Nat.le_of_ble_eq_true rfl⟩) (preV [] hN hK hP hD (ci := 1) (q0 := 0) rfl rfl) rfl rfl hl.1 rfl (lv_room (Nat.le_of_ble_eq_true rfl)) dX1_stonesLaid_6 ⟨Nat.le_of_ble_eq_true rfl, Nat.le_of_ble_eq_true rfl⟩) hP hS (fun r u H locs hw hP hS => ?_)
      rw [hw]
      refine lv_icmp_ge (tgt := 32) hx hb dX1_stonesLaid_9 (by decide) (fun hcc => ?_) (fun hcc => ?_)
      · replace hM := it_p hcc hM
        refine lv_iload_n hx hb dX1_stonesLaid_32 rfl (lv_at hl 1 rfl) ?_
        obtain rfl := Option.some.inj hM
        subst hQ hAe
        exact W.iret (v := v1) hx hb hr (fun t ht hW => ⟨⟨v1, (), rfl, rfl, trivial⟩, hS.F ht⟩) hS.2.2 dX1_stonesLaid_33
      · replace hM := it_n hcc hM
        refine lv_aload_n hx hb dX1_stonesLaid_12 rfl (lv_at hl 0 rfl) ?_
        refine va_get (D := D) (ci := 1) (v := .ref (a 1)) (C := RX1) (T := TX1) (N := 5) hx hb hts iX1 hown hK hP 0 rfl rfl 0 (by decide) f12 (fun _ h9 => h9) rfl dX1_stonesLaid_13 ?_
        refine lv_iload_n hx hb dX1_stonesLaid_16 rfl (lv_at hl 2 rfl) ?_
        refine cR_i (va_runSN (As := [.ref (a 1), .int v2]) (rest := []) ⟨hx, hb, hml, hown, hts⟩ (kX4_read (D := D) (cI := cI) (cJ := cJ) (a 1) st v2 H.size) ⟨va_cnB 2 hts gX1_stonesLaid_X4_read_n58 rfl rfl rfl (hN (.methodLinkNest RX1 58 yX4_read "CryptSums") (by decide +kernel)) (hts (.initialized RX4) (by decide +kernel)) (by decide +kernel) ⟨Nat.le_of_ble_eq_true rfl, Nat.le_of_ble_eq_true rfl⟩, hts (.static yX4_read) (by decide +kernel), trivial⟩ (preS [.ref (a 1), .int v2] hN hK (hP.sub (ws' := [((a 1), .inl (cI, 36, .inl st))]) [1] rfl) (hD.sub (ws' := [((a 1), .inl (cI, 36, .inl st))]) [1] (by decide) rfl)) rfl rfl hl.1 rfl (lv_room (Nat.le_of_ble_eq_true rfl)) dX1_stonesLaid_17 ⟨Nat.le_of_ble_eq_true rfl, Nat.le_of_ble_eq_true rfl⟩) hP hS (fun r u H locs hw hP hS => ?_)
        rw [hw]
        refine lv_if_le (tgt := 26) hx hb dX1_stonesLaid_20 (by decide) (fun hcc => ?_) (fun hcc => ?_)
        · replace hM := it_p hcc hM
          refine lv_iinc (v := (v2 + 1)) (lv' := [(2, .int (v2 + 1)), (0, .ref (a 0)), (1, .int v1)]) hx hb dX1_stonesLaid_26 hl (k := 2) rfl (by rfl) (by decide) rfl (fun ls hl => ?_)
          refine lv_goto (tgt := 4) hx hb dX1_stonesLaid_29 (by decide) ?_
          exact ih v1 (v2 + 1) hM H locs ls hP hS (lv_sub hl [1, 2, 0] rfl)
        · replace hM := it_n hcc hM
          refine lv_iinc (v := (v1 + 1)) (lv' := [(1, .int (v1 + 1)), (0, .ref (a 0)), (2, .int v2)]) hx hb dX1_stonesLaid_23 hl (k := 1) rfl (by rfl) (by decide) rfl (fun ls hl => ?_)
          refine lv_iinc (v := (v2 + 1)) (lv' := [(2, .int (v2 + 1)), (1, .int (v1 + 1)), (0, .ref (a 0))]) hx hb dX1_stonesLaid_26 hl (k := 2) rfl (by rfl) (by decide) rfl (fun ls hl => ?_)
          refine lv_goto (tgt := 4) hx hb dX1_stonesLaid_29 (by decide) ?_
          exact ih (v1 + 1) (v2 + 1) hM H locs ls hP hS (lv_sub hl [2, 1, 0] rfl)
  rw [mX1_stonesLaid] at hM
  refine lv_iconst (v := 0) hx hb dX1_stonesLaid_0 (by decide) ?_
  refine lv_istore_n (lv' := [(1, .int (0 : Int32)), (0, .ref (a 0))]) hx hb dX1_stonesLaid_1 rfl hl (by decide) rfl (fun ls hl => ?_)
  refine lv_iconst (v := 0) hx hb dX1_stonesLaid_2 (by decide) ?_
  refine lv_istore_n (lv' := [(2, .int (0 : Int32)), (1, .int (0 : Int32)), (0, .ref (a 0))]) hx hb dX1_stonesLaid_3 rfl hl (by decide) rfl (fun ls hl => ?_)
  exact c4 N (0 : Int32) (0 : Int32) hM H locs ls hP hS (lv_sub hl [2, 1, 0] rfl)
def mX1_holesWithChoices_4 (N : Nat) (st : RowI) (co : Int32) (ro : Int32) (cA : CS) (cD : CS) (su : RowJ) (p1 : Int32) : Nat → Int32 → Int32 → Option Int32
  | 0 => fun _ _ => none
  | n + 1 => fun v2 v3 => ((mX1_cells N co ro).bind fun x6 =>
  (if x6 ≤ v3 then
  some v2
  else
  ((mX1_isHole N st v3).bind fun x14 =>
  (if x14 = 0 then
  (mX1_holesWithChoices_4 N st co ro cA cD su p1 n v2 (v3 + 1))
  else
  ((mX1_numbersFor N st cA cD su v3).bind fun x22 =>
  (if (bc x22) = p1 then
  (mX1_holesWithChoices_4 N st co ro cA cD su p1 n (v2 + 1) (v3 + 1))
  else
  (mX1_holesWithChoices_4 N st co ro cA cD su p1 n v2 (v3 + 1))))))))
def mX1_holesWithChoices (N : Nat) (st : RowI) (co : Int32) (ro : Int32) (cA : CS) (cD : CS) (su : RowJ) (p1 : Int32) : Option Int32 :=
  (mX1_holesWithChoices_4 N st co ro cA cD su p1 N (0 : Int32) (0 : Int32))
abbrev rmX1_holesWithChoices : Room := { frames := 4, cells := 0, slots := 0, locals := 95 }
set_option maxHeartbeats 4000000 in
set_option maxRecDepth 100000 in
theorem kX1_holesWithChoices {l : Launch} {D : va_G} {cI cJ : ClassId} (N : Nat) (a : Nat → Nat) {st : RowI} {co : Int32} {ro : Int32} {cA : CS} {cD : CS} {su : RowJ} {jA : JT} {jD : JT} {p1 : Int32} {o : Int32} (hM : mX1_holesWithChoices N st co ro cA cD su p1 = some o) (sz : Nat) : Met l yX1_holesWithChoices wsX1_holesWithChoices rmX1_holesWithChoices (va_Pc [.ref (a 0), .int p1] (Pre D cI cJ (fw a cI cJ st co ro cA cD su jA jD) sz)) (va_Qi (fun (r : Int32) (_ : JT × JT) => r = o) (aft D (fw a cI cJ st co ro cA cD su jA jD) sz (fun (u : JT × JT) => (fw a cI cJ st co ro cA cD su u.1 u.2))) (va_A (fw a cI cJ st co ro cA cD su jA jD) sz)) 0 0 (va_A (fw a cI cJ st co ro cA cD su jA jD) sz) := by
  refine xofW (cc := cX1_holesWithChoices) (maxL := 4) (ret := (some .int)) rfl (by decide) rfl ?_
  intro p e s m args below meth c ls Q A hQ hAe hx hb hr hml hown hts hlocks hnm hN hK H locs hP hD hS hA hl
  replace hown : s.vm.findClass RX1 = some m.cls := hown
  replace hl : lv_has ls 4 [(0, .ref (a 0)), (1, .int p1)] := hl
  have c4 : ∀ (n : Nat), ∀ (v2 : Int32) (v3 : Int32), mX1_holesWithChoices_4 N st co ro cA cD su p1 n v2 v3 = some o → ∀ (jA' : JT) (jD' : JT) (H : Heap) (locs : List Loc) (ls : Array Slot), va_P D vwCl (fw a cI cJ st co ro cA cD su jA' jD') H → va_D A (fw a cI cJ st co ro cA cD su jA' jD') → va_S A s.heap H locs → lv_has ls 4 [(0, .ref (a 0)), (1, .int p1), (2, .int v2), (3, .int v3)] → W p l e rmX1_holesWithChoices s m args below meth c H locs 0 0 Q (F0 m 4 ls []) := by
    intro n
    induction n with
    | zero =>
      intro v2 v3 hM
      rw [mX1_holesWithChoices_4] at hM
      cases hM
    | succ n ih =>
      intro v2 v3 hM jA' jD' H locs ls hP hD hS hl
      rw [mX1_holesWithChoices_4] at hM
      refine lv_iload_n hx hb dX1_holesWithChoices_4 rfl (lv_at hl 3 rfl) ?_
      refine lv_aload_n hx hb dX1_holesWithChoices_5 rfl (lv_at hl 0 rfl) ?_
      obtain ⟨x6, hC, hM⟩ := bd_s hM
      refine cR_i (va_runV (As := []) (rest := [.int v3]) ⟨hx, hb, hml, hown, hts⟩ (kX1_cells (l := l) (D := D) (cI := cI) (cJ := cJ) N a (st := st) (co := co) (ro := ro) (cA := cA) (cD := cD) (su := su) (jA := jA') (jD := jD') hC H.size) (cwV 0 hts gX1_holesWithChoices_X1_cells rfl rfl rfl (by decide +kernel) ⟨Nat.le_of_ble_eq_true rfl, Nat.le_of_ble_eq_true rfl⟩) (preV [] hN hK hP hD (ci := 1) (q0 := 0) rfl rfl) rfl rfl hl.1 rfl (lv_room (Nat.le_of_ble_eq_true rfl)) dX1_holesWithChoices_6 ⟨Nat.le_of_ble_eq_true rfl, Nat.le_of_ble_eq_true rfl⟩) hP hS (fun r u H locs hw hP hS => ?_)
      rw [hw]
      refine lv_icmp_ge (tgt := 41) hx hb dX1_holesWithChoices_9 (by decide) (fun hcc => ?_) (fun hcc => ?_)
      · replace hM := it_p hcc hM
        refine lv_iload_n hx hb dX1_holesWithChoices_41 rfl (lv_at hl 2 rfl) ?_
        obtain rfl := Option.some.inj hM
        subst hQ hAe
        exact W.iret (v := v2) hx hb hr (fun t ht hW => ⟨⟨v2, (jA', jD'), rfl, rfl, ⟨by rw [ht]; exact hP, hD⟩⟩, hS.F ht⟩) hS.2.2 dX1_holesWithChoices_42
      · replace hM := it_n hcc hM
        refine lv_aload_n hx hb dX1_holesWithChoices_12 rfl (lv_at hl 0 rfl) ?_
        refine lv_iload_n hx hb dX1_holesWithChoices_13 rfl (lv_at hl 3 rfl) ?_
        obtain ⟨x14, hC, hM⟩ := bd_s hM
        refine cR_i (va_runV (As := [.int v3]) (rest := []) ⟨hx, hb, hml, hown, hts⟩ (kX1_isHole (l := l) (D := D) (cI := cI) (cJ := cJ) N a (st := st) (co := co) (ro := ro) (cA := cA) (cD := cD) (su := su) (jA := jA') (jD := jD') (p1 := v3) hC H.size) (cwV 1 hts gX1_holesWithChoices_X1_isHole rfl rfl rfl (by decide +kernel) ⟨Nat.le_of_ble_eq_true rfl, Nat.le_of_ble_eq_true rfl⟩) (preV [.int v3] hN hK hP hD (ci := 1) (q0 := 0) rfl rfl) rfl rfl hl.1 rfl (lv_room (Nat.le_of_ble_eq_true rfl)) dX1_holesWithChoices_14 ⟨Nat.le_of_ble_eq_true rfl, Nat.le_of_ble_eq_true rfl⟩) hP hS (fun r u H locs hw hP hS => ?_)
        obtain ⟨hw, hz14⟩ := hw
        rw [hw] at hz14
        rw [hw]
        refine lv_if_eq (tgt := 35) hx hb dX1_holesWithChoices_17 (by decide) (fun hcc => ?_) (fun hcc => ?_)
        · replace hM := it_p hcc hM
          refine lv_iinc (v := (v3 + 1)) (lv' := [(3, .int (v3 + 1)), (0, .ref (a 0)), (1, .int p1), (2, .int v2)]) hx hb dX1_holesWithChoices_35 hl (k := 3) rfl (by rfl) (by decide) rfl (fun ls hl => ?_)
          refine lv_goto (tgt := 4) hx hb dX1_holesWithChoices_38 (by decide) ?_
          exact ih v2 (v3 + 1) hM jA' jD' H locs ls hP hD hS (lv_sub hl [1, 2, 3, 0] rfl)
        · replace hM := it_n hcc hM
          refine lv_aload_n hx hb dX1_holesWithChoices_20 rfl (lv_at hl 0 rfl) ?_
          refine lv_iload_n hx hb dX1_holesWithChoices_21 rfl (lv_at hl 3 rfl) ?_
          obtain ⟨x22, hC, hM⟩ := bd_s hM
          refine cW_i [0, 1, 2, 3, 4, 5, 6, 7, 8, 9, 10, 11] [] (va_runV (As := [.int v3]) (rest := []) ⟨hx, hb, hml, hown, hts⟩ (kX1_numbersFor (l := l) (D := D) (cI := cI) (cJ := cJ) N a (st := st) (co := co) (ro := ro) (cA := cA) (cD := cD) (su := su) (jA := jA') (jD := jD') (p1 := v3) hC H.size) (cwV 1 hts gX1_holesWithChoices_X1_numbersFor rfl rfl rfl (by decide +kernel) ⟨Nat.le_of_ble_eq_true rfl, Nat.le_of_ble_eq_true rfl⟩) (preV [.int v3] hN hK hP hD (ci := 1) (q0 := 0) rfl rfl) rfl rfl hl.1 rfl (lv_room (Nat.le_of_ble_eq_true rfl)) dX1_holesWithChoices_22 ⟨Nat.le_of_ble_eq_true rfl, Nat.le_of_ble_eq_true rfl⟩) hP hD hS hA rfl (wr := []) rfl (by decide) (by decide) (fun r u22 H locs hw hP hD hS => ?_)
          replace hP : va_P D vwCl (fw a cI cJ st co ro cA cD su u22.1 u22.2) H := hP
          replace hD : va_D A (fw a cI cJ st co ro cA cD su u22.1 u22.2) := hD
          rw [hw]
          refine cR_i (va_runS (As := [.int x22]) (rest := []) ⟨hx, hb, hml, hown, hts⟩ (kJ6_bitCount (D := D) (cI := cI) (cJ := cJ) x22 H.size) (va_cwS 1 hts gX1_holesWithChoices_J6_bitCount_0f7a4 rfl rfl rfl (by decide +kernel) ⟨Nat.le_of_ble_eq_true rfl, Nat.le_of_ble_eq_true rfl⟩) (preS [.int x22] hN hK (hP.sub (ws' := zw) [] rfl) (hD.sub (ws' := zw) [] (by decide) rfl)) rfl rfl hl.1 rfl (lv_room (Nat.le_of_ble_eq_true rfl)) dX1_holesWithChoices_25 ⟨Nat.le_of_ble_eq_true rfl, Nat.le_of_ble_eq_true rfl⟩) hP hS (fun r u H locs hw hP hS => ?_)
          rw [hw]
          refine lv_iload_n hx hb dX1_holesWithChoices_28 rfl (lv_at hl 1 rfl) ?_
          refine lv_icmp_ne (tgt := 35) hx hb dX1_holesWithChoices_29 (by decide) (fun hcc => ?_) (fun hcc => ?_)
          · replace hM := it_n hcc hM
            refine lv_iinc (v := (v3 + 1)) (lv' := [(3, .int (v3 + 1)), (0, .ref (a 0)), (1, .int p1), (2, .int v2)]) hx hb dX1_holesWithChoices_35 hl (k := 3) rfl (by rfl) (by decide) rfl (fun ls hl => ?_)
            refine lv_goto (tgt := 4) hx hb dX1_holesWithChoices_38 (by decide) ?_
            exact ih v2 (v3 + 1) hM u22.1 u22.2 H locs ls hP hD hS (lv_sub hl [1, 2, 3, 0] rfl)
          · replace hM := it_p hcc hM
            refine lv_iinc (v := (v2 + 1)) (lv' := [(2, .int (v2 + 1)), (0, .ref (a 0)), (1, .int p1), (3, .int v3)]) hx hb dX1_holesWithChoices_32 hl (k := 2) rfl (by rfl) (by decide) rfl (fun ls hl => ?_)
            refine lv_iinc (v := (v3 + 1)) (lv' := [(3, .int (v3 + 1)), (2, .int (v2 + 1)), (0, .ref (a 0)), (1, .int p1)]) hx hb dX1_holesWithChoices_35 hl (k := 3) rfl (by rfl) (by decide) rfl (fun ls hl => ?_)
            refine lv_goto (tgt := 4) hx hb dX1_holesWithChoices_38 (by decide) ?_
            exact ih (v2 + 1) (v3 + 1) hM u22.1 u22.2 H locs ls hP hD hS (lv_sub hl [2, 3, 1, 0] rfl)
  rw [mX1_holesWithChoices] at hM
  refine lv_iconst (v := 0) hx hb dX1_holesWithChoices_0 (by decide) ?_
  refine lv_istore_n (lv' := [(2, .int (0 : Int32)), (0, .ref (a 0)), (1, .int p1)]) hx hb dX1_holesWithChoices_1 rfl hl (by decide) rfl (fun ls hl => ?_)
  refine lv_iconst (v := 0) hx hb dX1_holesWithChoices_2 (by decide) ?_
  refine lv_istore_n (lv' := [(3, .int (0 : Int32)), (2, .int (0 : Int32)), (0, .ref (a 0)), (1, .int p1)]) hx hb dX1_holesWithChoices_3 rfl hl (by decide) rfl (fun ls hl => ?_)
  exact c4 N (0 : Int32) (0 : Int32) hM jA jD H locs ls hP hD hS (lv_sub hl [2, 3, 1, 0] rfl)
def mX1_tally (N : Nat) (st : RowI) (co : Int32) (ro : Int32) (cA : CS) (cD : CS) (su : RowJ) (p1 : Int32) : Option Int32 :=
  (if p1 = 0 then
  ((mX1_cells N co ro).bind fun x49 =>
  some x49)
  else (if p1 = 1 then
  some co
  else (if p1 = 2 then
  ((mX1_openCells N st co ro).bind fun x59 =>
  some x59)
  else (if p1 = 3 then
  ((mX1_stonesLaid N st co ro).bind fun x64 =>
  some x64)
  else (if p1 = 4 then
  ((mX1_corridorsOf N co ro cA).bind fun x73 =>
  ((mX1_corridorsOf N co ro cD).bind fun x81 =>
  some (x73 + x81)))
  else (if p1 = 5 then
  ((mX1_summedOf N co ro cA).bind fun x91 =>
  ((mX1_summedOf N co ro cD).bind fun x99 =>
  some (x91 + x99)))
  else (if p1 = 6 then
  ((mX1_wellOf N st co ro cA su).bind fun x109 =>
  ((mX1_wellOf N st co ro cD su).bind fun x117 =>
  some (x109 + x117)))
  else (if p1 = 7 then
  ((mX1_holesWithChoices N st co ro cA cD su (1 : Int32)).bind fun x124 =>
  some x124)
  else ((mX1_holesWithChoices N st co ro cA cD su (0 : Int32)).bind fun x130 =>
  some x130)))))))))
abbrev rmX1_tally : Room := { frames := 5, cells := 0, slots := 0, locals := 118 }
set_option maxHeartbeats 4000000 in
set_option maxRecDepth 100000 in
theorem kX1_tally {l : Launch} {D : va_G} {cI cJ : ClassId} (N : Nat) (a : Nat → Nat) {st : RowI} {co : Int32} {ro : Int32} {cA : CS} {cD : CS} {su : RowJ} {jA : JT} {jD : JT} {p1 : Int32} {o : Int32} (hM : mX1_tally N st co ro cA cD su p1 = some o) (sz : Nat) : Met l yX1_tally wsX1_tally rmX1_tally (va_Pc [.ref (a 0), .int p1] (Pre D cI cJ (fw a cI cJ st co ro cA cD su jA jD) sz)) (va_Qi (fun (r : Int32) (_ : JT × JT) => r = o) (aft D (fw a cI cJ st co ro cA cD su jA jD) sz (fun (u : JT × JT) => (fw a cI cJ st co ro cA cD su u.1 u.2))) (va_A (fw a cI cJ st co ro cA cD su jA jD) sz)) 0 0 (va_A (fw a cI cJ st co ro cA cD su jA jD) sz) := by
  refine xofW (cc := cX1_tally) (maxL := 2) (ret := (some .int)) rfl (by decide) rfl ?_
  intro p e s m args below meth c ls Q A hQ hAe hx hb hr hml hown hts hlocks hnm hN hK H locs hP hD hS hA hl
  replace hown : s.vm.findClass RX1 = some m.cls := hown
  replace hl : lv_has ls 2 [(0, .ref (a 0)), (1, .int p1)] := hl
  have iX1 : ∀ w ∈ wsX10, w ∈ wsX1_tally := by decide +kernel
  have f23 := hts (.fieldLink RX1 23 "CryptSums$Floor" "across" "LCryptSums$Corridors;") (by decide +kernel)
  have f27 := hts (.fieldLink RX1 27 "CryptSums$Floor" "down" "LCryptSums$Corridors;") (by decide +kernel)
  have f34 := hts (.fieldLink RX1 34 "CryptSums$Floor" "columns" "I") (by decide +kernel)
  rw [mX1_tally] at hM
  refine lv_iload_n hx hb dX1_tally_0 rfl (lv_at hl 1 rfl) ?_
  by_cases hs0 : p1 = 0
  · replace hM := it_p hs0 hM
    refine lv_tableIn (tgt := 48) hx hb dX1_tally_1 (by rw [hs0]; decide) (by rw [hs0]; decide) (by rw [hs0]; rfl) (by decide) ?_
    refine lv_aload_n hx hb dX1_tally_48 rfl (lv_at hl 0 rfl) ?_
    obtain ⟨x49, hC, hM⟩ := bd_s hM
    refine cR_i (va_runV (As := []) (rest := []) ⟨hx, hb, hml, hown, hts⟩ (kX1_cells (l := l) (D := D) (cI := cI) (cJ := cJ) N a (st := st) (co := co) (ro := ro) (cA := cA) (cD := cD) (su := su) (jA := jA) (jD := jD) hC H.size) (cwV 0 hts gX1_tally_X1_cells rfl rfl rfl (by decide +kernel) ⟨Nat.le_of_ble_eq_true rfl, Nat.le_of_ble_eq_true rfl⟩) (preV [] hN hK hP hD (ci := 1) (q0 := 0) rfl rfl) rfl rfl hl.1 rfl (lv_room (Nat.le_of_ble_eq_true rfl)) dX1_tally_49 ⟨Nat.le_of_ble_eq_true rfl, Nat.le_of_ble_eq_true rfl⟩) hP hS (fun r u H locs hw hP hS => ?_)
    rw [hw]
    obtain rfl := Option.some.inj hM
    subst hQ hAe
    exact W.iret (v := x49) hx hb hr (fun t ht hW => ⟨⟨x49, (jA, jD), rfl, rfl, ⟨by rw [ht]; exact hP, hD⟩⟩, hS.F ht⟩) hS.2.2 dX1_tally_52
  replace hM := it_n hs0 hM
  by_cases hs1 : p1 = 1
  · replace hM := it_p hs1 hM
    refine lv_tableIn (tgt := 53) hx hb dX1_tally_1 (by rw [hs1]; decide) (by rw [hs1]; decide) (by rw [hs1]; rfl) (by decide) ?_
    refine lv_aload_n hx hb dX1_tally_53 rfl (lv_at hl 0 rfl) ?_
    refine va_get (D := D) (ci := 1) (v := .int co) (C := RX1) (T := TX1) (N := 5) hx hb hts iX1 hown hK hP 0 rfl rfl 3 (by decide) f34 (fun _ h9 => h9) rfl dX1_tally_54 ?_
    obtain rfl := Option.some.inj hM
    subst hQ hAe
    exact W.iret (v := co) hx hb hr (fun t ht hW => ⟨⟨co, (jA, jD), rfl, rfl, ⟨by rw [ht]; exact hP, hD⟩⟩, hS.F ht⟩) hS.2.2 dX1_tally_57
  replace hM := it_n hs1 hM
  by_cases hs2 : p1 = 2
  · replace hM := it_p hs2 hM
    refine lv_tableIn (tgt := 58) hx hb dX1_tally_1 (by rw [hs2]; decide) (by rw [hs2]; decide) (by rw [hs2]; rfl) (by decide) ?_
    refine lv_aload_n hx hb dX1_tally_58 rfl (lv_at hl 0 rfl) ?_
    obtain ⟨x59, hC, hM⟩ := bd_s hM
    refine cR_i (va_runV (As := []) (rest := []) ⟨hx, hb, hml, hown, hts⟩ (kX1_openCells (l := l) (D := D) (cI := cI) (cJ := cJ) N a (st := st) (co := co) (ro := ro) (cA := cA) (cD := cD) (su := su) (jA := jA) (jD := jD) hC H.size) (cwV 0 hts gX1_tally_X1_openCells rfl rfl rfl (by decide +kernel) ⟨Nat.le_of_ble_eq_true rfl, Nat.le_of_ble_eq_true rfl⟩) (preV [] hN hK hP hD (ci := 1) (q0 := 0) rfl rfl) rfl rfl hl.1 rfl (lv_room (Nat.le_of_ble_eq_true rfl)) dX1_tally_59 ⟨Nat.le_of_ble_eq_true rfl, Nat.le_of_ble_eq_true rfl⟩) hP hS (fun r u H locs hw hP hS => ?_)
    rw [hw]
    obtain rfl := Option.some.inj hM
    subst hQ hAe
    exact W.iret (v := x59) hx hb hr (fun t ht hW => ⟨⟨x59, (jA, jD), rfl, rfl, ⟨by rw [ht]; exact hP, hD⟩⟩, hS.F ht⟩) hS.2.2 dX1_tally_62
  replace hM := it_n hs2 hM
  by_cases hs3 : p1 = 3
  · replace hM := it_p hs3 hM
    refine lv_tableIn (tgt := 63) hx hb dX1_tally_1 (by rw [hs3]; decide) (by rw [hs3]; decide) (by rw [hs3]; rfl) (by decide) ?_
    refine lv_aload_n hx hb dX1_tally_63 rfl (lv_at hl 0 rfl) ?_
    obtain ⟨x64, hC, hM⟩ := bd_s hM
    refine cR_i (va_runV (As := []) (rest := []) ⟨hx, hb, hml, hown, hts⟩ (kX1_stonesLaid (l := l) (D := D) (cI := cI) (cJ := cJ) N a (st := st) (co := co) (ro := ro) (cA := cA) (cD := cD) (su := su) (jA := jA) (jD := jD) hC H.size) (cwV 0 hts gX1_tally_X1_stonesLaid rfl rfl rfl (by decide +kernel) ⟨Nat.le_of_ble_eq_true rfl, Nat.le_of_ble_eq_true rfl⟩) (preV [] hN hK hP hD (ci := 1) (q0 := 0) rfl rfl) rfl rfl hl.1 rfl (lv_room (Nat.le_of_ble_eq_true rfl)) dX1_tally_64 ⟨Nat.le_of_ble_eq_true rfl, Nat.le_of_ble_eq_true rfl⟩) hP hS (fun r u H locs hw hP hS => ?_)
    rw [hw]
    obtain rfl := Option.some.inj hM
    subst hQ hAe
    exact W.iret (v := x64) hx hb hr (fun t ht hW => ⟨⟨x64, (jA, jD), rfl, rfl, ⟨by rw [ht]; exact hP, hD⟩⟩, hS.F ht⟩) hS.2.2 dX1_tally_67
  replace hM := it_n hs3 hM
  by_cases hs4 : p1 = 4
  · replace hM := it_p hs4 hM
    refine lv_tableIn (tgt := 68) hx hb dX1_tally_1 (by rw [hs4]; decide) (by rw [hs4]; decide) (by rw [hs4]; rfl) (by decide) ?_
    refine lv_aload_n hx hb dX1_tally_68 rfl (lv_at hl 0 rfl) ?_
    refine lv_aload_n hx hb dX1_tally_69 rfl (lv_at hl 0 rfl) ?_
    refine va_get (D := D) (ci := 1) (v := .ref (a 2)) (C := RX1) (T := TX1) (N := 5) hx hb hts iX1 hown hK hP 0 rfl rfl 1 (by decide) f23 (fun _ h9 => h9) rfl dX1_tally_70 ?_
    obtain ⟨x73, hC, hM⟩ := bd_s hM
    refine cR_i (va_runV (As := [.ref (a 2)]) (rest := []) ⟨hx, hb, hml, hown, hts⟩ (kX1_corridorsOf_A (l := l) (D := D) (cI := cI) (cJ := cJ) N a (st := st) (co := co) (ro := ro) (cA := cA) (cD := cD) (su := su) (jA := jA) (jD := jD) hC H.size) (cwV 1 hts gX1_tally_X1_corridorsOf rfl rfl rfl (by decide +kernel) ⟨Nat.le_of_ble_eq_true rfl, Nat.le_of_ble_eq_true rfl⟩) (preV [.ref (a 2)] hN hK hP hD (ci := 1) (q0 := 0) rfl rfl) rfl rfl hl.1 rfl (lv_room (Nat.le_of_ble_eq_true rfl)) dX1_tally_73 ⟨Nat.le_of_ble_eq_true rfl, Nat.le_of_ble_eq_true rfl⟩) hP hS (fun r u H locs hw hP hS => ?_)
    rw [hw]
    refine lv_aload_n hx hb dX1_tally_76 rfl (lv_at hl 0 rfl) ?_
    refine lv_aload_n hx hb dX1_tally_77 rfl (lv_at hl 0 rfl) ?_
    refine va_get (D := D) (ci := 1) (v := .ref (a 3)) (C := RX1) (T := TX1) (N := 5) hx hb hts iX1 hown hK hP 0 rfl rfl 2 (by decide) f27 (fun _ h9 => h9) rfl dX1_tally_78 ?_
    obtain ⟨x81, hC, hM⟩ := bd_s hM
    refine cR_i (va_runV (As := [.ref (a 3)]) (rest := [.int x73]) ⟨hx, hb, hml, hown, hts⟩ (kX1_corridorsOf_D (l := l) (D := D) (cI := cI) (cJ := cJ) N a (st := st) (co := co) (ro := ro) (cA := cA) (cD := cD) (su := su) (jA := jA) (jD := jD) hC H.size) (cwV 1 hts gX1_tally_X1_corridorsOf rfl rfl rfl (by decide +kernel) ⟨Nat.le_of_ble_eq_true rfl, Nat.le_of_ble_eq_true rfl⟩) (preV [.ref (a 3)] hN hK hP hD (ci := 1) (q0 := 0) rfl rfl) rfl rfl hl.1 rfl (lv_room (Nat.le_of_ble_eq_true rfl)) dX1_tally_81 ⟨Nat.le_of_ble_eq_true rfl, Nat.le_of_ble_eq_true rfl⟩) hP hS (fun r u H locs hw hP hS => ?_)
    rw [hw]
    refine lv_iadd hx hb dX1_tally_84 ?_
    obtain rfl := Option.some.inj hM
    subst hQ hAe
    exact W.iret (v := (x73 + x81)) hx hb hr (fun t ht hW => ⟨⟨(x73 + x81), (jA, jD), rfl, rfl, ⟨by rw [ht]; exact hP, hD⟩⟩, hS.F ht⟩) hS.2.2 dX1_tally_85
  replace hM := it_n hs4 hM
  by_cases hs5 : p1 = 5
  · replace hM := it_p hs5 hM
    refine lv_tableIn (tgt := 86) hx hb dX1_tally_1 (by rw [hs5]; decide) (by rw [hs5]; decide) (by rw [hs5]; rfl) (by decide) ?_
    refine lv_aload_n hx hb dX1_tally_86 rfl (lv_at hl 0 rfl) ?_
    refine lv_aload_n hx hb dX1_tally_87 rfl (lv_at hl 0 rfl) ?_
    refine va_get (D := D) (ci := 1) (v := .ref (a 2)) (C := RX1) (T := TX1) (N := 5) hx hb hts iX1 hown hK hP 0 rfl rfl 1 (by decide) f23 (fun _ h9 => h9) rfl dX1_tally_88 ?_
    obtain ⟨x91, hC, hM⟩ := bd_s hM
    refine cR_i (va_runV (As := [.ref (a 2)]) (rest := []) ⟨hx, hb, hml, hown, hts⟩ (kX1_summedOf_A (l := l) (D := D) (cI := cI) (cJ := cJ) N a (st := st) (co := co) (ro := ro) (cA := cA) (cD := cD) (su := su) (jA := jA) (jD := jD) hC H.size) (cwV 1 hts gX1_tally_X1_summedOf rfl rfl rfl (by decide +kernel) ⟨Nat.le_of_ble_eq_true rfl, Nat.le_of_ble_eq_true rfl⟩) (preV [.ref (a 2)] hN hK hP hD (ci := 1) (q0 := 0) rfl rfl) rfl rfl hl.1 rfl (lv_room (Nat.le_of_ble_eq_true rfl)) dX1_tally_91 ⟨Nat.le_of_ble_eq_true rfl, Nat.le_of_ble_eq_true rfl⟩) hP hS (fun r u H locs hw hP hS => ?_)
    rw [hw]
    refine lv_aload_n hx hb dX1_tally_94 rfl (lv_at hl 0 rfl) ?_
    refine lv_aload_n hx hb dX1_tally_95 rfl (lv_at hl 0 rfl) ?_
    refine va_get (D := D) (ci := 1) (v := .ref (a 3)) (C := RX1) (T := TX1) (N := 5) hx hb hts iX1 hown hK hP 0 rfl rfl 2 (by decide) f27 (fun _ h9 => h9) rfl dX1_tally_96 ?_
    obtain ⟨x99, hC, hM⟩ := bd_s hM
    refine cR_i (va_runV (As := [.ref (a 3)]) (rest := [.int x91]) ⟨hx, hb, hml, hown, hts⟩ (kX1_summedOf_D (l := l) (D := D) (cI := cI) (cJ := cJ) N a (st := st) (co := co) (ro := ro) (cA := cA) (cD := cD) (su := su) (jA := jA) (jD := jD) hC H.size) (cwV 1 hts gX1_tally_X1_summedOf rfl rfl rfl (by decide +kernel) ⟨Nat.le_of_ble_eq_true rfl, Nat.le_of_ble_eq_true rfl⟩) (preV [.ref (a 3)] hN hK hP hD (ci := 1) (q0 := 0) rfl rfl) rfl rfl hl.1 rfl (lv_room (Nat.le_of_ble_eq_true rfl)) dX1_tally_99 ⟨Nat.le_of_ble_eq_true rfl, Nat.le_of_ble_eq_true rfl⟩) hP hS (fun r u H locs hw hP hS => ?_)
    rw [hw]
    refine lv_iadd hx hb dX1_tally_102 ?_
    obtain rfl := Option.some.inj hM
    subst hQ hAe
    exact W.iret (v := (x91 + x99)) hx hb hr (fun t ht hW => ⟨⟨(x91 + x99), (jA, jD), rfl, rfl, ⟨by rw [ht]; exact hP, hD⟩⟩, hS.F ht⟩) hS.2.2 dX1_tally_103
  replace hM := it_n hs5 hM
  by_cases hs6 : p1 = 6
  · replace hM := it_p hs6 hM
    refine lv_tableIn (tgt := 104) hx hb dX1_tally_1 (by rw [hs6]; decide) (by rw [hs6]; decide) (by rw [hs6]; rfl) (by decide) ?_
    refine lv_aload_n hx hb dX1_tally_104 rfl (lv_at hl 0 rfl) ?_
    refine lv_aload_n hx hb dX1_tally_105 rfl (lv_at hl 0 rfl) ?_
    refine va_get (D := D) (ci := 1) (v := .ref (a 2)) (C := RX1) (T := TX1) (N := 5) hx hb hts iX1 hown hK hP 0 rfl rfl 1 (by decide) f23 (fun _ h9 => h9) rfl dX1_tally_106 ?_
    obtain ⟨x109, hC, hM⟩ := bd_s hM
    refine cW_i [0, 1, 2, 3, 4, 5, 6, 7, 8, 9, 10, 11] [] (va_runV (As := [.ref (a 2)]) (rest := []) ⟨hx, hb, hml, hown, hts⟩ (kX1_wellOf_A (l := l) (D := D) (cI := cI) (cJ := cJ) N a (st := st) (co := co) (ro := ro) (cA := cA) (cD := cD) (su := su) (jA := jA) (jD := jD) hC H.size) (cwV 1 hts gX1_tally_X1_wellOf rfl rfl rfl (by decide +kernel) ⟨Nat.le_of_ble_eq_true rfl, Nat.le_of_ble_eq_true rfl⟩) (preV [.ref (a 2)] hN hK hP hD (ci := 1) (q0 := 0) rfl rfl) rfl rfl hl.1 rfl (lv_room (Nat.le_of_ble_eq_true rfl)) dX1_tally_109 ⟨Nat.le_of_ble_eq_true rfl, Nat.le_of_ble_eq_true rfl⟩) hP hD hS hA rfl (wr := []) rfl (by decide) (by decide) (fun r u109 H locs hw hP hD hS => ?_)
    replace hP : va_P D vwCl (fw a cI cJ st co ro cA cD su u109.1 u109.2) H := hP
    replace hD : va_D A (fw a cI cJ st co ro cA cD su u109.1 u109.2) := hD
    rw [hw]
    refine lv_aload_n hx hb dX1_tally_112 rfl (lv_at hl 0 rfl) ?_
    refine lv_aload_n hx hb dX1_tally_113 rfl (lv_at hl 0 rfl) ?_
    refine va_get (D := D) (ci := 1) (v := .ref (a 3)) (C := RX1) (T := TX1) (N := 5) hx hb hts iX1 hown hK hP 0 rfl rfl 2 (by decide) f27 (fun _ h9 => h9) rfl dX1_tally_114 ?_
    obtain ⟨x117, hC, hM⟩ := bd_s hM
    refine cW_i [0, 1, 2, 3, 4, 5, 6, 7, 8, 9, 10, 11] [] (va_runV (As := [.ref (a 3)]) (rest := [.int x109]) ⟨hx, hb, hml, hown, hts⟩ (kX1_wellOf_D (l := l) (D := D) (cI := cI) (cJ := cJ) N a (st := st) (co := co) (ro := ro) (cA := cA) (cD := cD) (su := su) (jA := u109.1) (jD := u109.2) hC H.size) (cwV 1 hts gX1_tally_X1_wellOf rfl rfl rfl (by decide +kernel) ⟨Nat.le_of_ble_eq_true rfl, Nat.le_of_ble_eq_true rfl⟩) (preV [.ref (a 3)] hN hK hP hD (ci := 1) (q0 := 0) rfl rfl) rfl rfl hl.1 rfl (lv_room (Nat.le_of_ble_eq_true rfl)) dX1_tally_117 ⟨Nat.le_of_ble_eq_true rfl, Nat.le_of_ble_eq_true rfl⟩) hP hD hS hA rfl (wr := []) rfl (by decide) (by decide) (fun r u117 H locs hw hP hD hS => ?_)
    replace hP : va_P D vwCl (fw a cI cJ st co ro cA cD su u117.1 u117.2) H := hP
    replace hD : va_D A (fw a cI cJ st co ro cA cD su u117.1 u117.2) := hD
    rw [hw]
    refine lv_iadd hx hb dX1_tally_120 ?_
    obtain rfl := Option.some.inj hM
    subst hQ hAe
    exact W.iret (v := (x109 + x117)) hx hb hr (fun t ht hW => ⟨⟨(x109 + x117), (u117.1, u117.2), rfl, rfl, ⟨by rw [ht]; exact hP, hD⟩⟩, hS.F ht⟩) hS.2.2 dX1_tally_121
  replace hM := it_n hs6 hM
  by_cases hs7 : p1 = 7
  · replace hM := it_p hs7 hM
    refine lv_tableIn (tgt := 122) hx hb dX1_tally_1 (by rw [hs7]; decide) (by rw [hs7]; decide) (by rw [hs7]; rfl) (by decide) ?_
    refine lv_aload_n hx hb dX1_tally_122 rfl (lv_at hl 0 rfl) ?_
    refine lv_iconst (v := 1) hx hb dX1_tally_123 (by decide) ?_
    obtain ⟨x124, hC, hM⟩ := bd_s hM
    refine cW_i [0, 1, 2, 3, 4, 5, 6, 7, 8, 9, 10, 11] [] (va_runV (As := [.int (1 : Int32)]) (rest := []) ⟨hx, hb, hml, hown, hts⟩ (kX1_holesWithChoices (l := l) (D := D) (cI := cI) (cJ := cJ) N a (st := st) (co := co) (ro := ro) (cA := cA) (cD := cD) (su := su) (jA := jA) (jD := jD) (p1 := (1 : Int32)) hC H.size) (cwV 1 hts gX1_tally_X1_holesWithChoices rfl rfl rfl (by decide +kernel) ⟨Nat.le_of_ble_eq_true rfl, Nat.le_of_ble_eq_true rfl⟩) (preV [.int (1 : Int32)] hN hK hP hD (ci := 1) (q0 := 0) rfl rfl) rfl rfl hl.1 rfl (lv_room (Nat.le_of_ble_eq_true rfl)) dX1_tally_124 ⟨Nat.le_of_ble_eq_true rfl, Nat.le_of_ble_eq_true rfl⟩) hP hD hS hA rfl (wr := []) rfl (by decide) (by decide) (fun r u124 H locs hw hP hD hS => ?_)
    replace hP : va_P D vwCl (fw a cI cJ st co ro cA cD su u124.1 u124.2) H := hP
    replace hD : va_D A (fw a cI cJ st co ro cA cD su u124.1 u124.2) := hD
    rw [hw]
    obtain rfl := Option.some.inj hM
    subst hQ hAe
    exact W.iret (v := x124) hx hb hr (fun t ht hW => ⟨⟨x124, (u124.1, u124.2), rfl, rfl, ⟨by rw [ht]; exact hP, hD⟩⟩, hS.F ht⟩) hS.2.2 dX1_tally_127
  replace hM := it_n hs7 hM
  have ho : ∀ k : Nat, k ≤ 7 → ¬ p1 = Int32.ofNat k := by
    intro k hk
    have hk2 : k = 0 ∨ k = 1 ∨ k = 2 ∨ k = 3 ∨ k = 4 ∨ k = 5 ∨ k = 6 ∨ k = 7 := by omega
    rcases hk2 with rfl | rfl | rfl | rfl | rfl | rfl | rfl | rfl
    · exact hs0
    · exact hs1
    · exact hs2
    · exact hs3
    · exact hs4
    · exact hs5
    · exact hs6
    · exact hs7
  refine lv_tableOut (tgt := 128) hx hb dX1_tally_1 (sw_out 7 ho) (by decide) ?_
  refine lv_aload_n hx hb dX1_tally_128 rfl (lv_at hl 0 rfl) ?_
  refine lv_iconst (v := 0) hx hb dX1_tally_129 (by decide) ?_
  obtain ⟨x130, hC, hM⟩ := bd_s hM
  refine cW_i [0, 1, 2, 3, 4, 5, 6, 7, 8, 9, 10, 11] [] (va_runV (As := [.int (0 : Int32)]) (rest := []) ⟨hx, hb, hml, hown, hts⟩ (kX1_holesWithChoices (l := l) (D := D) (cI := cI) (cJ := cJ) N a (st := st) (co := co) (ro := ro) (cA := cA) (cD := cD) (su := su) (jA := jA) (jD := jD) (p1 := (0 : Int32)) hC H.size) (cwV 1 hts gX1_tally_X1_holesWithChoices rfl rfl rfl (by decide +kernel) ⟨Nat.le_of_ble_eq_true rfl, Nat.le_of_ble_eq_true rfl⟩) (preV [.int (0 : Int32)] hN hK hP hD (ci := 1) (q0 := 0) rfl rfl) rfl rfl hl.1 rfl (lv_room (Nat.le_of_ble_eq_true rfl)) dX1_tally_130 ⟨Nat.le_of_ble_eq_true rfl, Nat.le_of_ble_eq_true rfl⟩) hP hD hS hA rfl (wr := []) rfl (by decide) (by decide) (fun r u130 H locs hw hP hD hS => ?_)
  replace hP : va_P D vwCl (fw a cI cJ st co ro cA cD su u130.1 u130.2) H := hP
  replace hD : va_D A (fw a cI cJ st co ro cA cD su u130.1 u130.2) := hD
  rw [hw]
  obtain rfl := Option.some.inj hM
  subst hQ hAe
  exact W.iret (v := x130) hx hb hr (fun t ht hW => ⟨⟨x130, (u130.1, u130.2), rfl, rfl, ⟨by rw [ht]; exact hP, hD⟩⟩, hS.F ht⟩) hS.2.2 dX1_tally_133
