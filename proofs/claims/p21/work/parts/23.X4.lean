def mX4_fillings (N : Nat) (ho : RowI) (ke : RowI) (hc : Int32) (tr : Int32) (fo : Int32) (fr : Int32) (st : RowI) (co : Int32) (ro : Int32) (cA : CS) (cD : CS) (su : RowJ) : Option (Int32 × RowI × RowI × Int32 × Int32 × Int32 × Int32 × RowI) :=
  ((mX3_refresh N ho ke hc tr fo fr st co ro cA cD su).bind fun x4 =>
  ((mX3_told N x4.2.2.2.1 x4.2.2.2.2.1).bind fun x11 =>
  some (x11, x4.1, x4.2.1, x4.2.2.1, x4.2.2.2.1, x4.2.2.2.2.1, x4.2.2.2.2.2.1, x4.2.2.2.2.2.2)))
abbrev rmX4_fillings : Room := { frames := 46, cells := 0, slots := 0, locals := 1140 }
set_option maxHeartbeats 4000000 in
set_option maxRecDepth 100000 in
theorem kX4_fillings {l : Launch} {D : va_G} {cI cJ : ClassId} (N : Nat) (a : Nat → Nat) {ho : RowI} {ke : RowI} {hc : Int32} {tr : Int32} {fo : Int32} {fr : Int32} {st : RowI} {co : Int32} {ro : Int32} {cA : CS} {cD : CS} {su : RowJ} {jA : JT} {jD : JT} {o : (Int32 × RowI × RowI × Int32 × Int32 × Int32 × Int32 × RowI)} (hM : mX4_fillings N ho ke hc tr fo fr st co ro cA cD su = some o) (sz : Nat) : Met l yX4_fillings wsX4_fillings rmX4_fillings (va_Pc [.ref (a 15)] (Pre D cI cJ (xw a cI cJ ho ke hc tr fo fr st co ro cA cD su jA jD) sz)) (va_Qi (fun (r : Int32) (_ : JT × JT) => r = o.1) (aft D (xw a cI cJ ho ke hc tr fo fr st co ro cA cD su jA jD) sz (fun (u : JT × JT) => (xw a cI cJ o.2.1 o.2.2.1 o.2.2.2.1 o.2.2.2.2.1 o.2.2.2.2.2.1 o.2.2.2.2.2.2.1 o.2.2.2.2.2.2.2 co ro cA cD su u.1 u.2))) (va_A (xw a cI cJ ho ke hc tr fo fr st co ro cA cD su jA jD) sz)) 0 0 (va_A (xw a cI cJ ho ke hc tr fo fr st co ro cA cD su jA jD) sz) := by
  refine xofW (cc := cX4_fillings) (maxL := 1) (ret := (some .int)) rfl (by decide) rfl ?_
  intro p e s m args below meth c ls Q A hQ hAe hx hb hr hml hown hts hlocks hnm hN hK H locs hP hD hS hA hl
  replace hown : s.vm.findClass RX4 = some m.cls := hown
  replace hl : lv_has ls 1 [(0, .ref (a 15))] := hl
  have iX4 : ∀ w ∈ wsX40, w ∈ wsX4_fillings := by decide +kernel
  have f21 := hts (.fieldLink RX4 21 "CryptSums" "search" "LCryptSums$Search;") (by decide +kernel)
  rw [mX4_fillings] at hM
  refine lv_aload_n hx hb dX4_fillings_0 rfl (lv_at hl 0 rfl) ?_
  refine va_get (D := D) (ci := 4) (v := .ref (a 12)) (C := RX4) (T := TX4) (N := 2) hx hb hts iX4 hown hK hP 3 rfl rfl 1 (by decide) f21 (fun _ h9 => h9) rfl dX4_fillings_1 ?_
  obtain ⟨x4, hC, hM⟩ := bd_s hM
  refine cW_v [0, 1, 2, 3, 4, 5, 6, 7, 8, 9, 10, 11, 12, 13, 14, 15] [] (va_runV (As := []) (rest := []) ⟨hx, hb, hml, hown, hts⟩ (kX3_refresh (l := l) (D := D) (cI := cI) (cJ := cJ) N a (ho := ho) (ke := ke) (hc := hc) (tr := tr) (fo := fo) (fr := fr) (st := st) (co := co) (ro := ro) (cA := cA) (cD := cD) (su := su) (jA := jA) (jD := jD) hC H.size) (cwV 0 hts gX4_fillings_X3_refresh rfl rfl rfl (by decide +kernel) ⟨Nat.le_of_ble_eq_true rfl, Nat.le_of_ble_eq_true rfl⟩) (preV [] hN hK hP hD (ci := 3) (q0 := 0) rfl rfl) rfl rfl hl.1 rfl (lv_room (Nat.le_of_ble_eq_true rfl)) dX4_fillings_4 ⟨Nat.le_of_ble_eq_true rfl, Nat.le_of_ble_eq_true rfl⟩) hP hD hS hA rfl (wr := []) rfl (by decide) (by decide) (fun u4 H locs hw hP hD hS => ?_)
  replace hP : va_P D vwCl (xw a cI cJ x4.1 x4.2.1 x4.2.2.1 x4.2.2.2.1 x4.2.2.2.2.1 x4.2.2.2.2.2.1 x4.2.2.2.2.2.2 co ro cA cD su u4.1 u4.2) H := hP
  replace hD : va_D A (xw a cI cJ x4.1 x4.2.1 x4.2.2.1 x4.2.2.2.1 x4.2.2.2.2.1 x4.2.2.2.2.2.1 x4.2.2.2.2.2.2 co ro cA cD su u4.1 u4.2) := hD
  refine lv_aload_n hx hb dX4_fillings_7 rfl (lv_at hl 0 rfl) ?_
  refine va_get (D := D) (ci := 4) (v := .ref (a 12)) (C := RX4) (T := TX4) (N := 2) hx hb hts iX4 hown hK hP 3 rfl rfl 1 (by decide) f21 (fun _ h9 => h9) rfl dX4_fillings_8 ?_
  obtain ⟨x11, hC, hM⟩ := bd_s hM
  refine cR_i (va_runV (As := []) (rest := []) ⟨hx, hb, hml, hown, hts⟩ (kX3_told (l := l) (D := D) (cI := cI) (cJ := cJ) N a (ho := x4.1) (ke := x4.2.1) (hc := x4.2.2.1) (tr := x4.2.2.2.1) (fo := x4.2.2.2.2.1) (fr := x4.2.2.2.2.2.1) (st := x4.2.2.2.2.2.2) (co := co) (ro := ro) (cA := cA) (cD := cD) (su := su) (jA := u4.1) (jD := u4.2) hC H.size) (cwV 0 hts gX4_fillings_X3_told rfl rfl rfl (by decide +kernel) ⟨Nat.le_of_ble_eq_true rfl, Nat.le_of_ble_eq_true rfl⟩) (preV [] hN hK hP hD (ci := 3) (q0 := 0) rfl rfl) rfl rfl hl.1 rfl (lv_room (Nat.le_of_ble_eq_true rfl)) dX4_fillings_11 ⟨Nat.le_of_ble_eq_true rfl, Nat.le_of_ble_eq_true rfl⟩) hP hS (fun r u H locs hw hP hS => ?_)
  rw [hw]
  obtain rfl := Option.some.inj hM
  subst hQ hAe
  exact W.iret (v := x11) hx hb hr (fun t ht hW => ⟨⟨x11, (u4.1, u4.2), rfl, rfl, ⟨by rw [ht]; exact hP, hD⟩⟩, hS.F ht⟩) hS.2.2 dX4_fillings_14
def mX4_tries (N : Nat) (ho : RowI) (ke : RowI) (hc : Int32) (tr : Int32) (fo : Int32) (fr : Int32) (st : RowI) (co : Int32) (ro : Int32) (cA : CS) (cD : CS) (su : RowJ) : Option (Int32 × RowI × RowI × Int32 × Int32 × Int32 × Int32 × RowI) :=
  ((mX3_refresh N ho ke hc tr fo fr st co ro cA cD su).bind fun x4 =>
  ((mX3_tried N x4.2.2.2.1).bind fun x11 =>
  some (x11, x4.1, x4.2.1, x4.2.2.1, x4.2.2.2.1, x4.2.2.2.2.1, x4.2.2.2.2.2.1, x4.2.2.2.2.2.2)))
abbrev rmX4_tries : Room := { frames := 46, cells := 0, slots := 0, locals := 1140 }
set_option maxHeartbeats 4000000 in
set_option maxRecDepth 100000 in
theorem kX4_tries {l : Launch} {D : va_G} {cI cJ : ClassId} (N : Nat) (a : Nat → Nat) {ho : RowI} {ke : RowI} {hc : Int32} {tr : Int32} {fo : Int32} {fr : Int32} {st : RowI} {co : Int32} {ro : Int32} {cA : CS} {cD : CS} {su : RowJ} {jA : JT} {jD : JT} {o : (Int32 × RowI × RowI × Int32 × Int32 × Int32 × Int32 × RowI)} (hM : mX4_tries N ho ke hc tr fo fr st co ro cA cD su = some o) (sz : Nat) : Met l yX4_tries wsX4_tries rmX4_tries (va_Pc [.ref (a 15)] (Pre D cI cJ (xw a cI cJ ho ke hc tr fo fr st co ro cA cD su jA jD) sz)) (va_Qi (fun (r : Int32) (_ : JT × JT) => r = o.1) (aft D (xw a cI cJ ho ke hc tr fo fr st co ro cA cD su jA jD) sz (fun (u : JT × JT) => (xw a cI cJ o.2.1 o.2.2.1 o.2.2.2.1 o.2.2.2.2.1 o.2.2.2.2.2.1 o.2.2.2.2.2.2.1 o.2.2.2.2.2.2.2 co ro cA cD su u.1 u.2))) (va_A (xw a cI cJ ho ke hc tr fo fr st co ro cA cD su jA jD) sz)) 0 0 (va_A (xw a cI cJ ho ke hc tr fo fr st co ro cA cD su jA jD) sz) := by
  refine xofW (cc := cX4_tries) (maxL := 1) (ret := (some .int)) rfl (by decide) rfl ?_
  intro p e s m args below meth c ls Q A hQ hAe hx hb hr hml hown hts hlocks hnm hN hK H locs hP hD hS hA hl
  replace hown : s.vm.findClass RX4 = some m.cls := hown
  replace hl : lv_has ls 1 [(0, .ref (a 15))] := hl
  have iX4 : ∀ w ∈ wsX40, w ∈ wsX4_tries := by decide +kernel
  have f21 := hts (.fieldLink RX4 21 "CryptSums" "search" "LCryptSums$Search;") (by decide +kernel)
  rw [mX4_tries] at hM
  refine lv_aload_n hx hb dX4_tries_0 rfl (lv_at hl 0 rfl) ?_
  refine va_get (D := D) (ci := 4) (v := .ref (a 12)) (C := RX4) (T := TX4) (N := 2) hx hb hts iX4 hown hK hP 3 rfl rfl 1 (by decide) f21 (fun _ h9 => h9) rfl dX4_tries_1 ?_
  obtain ⟨x4, hC, hM⟩ := bd_s hM
  refine cW_v [0, 1, 2, 3, 4, 5, 6, 7, 8, 9, 10, 11, 12, 13, 14, 15] [] (va_runV (As := []) (rest := []) ⟨hx, hb, hml, hown, hts⟩ (kX3_refresh (l := l) (D := D) (cI := cI) (cJ := cJ) N a (ho := ho) (ke := ke) (hc := hc) (tr := tr) (fo := fo) (fr := fr) (st := st) (co := co) (ro := ro) (cA := cA) (cD := cD) (su := su) (jA := jA) (jD := jD) hC H.size) (cwV 0 hts gX4_tries_X3_refresh rfl rfl rfl (by decide +kernel) ⟨Nat.le_of_ble_eq_true rfl, Nat.le_of_ble_eq_true rfl⟩) (preV [] hN hK hP hD (ci := 3) (q0 := 0) rfl rfl) rfl rfl hl.1 rfl (lv_room (Nat.le_of_ble_eq_true rfl)) dX4_tries_4 ⟨Nat.le_of_ble_eq_true rfl, Nat.le_of_ble_eq_true rfl⟩) hP hD hS hA rfl (wr := []) rfl (by decide) (by decide) (fun u4 H locs hw hP hD hS => ?_)
  replace hP : va_P D vwCl (xw a cI cJ x4.1 x4.2.1 x4.2.2.1 x4.2.2.2.1 x4.2.2.2.2.1 x4.2.2.2.2.2.1 x4.2.2.2.2.2.2 co ro cA cD su u4.1 u4.2) H := hP
  replace hD : va_D A (xw a cI cJ x4.1 x4.2.1 x4.2.2.1 x4.2.2.2.1 x4.2.2.2.2.1 x4.2.2.2.2.2.1 x4.2.2.2.2.2.2 co ro cA cD su u4.1 u4.2) := hD
  refine lv_aload_n hx hb dX4_tries_7 rfl (lv_at hl 0 rfl) ?_
  refine va_get (D := D) (ci := 4) (v := .ref (a 12)) (C := RX4) (T := TX4) (N := 2) hx hb hts iX4 hown hK hP 3 rfl rfl 1 (by decide) f21 (fun _ h9 => h9) rfl dX4_tries_8 ?_
  obtain ⟨x11, hC, hM⟩ := bd_s hM
  refine cR_i (va_runV (As := []) (rest := []) ⟨hx, hb, hml, hown, hts⟩ (kX3_tried (l := l) (D := D) (cI := cI) (cJ := cJ) N a (ho := x4.1) (ke := x4.2.1) (hc := x4.2.2.1) (tr := x4.2.2.2.1) (fo := x4.2.2.2.2.1) (fr := x4.2.2.2.2.2.1) (st := x4.2.2.2.2.2.2) (co := co) (ro := ro) (cA := cA) (cD := cD) (su := su) (jA := u4.1) (jD := u4.2) hC H.size) (cwV 0 hts gX4_tries_X3_tried rfl rfl rfl (by decide +kernel) ⟨Nat.le_of_ble_eq_true rfl, Nat.le_of_ble_eq_true rfl⟩) (preV [] hN hK hP hD (ci := 3) (q0 := 0) rfl rfl) rfl rfl hl.1 rfl (lv_room (Nat.le_of_ble_eq_true rfl)) dX4_tries_11 ⟨Nat.le_of_ble_eq_true rfl, Nat.le_of_ble_eq_true rfl⟩) hP hS (fun r u H locs hw hP hS => ?_)
  rw [hw]
  obtain rfl := Option.some.inj hM
  subst hQ hAe
  exact W.iret (v := x11) hx hb hr (fun t ht hW => ⟨⟨x11, (u4.1, u4.2), rfl, rfl, ⟨by rw [ht]; exact hP, hD⟩⟩, hS.F ht⟩) hS.2.2 dX4_tries_14
def mX4_next (N : Nat) (st : RowI) (co : Int32) (ro : Int32) (cA : CS) (cD : CS) (su : RowJ) : Option Int32 :=
  ((mX1_tightest N st co ro cA cD su).bind fun x4 =>
  some x4)
abbrev rmX4_next : Room := { frames := 5, cells := 0, slots := 0, locals := 119 }
set_option maxHeartbeats 4000000 in
set_option maxRecDepth 100000 in
theorem kX4_next {l : Launch} {D : va_G} {cI cJ : ClassId} (N : Nat) (a : Nat → Nat) {ho : RowI} {ke : RowI} {hc : Int32} {tr : Int32} {fo : Int32} {fr : Int32} {st : RowI} {co : Int32} {ro : Int32} {cA : CS} {cD : CS} {su : RowJ} {jA : JT} {jD : JT} {o : Int32} (hM : mX4_next N st co ro cA cD su = some o) (sz : Nat) : Met l yX4_next wsX4_next rmX4_next (va_Pc [.ref (a 15)] (Pre D cI cJ (xw a cI cJ ho ke hc tr fo fr st co ro cA cD su jA jD) sz)) (va_Qi (fun (r : Int32) (_ : JT × JT) => r = o) (aft D (xw a cI cJ ho ke hc tr fo fr st co ro cA cD su jA jD) sz (fun (u : JT × JT) => (xw a cI cJ ho ke hc tr fo fr st co ro cA cD su u.1 u.2))) (va_A (xw a cI cJ ho ke hc tr fo fr st co ro cA cD su jA jD) sz)) 0 0 (va_A (xw a cI cJ ho ke hc tr fo fr st co ro cA cD su jA jD) sz) := by
  refine xofW (cc := cX4_next) (maxL := 1) (ret := (some .int)) rfl (by decide) rfl ?_
  intro p e s m args below meth c ls Q A hQ hAe hx hb hr hml hown hts hlocks hnm hN hK H locs hP hD hS hA hl
  replace hown : s.vm.findClass RX4 = some m.cls := hown
  replace hl : lv_has ls 1 [(0, .ref (a 15))] := hl
  have iX4 : ∀ w ∈ wsX40, w ∈ wsX4_next := by decide +kernel
  have f10 := hts (.fieldLink RX4 10 "CryptSums" "floor" "LCryptSums$Floor;") (by decide +kernel)
  rw [mX4_next] at hM
  refine lv_aload_n hx hb dX4_next_0 rfl (lv_at hl 0 rfl) ?_
  refine va_get (D := D) (ci := 4) (v := .ref (a 0)) (C := RX4) (T := TX4) (N := 2) hx hb hts iX4 hown hK hP 3 rfl rfl 0 (by decide) f10 (fun _ h9 => h9) rfl dX4_next_1 ?_
  obtain ⟨x4, hC, hM⟩ := bd_s hM
  refine cW_i [4, 5, 6, 7, 8, 9, 10, 11, 12, 13, 14, 15] [0, 1, 2, 3] (va_runV (As := []) (rest := []) ⟨hx, hb, hml, hown, hts⟩ (kX1_tightest (l := l) (D := D) (cI := cI) (cJ := cJ) N a (st := st) (co := co) (ro := ro) (cA := cA) (cD := cD) (su := su) (jA := jA) (jD := jD) hC H.size) (cwV 0 hts gX4_next_X1_tightest rfl rfl rfl (by decide +kernel) ⟨Nat.le_of_ble_eq_true rfl, Nat.le_of_ble_eq_true rfl⟩) (preV [] hN hK (hP.sub (ws' := (fw a cI cJ st co ro cA cD su jA jD)) [4, 5, 6, 7, 8, 9, 10, 11, 12, 13, 14, 15] rfl) (hD.sub (ws' := (fw a cI cJ st co ro cA cD su jA jD)) [4, 5, 6, 7, 8, 9, 10, 11, 12, 13, 14, 15] (by decide) rfl) (ci := 1) (q0 := 0) rfl rfl) rfl rfl hl.1 rfl (lv_room (Nat.le_of_ble_eq_true rfl)) dX4_next_4 ⟨Nat.le_of_ble_eq_true rfl, Nat.le_of_ble_eq_true rfl⟩) hP hD hS hA rfl (wr := ((xw a cI cJ ho ke hc tr fo fr st co ro cA cD su jA jD)).take 4) rfl (by decide) (by decide) (fun r u4 H locs hw hP hD hS => ?_)
  replace hP : va_P D vwCl (xw a cI cJ ho ke hc tr fo fr st co ro cA cD su u4.1 u4.2) H := hP
  replace hD : va_D A (xw a cI cJ ho ke hc tr fo fr st co ro cA cD su u4.1 u4.2) := hD
  rw [hw]
  obtain rfl := Option.some.inj hM
  subst hQ hAe
  exact W.iret (v := x4) hx hb hr (fun t ht hW => ⟨⟨x4, (u4.1, u4.2), rfl, rfl, ⟨by rw [ht]; exact hP, hD⟩⟩, hS.F ht⟩) hS.2.2 dX4_next_7
def mX4_stirCorridor_6 (N : Nat) (st : RowI) (cA : CS) (su : RowJ) (p3 : Int32) : Nat → Int64 → Int32 → Option Int64
  | 0 => fun _ _ => none
  | n + 1 => fun v4 v6 => (if (6 : Int32) ≤ v6 then
  some v4
  else
  ((mX0_tell N st cA su p3 v6).bind fun x19 =>
  ((mX4_stir N v4 x19).bind fun x22 =>
  (mX4_stirCorridor_6 N st cA su p3 n x22 (v6 + 1)))))
def mX4_stirCorridor (N : Nat) (st : RowI) (cA : CS) (su : RowJ) (p1 : Int64) (p3 : Int32) : Option Int64 :=
  (mX4_stirCorridor_6 N st cA su p3 N p1 (0 : Int32))
abbrev rmX4_stirCorridor : Room := { frames := 4, cells := 0, slots := 0, locals := 91 }
set_option maxHeartbeats 4000000 in
set_option maxRecDepth 100000 in
theorem kX4_stirCorridor_A {l : Launch} {D : va_G} {cI cJ : ClassId} (N : Nat) (a : Nat → Nat) {ho : RowI} {ke : RowI} {hc : Int32} {tr : Int32} {fo : Int32} {fr : Int32} {st : RowI} {co : Int32} {ro : Int32} {cA : CS} {cD : CS} {su : RowJ} {jA : JT} {jD : JT} {p1 : Int64} {p3 : Int32} {o : Int64} (hM : mX4_stirCorridor N st cA su p1 p3 = some o) (sz : Nat) : Met l yX4_stirCorridor wsX4_stirCorridor rmX4_stirCorridor (va_Pc [.long p1, .ref (a 2), .int p3] (Pre D cI cJ (xw a cI cJ ho ke hc tr fo fr st co ro cA cD su jA jD) sz)) (va_Ql (fun (r : Int64) (_ : JT × JT) => r = o) (aft D (xw a cI cJ ho ke hc tr fo fr st co ro cA cD su jA jD) sz (fun (u : JT × JT) => (xw a cI cJ ho ke hc tr fo fr st co ro cA cD su u.1 u.2))) (va_A (xw a cI cJ ho ke hc tr fo fr st co ro cA cD su jA jD) sz)) 0 0 (va_A (xw a cI cJ ho ke hc tr fo fr st co ro cA cD su jA jD) sz) := by
  refine xofW (cc := cX4_stirCorridor) (maxL := 7) (ret := (some .long)) rfl (by decide) rfl ?_
  intro p e s m args below meth c ls Q A hQ hAe hx hb hr hml hown hts hlocks hnm hN hK H locs hP hD hS hA hl
  replace hown : s.vm.findClass RX4 = some m.cls := hown
  replace hl : lv_has ls 7 [(0, .long p1), (2, .ref (a 2)), (3, .int p3)] := hl
  have c6 : ∀ (n : Nat), ∀ (v4 : Int64) (v6 : Int32), mX4_stirCorridor_6 N st cA su p3 n v4 v6 = some o → ∀ (jA' : JT) (jD' : JT) (H : Heap) (locs : List Loc) (ls : Array Slot), va_P D vwCl (xw a cI cJ ho ke hc tr fo fr st co ro cA cD su jA' jD') H → va_D A (xw a cI cJ ho ke hc tr fo fr st co ro cA cD su jA' jD') → va_S A s.heap H locs → lv_has ls 7 [(2, .ref (a 2)), (3, .int p3), (4, .long v4), (6, .int v6)] → W p l e rmX4_stirCorridor s m args below meth c H locs 0 0 Q (F0 m 6 ls []) := by
    intro n
    induction n with
    | zero =>
      intro v4 v6 hM
      rw [mX4_stirCorridor_6] at hM
      cases hM
    | succ n ih =>
      intro v4 v6 hM jA' jD' H locs ls hP hD hS hl
      rw [mX4_stirCorridor_6] at hM
      refine lv_iload hx hb dX4_stirCorridor_6 (lv_at hl 3 rfl) ?_
      refine lv_bipush (v := 6) hx hb dX4_stirCorridor_8 (by decide) ?_
      refine lv_icmp_ge (tgt := 33) hx hb dX4_stirCorridor_10 (by decide) (fun hcc => ?_) (fun hcc => ?_)
      · replace hM := it_p hcc hM
        refine lv_lload hx hb dX4_stirCorridor_33 (lv_at hl 2 rfl) ?_
        obtain rfl := Option.some.inj hM
        subst hQ hAe
        exact W.lret (v := v4) hx hb hr (fun t ht hW => ⟨⟨v4, (jA', jD'), rfl, rfl, ⟨by rw [ht]; exact hP, hD⟩⟩, hS.F ht⟩) hS.2.2 dX4_stirCorridor_35
      · replace hM := it_n hcc hM
        refine lv_lload hx hb dX4_stirCorridor_13 (lv_at hl 2 rfl) ?_
        refine lv_aload_n hx hb dX4_stirCorridor_15 rfl (lv_at hl 0 rfl) ?_
        refine lv_iload_n hx hb dX4_stirCorridor_16 rfl (lv_at hl 1 rfl) ?_
        refine lv_iload hx hb dX4_stirCorridor_17 (lv_at hl 3 rfl) ?_
        obtain ⟨x19, hC, hM⟩ := bd_s hM
        refine cW_i [4, 5, 6, 7, 8, 9, 10, 11, 12, 13, 14, 15] [0, 1, 2, 3] (va_runV (As := [.int p3, .int v6]) (rest := [.long v4]) ⟨hx, hb, hml, hown, hts⟩ (kX0_tell_A (l := l) (D := D) (cI := cI) (cJ := cJ) N a (st := st) (co := co) (ro := ro) (cA := cA) (cD := cD) (su := su) (jA := jA') (jD := jD') (p1 := p3) (p2 := v6) hC H.size) (cwV 2 hts gX4_stirCorridor_X0_tell rfl rfl rfl (by decide +kernel) ⟨Nat.le_of_ble_eq_true rfl, Nat.le_of_ble_eq_true rfl⟩) (preV [.int p3, .int v6] hN hK (hP.sub (ws' := (fw a cI cJ st co ro cA cD su jA' jD')) [4, 5, 6, 7, 8, 9, 10, 11, 12, 13, 14, 15] rfl) (hD.sub (ws' := (fw a cI cJ st co ro cA cD su jA' jD')) [4, 5, 6, 7, 8, 9, 10, 11, 12, 13, 14, 15] (by decide) rfl) (ci := 0) (q0 := 2) rfl rfl) rfl rfl hl.1 rfl (lv_room (Nat.le_of_ble_eq_true rfl)) dX4_stirCorridor_19 ⟨Nat.le_of_ble_eq_true rfl, Nat.le_of_ble_eq_true rfl⟩) hP hD hS hA rfl (wr := ((xw a cI cJ ho ke hc tr fo fr st co ro cA cD su jA' jD')).take 4) rfl (by decide) (by decide) (fun r u19 H locs hw hP hD hS => ?_)
        replace hP : va_P D vwCl (xw a cI cJ ho ke hc tr fo fr st co ro cA cD su u19.1 u19.2) H := hP
        replace hD : va_D A (xw a cI cJ ho ke hc tr fo fr st co ro cA cD su u19.1 u19.2) := hD
        rw [hw]
        obtain ⟨x22, hC, hM⟩ := bd_s hM
        refine cR_l (va_runS (As := [.long v4, .int x19]) (rest := []) ⟨hx, hb, hml, hown, hts⟩ (kX4_stir (l := l) (D := D) (cI := cI) (cJ := cJ) N (p1 := v4) (p2 := x19) hC H.size) (va_cwS 2 hts gX4_stirCorridor_X4_stir rfl rfl rfl (by decide +kernel) ⟨Nat.le_of_ble_eq_true rfl, Nat.le_of_ble_eq_true rfl⟩) (preS [.long v4, .int x19] hN hK (hP.sub (ws' := zw) [] rfl) (hD.sub (ws' := zw) [] (by decide) rfl)) rfl rfl hl.1 rfl (lv_room (Nat.le_of_ble_eq_true rfl)) dX4_stirCorridor_22 ⟨Nat.le_of_ble_eq_true rfl, Nat.le_of_ble_eq_true rfl⟩) hP hS (fun r u H locs hw hP hS => ?_)
        rw [hw]
        refine lv_lstore (lv' := [(4, .long x22), (2, .ref (a 2)), (3, .int p3), (6, .int v6)]) hx hb dX4_stirCorridor_25 hl (by decide) rfl (fun ls hl => ?_)
        refine lv_iinc (v := (v6 + 1)) (lv' := [(6, .int (v6 + 1)), (4, .long x22), (2, .ref (a 2)), (3, .int p3)]) hx hb dX4_stirCorridor_27 hl (k := 3) rfl (by rfl) (by decide) rfl (fun ls hl => ?_)
        refine lv_goto (tgt := 6) hx hb dX4_stirCorridor_30 (by decide) ?_
        exact ih x22 (v6 + 1) hM u19.1 u19.2 H locs ls hP hD hS (lv_sub hl [2, 3, 1, 0] rfl)
  rw [mX4_stirCorridor] at hM
  refine lv_lload_n hx hb dX4_stirCorridor_0 rfl (lv_at hl 0 rfl) ?_
  refine lv_lstore (lv' := [(4, .long p1), (0, .long p1), (2, .ref (a 2)), (3, .int p3)]) hx hb dX4_stirCorridor_1 hl (by decide) rfl (fun ls hl => ?_)
  refine lv_iconst (v := 0) hx hb dX4_stirCorridor_3 (by decide) ?_
  refine lv_istore (lv' := [(6, .int (0 : Int32)), (4, .long p1), (0, .long p1), (2, .ref (a 2)), (3, .int p3)]) hx hb dX4_stirCorridor_4 hl (by decide) rfl (fun ls hl => ?_)
  exact c6 N p1 (0 : Int32) hM jA jD H locs ls hP hD hS (lv_sub hl [3, 4, 1, 0] rfl)
set_option maxHeartbeats 4000000 in
set_option maxRecDepth 100000 in
theorem kX4_stirCorridor_D {l : Launch} {D : va_G} {cI cJ : ClassId} (N : Nat) (a : Nat → Nat) {ho : RowI} {ke : RowI} {hc : Int32} {tr : Int32} {fo : Int32} {fr : Int32} {st : RowI} {co : Int32} {ro : Int32} {cA : CS} {cD : CS} {su : RowJ} {jA : JT} {jD : JT} {p1 : Int64} {p3 : Int32} {o : Int64} (hM : mX4_stirCorridor N st cD su p1 p3 = some o) (sz : Nat) : Met l yX4_stirCorridor wsX4_stirCorridor rmX4_stirCorridor (va_Pc [.long p1, .ref (a 3), .int p3] (Pre D cI cJ (xw a cI cJ ho ke hc tr fo fr st co ro cA cD su jA jD) sz)) (va_Ql (fun (r : Int64) (_ : JT × JT) => r = o) (aft D (xw a cI cJ ho ke hc tr fo fr st co ro cA cD su jA jD) sz (fun (u : JT × JT) => (xw a cI cJ ho ke hc tr fo fr st co ro cA cD su u.1 u.2))) (va_A (xw a cI cJ ho ke hc tr fo fr st co ro cA cD su jA jD) sz)) 0 0 (va_A (xw a cI cJ ho ke hc tr fo fr st co ro cA cD su jA jD) sz) := by
  refine xofW (cc := cX4_stirCorridor) (maxL := 7) (ret := (some .long)) rfl (by decide) rfl ?_
  intro p e s m args below meth c ls Q A hQ hAe hx hb hr hml hown hts hlocks hnm hN hK H locs hP hD hS hA hl
  replace hown : s.vm.findClass RX4 = some m.cls := hown
  replace hl : lv_has ls 7 [(0, .long p1), (2, .ref (a 3)), (3, .int p3)] := hl
  have c6 : ∀ (n : Nat), ∀ (v4 : Int64) (v6 : Int32), mX4_stirCorridor_6 N st cD su p3 n v4 v6 = some o → ∀ (jA' : JT) (jD' : JT) (H : Heap) (locs : List Loc) (ls : Array Slot), va_P D vwCl (xw a cI cJ ho ke hc tr fo fr st co ro cA cD su jA' jD') H → va_D A (xw a cI cJ ho ke hc tr fo fr st co ro cA cD su jA' jD') → va_S A s.heap H locs → lv_has ls 7 [(2, .ref (a 3)), (3, .int p3), (4, .long v4), (6, .int v6)] → W p l e rmX4_stirCorridor s m args below meth c H locs 0 0 Q (F0 m 6 ls []) := by
    intro n
    induction n with
    | zero =>
      intro v4 v6 hM
      rw [mX4_stirCorridor_6] at hM
      cases hM
    | succ n ih =>
      intro v4 v6 hM jA' jD' H locs ls hP hD hS hl
      rw [mX4_stirCorridor_6] at hM
      refine lv_iload hx hb dX4_stirCorridor_6 (lv_at hl 3 rfl) ?_
      refine lv_bipush (v := 6) hx hb dX4_stirCorridor_8 (by decide) ?_
      refine lv_icmp_ge (tgt := 33) hx hb dX4_stirCorridor_10 (by decide) (fun hcc => ?_) (fun hcc => ?_)
      · replace hM := it_p hcc hM
        refine lv_lload hx hb dX4_stirCorridor_33 (lv_at hl 2 rfl) ?_
        obtain rfl := Option.some.inj hM
        subst hQ hAe
        exact W.lret (v := v4) hx hb hr (fun t ht hW => ⟨⟨v4, (jA', jD'), rfl, rfl, ⟨by rw [ht]; exact hP, hD⟩⟩, hS.F ht⟩) hS.2.2 dX4_stirCorridor_35
      · replace hM := it_n hcc hM
        refine lv_lload hx hb dX4_stirCorridor_13 (lv_at hl 2 rfl) ?_
        refine lv_aload_n hx hb dX4_stirCorridor_15 rfl (lv_at hl 0 rfl) ?_
        refine lv_iload_n hx hb dX4_stirCorridor_16 rfl (lv_at hl 1 rfl) ?_
        refine lv_iload hx hb dX4_stirCorridor_17 (lv_at hl 3 rfl) ?_
        obtain ⟨x19, hC, hM⟩ := bd_s hM
        refine cW_i [4, 5, 6, 7, 8, 9, 10, 11, 12, 13, 14, 15] [0, 1, 2, 3] (va_runV (As := [.int p3, .int v6]) (rest := [.long v4]) ⟨hx, hb, hml, hown, hts⟩ (kX0_tell_D (l := l) (D := D) (cI := cI) (cJ := cJ) N a (st := st) (co := co) (ro := ro) (cA := cA) (cD := cD) (su := su) (jA := jA') (jD := jD') (p1 := p3) (p2 := v6) hC H.size) (cwV 2 hts gX4_stirCorridor_X0_tell rfl rfl rfl (by decide +kernel) ⟨Nat.le_of_ble_eq_true rfl, Nat.le_of_ble_eq_true rfl⟩) (preV [.int p3, .int v6] hN hK (hP.sub (ws' := (fw a cI cJ st co ro cA cD su jA' jD')) [4, 5, 6, 7, 8, 9, 10, 11, 12, 13, 14, 15] rfl) (hD.sub (ws' := (fw a cI cJ st co ro cA cD su jA' jD')) [4, 5, 6, 7, 8, 9, 10, 11, 12, 13, 14, 15] (by decide) rfl) (ci := 0) (q0 := 3) rfl rfl) rfl rfl hl.1 rfl (lv_room (Nat.le_of_ble_eq_true rfl)) dX4_stirCorridor_19 ⟨Nat.le_of_ble_eq_true rfl, Nat.le_of_ble_eq_true rfl⟩) hP hD hS hA rfl (wr := ((xw a cI cJ ho ke hc tr fo fr st co ro cA cD su jA' jD')).take 4) rfl (by decide) (by decide) (fun r u19 H locs hw hP hD hS => ?_)
        replace hP : va_P D vwCl (xw a cI cJ ho ke hc tr fo fr st co ro cA cD su u19.1 u19.2) H := hP
        replace hD : va_D A (xw a cI cJ ho ke hc tr fo fr st co ro cA cD su u19.1 u19.2) := hD
        rw [hw]
        obtain ⟨x22, hC, hM⟩ := bd_s hM
        refine cR_l (va_runS (As := [.long v4, .int x19]) (rest := []) ⟨hx, hb, hml, hown, hts⟩ (kX4_stir (l := l) (D := D) (cI := cI) (cJ := cJ) N (p1 := v4) (p2 := x19) hC H.size) (va_cwS 2 hts gX4_stirCorridor_X4_stir rfl rfl rfl (by decide +kernel) ⟨Nat.le_of_ble_eq_true rfl, Nat.le_of_ble_eq_true rfl⟩) (preS [.long v4, .int x19] hN hK (hP.sub (ws' := zw) [] rfl) (hD.sub (ws' := zw) [] (by decide) rfl)) rfl rfl hl.1 rfl (lv_room (Nat.le_of_ble_eq_true rfl)) dX4_stirCorridor_22 ⟨Nat.le_of_ble_eq_true rfl, Nat.le_of_ble_eq_true rfl⟩) hP hS (fun r u H locs hw hP hS => ?_)
        rw [hw]
        refine lv_lstore (lv' := [(4, .long x22), (2, .ref (a 3)), (3, .int p3), (6, .int v6)]) hx hb dX4_stirCorridor_25 hl (by decide) rfl (fun ls hl => ?_)
        refine lv_iinc (v := (v6 + 1)) (lv' := [(6, .int (v6 + 1)), (4, .long x22), (2, .ref (a 3)), (3, .int p3)]) hx hb dX4_stirCorridor_27 hl (k := 3) rfl (by rfl) (by decide) rfl (fun ls hl => ?_)
        refine lv_goto (tgt := 6) hx hb dX4_stirCorridor_30 (by decide) ?_
        exact ih x22 (v6 + 1) hM u19.1 u19.2 H locs ls hP hD hS (lv_sub hl [2, 3, 1, 0] rfl)
  rw [mX4_stirCorridor] at hM
  refine lv_lload_n hx hb dX4_stirCorridor_0 rfl (lv_at hl 0 rfl) ?_
  refine lv_lstore (lv' := [(4, .long p1), (0, .long p1), (2, .ref (a 3)), (3, .int p3)]) hx hb dX4_stirCorridor_1 hl (by decide) rfl (fun ls hl => ?_)
  refine lv_iconst (v := 0) hx hb dX4_stirCorridor_3 (by decide) ?_
  refine lv_istore (lv' := [(6, .int (0 : Int32)), (4, .long p1), (0, .long p1), (2, .ref (a 3)), (3, .int p3)]) hx hb dX4_stirCorridor_4 hl (by decide) rfl (fun ls hl => ?_)
  exact c6 N p1 (0 : Int32) hM jA jD H locs ls hP hD hS (lv_sub hl [3, 4, 1, 0] rfl)
def mX4_stirCell (N : Nat) (st : RowI) (cA : CS) (cD : CS) (su : RowJ) (p1 : Int64) (p2 : Int32) : Option Int64 :=
  ((mX1_stoneAt N st p2).bind fun x6 =>
  ((mX4_stir N p1 x6).bind fun x9 =>
  ((mX0_toldAt N cA p2).bind fun x25 =>
  ((mX4_stir N x9 x25).bind fun x28 =>
  ((mX0_toldAt N cD p2).bind fun x44 =>
  ((mX4_stir N x28 x44).bind fun x47 =>
  ((mX1_numbersFor N st cA cD su p2).bind fun x59 =>
  ((mX4_stir N x47 x59).bind fun x62 =>
  ((mX4_stirCorridor N st cA su x62 p2).bind fun x78 =>
  ((mX4_stirCorridor N st cD su x78 p2).bind fun x94 =>
  some x94))))))))))
abbrev rmX4_stirCell : Room := { frames := 5, cells := 0, slots := 0, locals := 117 }
set_option maxHeartbeats 4000000 in
set_option maxRecDepth 100000 in
theorem kX4_stirCell {l : Launch} {D : va_G} {cI cJ : ClassId} (N : Nat) (a : Nat → Nat) {ho : RowI} {ke : RowI} {hc : Int32} {tr : Int32} {fo : Int32} {fr : Int32} {st : RowI} {co : Int32} {ro : Int32} {cA : CS} {cD : CS} {su : RowJ} {jA : JT} {jD : JT} {p1 : Int64} {p2 : Int32} {o : Int64} (hM : mX4_stirCell N st cA cD su p1 p2 = some o) (sz : Nat) : Met l yX4_stirCell wsX4_stirCell rmX4_stirCell (va_Pc [.ref (a 15), .long p1, .int p2] (Pre D cI cJ (xw a cI cJ ho ke hc tr fo fr st co ro cA cD su jA jD) sz)) (va_Ql (fun (r : Int64) (_ : JT × JT) => r = o) (aft D (xw a cI cJ ho ke hc tr fo fr st co ro cA cD su jA jD) sz (fun (u : JT × JT) => (xw a cI cJ ho ke hc tr fo fr st co ro cA cD su u.1 u.2))) (va_A (xw a cI cJ ho ke hc tr fo fr st co ro cA cD su jA jD) sz)) 0 0 (va_A (xw a cI cJ ho ke hc tr fo fr st co ro cA cD su jA jD) sz) := by
  refine xofW (cc := cX4_stirCell) (maxL := 6) (ret := (some .long)) rfl (by decide) rfl ?_
  intro p e s m args below meth c ls Q A hQ hAe hx hb hr hml hown hts hlocks hnm hN hK H locs hP hD hS hA hl
  replace hown : s.vm.findClass RX4 = some m.cls := hown
  replace hl : lv_has ls 6 [(0, .ref (a 15)), (1, .long p1), (3, .int p2)] := hl
  have iX4 : ∀ w ∈ wsX40, w ∈ wsX4_stirCell := by decide +kernel
  have f10 := hts (.fieldLink RX4 10 "CryptSums" "floor" "LCryptSums$Floor;") (by decide +kernel)
  rw [mX4_stirCell] at hM
  refine lv_lload_n hx hb dX4_stirCell_0 rfl (lv_at hl 1 rfl) ?_
  refine lv_aload_n hx hb dX4_stirCell_1 rfl (lv_at hl 0 rfl) ?_
  refine va_get (D := D) (ci := 4) (v := .ref (a 0)) (C := RX4) (T := TX4) (N := 2) hx hb hts iX4 hown hK hP 3 rfl rfl 0 (by decide) f10 (fun _ h9 => h9) rfl dX4_stirCell_2 ?_
  refine lv_iload_n hx hb dX4_stirCell_5 rfl (lv_at hl 2 rfl) ?_
  obtain ⟨x6, hC, hM⟩ := bd_s hM
  refine cR_i (va_runV (As := [.int p2]) (rest := [.long p1]) ⟨hx, hb, hml, hown, hts⟩ (kX1_stoneAt (l := l) (D := D) (cI := cI) (cJ := cJ) N a (st := st) (co := co) (ro := ro) (cA := cA) (cD := cD) (su := su) (jA := jA) (jD := jD) (p1 := p2) hC H.size) (cwV 1 hts gX4_stirCell_X1_stoneAt rfl rfl rfl (by decide +kernel) ⟨Nat.le_of_ble_eq_true rfl, Nat.le_of_ble_eq_true rfl⟩) (preV [.int p2] hN hK (hP.sub (ws' := (fw a cI cJ st co ro cA cD su jA jD)) [4, 5, 6, 7, 8, 9, 10, 11, 12, 13, 14, 15] rfl) (hD.sub (ws' := (fw a cI cJ st co ro cA cD su jA jD)) [4, 5, 6, 7, 8, 9, 10, 11, 12, 13, 14, 15] (by decide) rfl) (ci := 1) (q0 := 0) rfl rfl) rfl rfl hl.1 rfl (lv_room (Nat.le_of_ble_eq_true rfl)) dX4_stirCell_6 ⟨Nat.le_of_ble_eq_true rfl, Nat.le_of_ble_eq_true rfl⟩) hP hS (fun r u H locs hw hP hS => ?_)
  rw [hw]
  obtain ⟨x9, hC, hM⟩ := bd_s hM
  refine cR_l (va_runS (As := [.long p1, .int x6]) (rest := []) ⟨hx, hb, hml, hown, hts⟩ (kX4_stir (l := l) (D := D) (cI := cI) (cJ := cJ) N (p1 := p1) (p2 := x6) hC H.size) (va_cwS 2 hts gX4_stirCell_X4_stir rfl rfl rfl (by decide +kernel) ⟨Nat.le_of_ble_eq_true rfl, Nat.le_of_ble_eq_true rfl⟩) (preS [.long p1, .int x6] hN hK (hP.sub (ws' := zw) [] rfl) (hD.sub (ws' := zw) [] (by decide) rfl)) rfl rfl hl.1 rfl (lv_room (Nat.le_of_ble_eq_true rfl)) dX4_stirCell_9 ⟨Nat.le_of_ble_eq_true rfl, Nat.le_of_ble_eq_true rfl⟩) hP hS (fun r u H locs hw hP hS => ?_)
  rw [hw]
  refine lv_lstore (lv' := [(4, .long x9), (0, .ref (a 15)), (1, .long p1), (3, .int p2)]) hx hb dX4_stirCell_12 hl (by decide) rfl (fun ls hl => ?_)
  refine lv_lload hx hb dX4_stirCell_14 (lv_at hl 0 rfl) ?_
  refine lv_aload_n hx hb dX4_stirCell_16 rfl (lv_at hl 1 rfl) ?_
  refine va_get (D := D) (ci := 4) (v := .ref (a 0)) (C := RX4) (T := TX4) (N := 2) hx hb hts iX4 hown hK hP 3 rfl rfl 0 (by decide) f10 (fun _ h9 => h9) rfl dX4_stirCell_17 ?_
  refine lv_iconst (v := 0) hx hb dX4_stirCell_20 (by decide) ?_
  refine cR_r (ra := (a 2)) (va_runV (As := [.int (0 : Int32)]) (rest := [.long x9]) ⟨hx, hb, hml, hown, hts⟩ (kX1_corridors_A (l := l) (D := D) (cI := cI) (cJ := cJ) a (st := st) (co := co) (ro := ro) (cA := cA) (cD := cD) (su := su) (jA := jA) (jD := jD) (by decide) H.size) (cwV 1 hts gX4_stirCell_X1_corridors rfl rfl rfl (by decide +kernel) ⟨Nat.le_of_ble_eq_true rfl, Nat.le_of_ble_eq_true rfl⟩) (preV [.int (0 : Int32)] hN hK (hP.sub (ws' := (fw a cI cJ st co ro cA cD su jA jD)) [4, 5, 6, 7, 8, 9, 10, 11, 12, 13, 14, 15] rfl) (hD.sub (ws' := (fw a cI cJ st co ro cA cD su jA jD)) [4, 5, 6, 7, 8, 9, 10, 11, 12, 13, 14, 15] (by decide) rfl) (ci := 1) (q0 := 0) rfl rfl) rfl rfl hl.1 rfl (lv_room (Nat.le_of_ble_eq_true rfl)) dX4_stirCell_21 ⟨Nat.le_of_ble_eq_true rfl, Nat.le_of_ble_eq_true rfl⟩) hP hS (fun H locs hP hS => ?_)
  refine lv_iload_n hx hb dX4_stirCell_24 rfl (lv_at hl 3 rfl) ?_
  obtain ⟨x25, hC, hM⟩ := bd_s hM
  refine cR_i (va_runV (As := [.int p2]) (rest := [.long x9]) ⟨hx, hb, hml, hown, hts⟩ (kX0_toldAt_A (l := l) (D := D) (cI := cI) (cJ := cJ) N a (st := st) (co := co) (ro := ro) (cA := cA) (cD := cD) (su := su) (jA := jA) (jD := jD) (p1 := p2) hC H.size) (cwV 1 hts gX4_stirCell_X0_toldAt rfl rfl rfl (by decide +kernel) ⟨Nat.le_of_ble_eq_true rfl, Nat.le_of_ble_eq_true rfl⟩) (preV [.int p2] hN hK (hP.sub (ws' := (fw a cI cJ st co ro cA cD su jA jD)) [4, 5, 6, 7, 8, 9, 10, 11, 12, 13, 14, 15] rfl) (hD.sub (ws' := (fw a cI cJ st co ro cA cD su jA jD)) [4, 5, 6, 7, 8, 9, 10, 11, 12, 13, 14, 15] (by decide) rfl) (ci := 0) (q0 := 2) rfl rfl) rfl rfl hl.1 rfl (lv_room (Nat.le_of_ble_eq_true rfl)) dX4_stirCell_25 ⟨Nat.le_of_ble_eq_true rfl, Nat.le_of_ble_eq_true rfl⟩) hP hS (fun r u H locs hw hP hS => ?_)
  rw [hw]
  obtain ⟨x28, hC, hM⟩ := bd_s hM
  refine cR_l (va_runS (As := [.long x9, .int x25]) (rest := []) ⟨hx, hb, hml, hown, hts⟩ (kX4_stir (l := l) (D := D) (cI := cI) (cJ := cJ) N (p1 := x9) (p2 := x25) hC H.size) (va_cwS 2 hts gX4_stirCell_X4_stir rfl rfl rfl (by decide +kernel) ⟨Nat.le_of_ble_eq_true rfl, Nat.le_of_ble_eq_true rfl⟩) (preS [.long x9, .int x25] hN hK (hP.sub (ws' := zw) [] rfl) (hD.sub (ws' := zw) [] (by decide) rfl)) rfl rfl hl.1 rfl (lv_room (Nat.le_of_ble_eq_true rfl)) dX4_stirCell_28 ⟨Nat.le_of_ble_eq_true rfl, Nat.le_of_ble_eq_true rfl⟩) hP hS (fun r u H locs hw hP hS => ?_)
  rw [hw]
  refine lv_lstore (lv' := [(4, .long x28), (0, .ref (a 15)), (1, .long p1), (3, .int p2)]) hx hb dX4_stirCell_31 hl (by decide) rfl (fun ls hl => ?_)
  refine lv_lload hx hb dX4_stirCell_33 (lv_at hl 0 rfl) ?_
  refine lv_aload_n hx hb dX4_stirCell_35 rfl (lv_at hl 1 rfl) ?_
  refine va_get (D := D) (ci := 4) (v := .ref (a 0)) (C := RX4) (T := TX4) (N := 2) hx hb hts iX4 hown hK hP 3 rfl rfl 0 (by decide) f10 (fun _ h9 => h9) rfl dX4_stirCell_36 ?_
  refine lv_iconst (v := 1) hx hb dX4_stirCell_39 (by decide) ?_
  refine cR_r (ra := (a 3)) (va_runV (As := [.int (1 : Int32)]) (rest := [.long x28]) ⟨hx, hb, hml, hown, hts⟩ (kX1_corridors_D (l := l) (D := D) (cI := cI) (cJ := cJ) a (st := st) (co := co) (ro := ro) (cA := cA) (cD := cD) (su := su) (jA := jA) (jD := jD) (by decide) H.size) (cwV 1 hts gX4_stirCell_X1_corridors rfl rfl rfl (by decide +kernel) ⟨Nat.le_of_ble_eq_true rfl, Nat.le_of_ble_eq_true rfl⟩) (preV [.int (1 : Int32)] hN hK (hP.sub (ws' := (fw a cI cJ st co ro cA cD su jA jD)) [4, 5, 6, 7, 8, 9, 10, 11, 12, 13, 14, 15] rfl) (hD.sub (ws' := (fw a cI cJ st co ro cA cD su jA jD)) [4, 5, 6, 7, 8, 9, 10, 11, 12, 13, 14, 15] (by decide) rfl) (ci := 1) (q0 := 0) rfl rfl) rfl rfl hl.1 rfl (lv_room (Nat.le_of_ble_eq_true rfl)) dX4_stirCell_40 ⟨Nat.le_of_ble_eq_true rfl, Nat.le_of_ble_eq_true rfl⟩) hP hS (fun H locs hP hS => ?_)
  refine lv_iload_n hx hb dX4_stirCell_43 rfl (lv_at hl 3 rfl) ?_
  obtain ⟨x44, hC, hM⟩ := bd_s hM
  refine cR_i (va_runV (As := [.int p2]) (rest := [.long x28]) ⟨hx, hb, hml, hown, hts⟩ (kX0_toldAt_D (l := l) (D := D) (cI := cI) (cJ := cJ) N a (st := st) (co := co) (ro := ro) (cA := cA) (cD := cD) (su := su) (jA := jA) (jD := jD) (p1 := p2) hC H.size) (cwV 1 hts gX4_stirCell_X0_toldAt rfl rfl rfl (by decide +kernel) ⟨Nat.le_of_ble_eq_true rfl, Nat.le_of_ble_eq_true rfl⟩) (preV [.int p2] hN hK (hP.sub (ws' := (fw a cI cJ st co ro cA cD su jA jD)) [4, 5, 6, 7, 8, 9, 10, 11, 12, 13, 14, 15] rfl) (hD.sub (ws' := (fw a cI cJ st co ro cA cD su jA jD)) [4, 5, 6, 7, 8, 9, 10, 11, 12, 13, 14, 15] (by decide) rfl) (ci := 0) (q0 := 3) rfl rfl) rfl rfl hl.1 rfl (lv_room (Nat.le_of_ble_eq_true rfl)) dX4_stirCell_44 ⟨Nat.le_of_ble_eq_true rfl, Nat.le_of_ble_eq_true rfl⟩) hP hS (fun r u H locs hw hP hS => ?_)
  rw [hw]
  obtain ⟨x47, hC, hM⟩ := bd_s hM
  refine cR_l (va_runS (As := [.long x28, .int x44]) (rest := []) ⟨hx, hb, hml, hown, hts⟩ (kX4_stir (l := l) (D := D) (cI := cI) (cJ := cJ) N (p1 := x28) (p2 := x44) hC H.size) (va_cwS 2 hts gX4_stirCell_X4_stir rfl rfl rfl (by decide +kernel) ⟨Nat.le_of_ble_eq_true rfl, Nat.le_of_ble_eq_true rfl⟩) (preS [.long x28, .int x44] hN hK (hP.sub (ws' := zw) [] rfl) (hD.sub (ws' := zw) [] (by decide) rfl)) rfl rfl hl.1 rfl (lv_room (Nat.le_of_ble_eq_true rfl)) dX4_stirCell_47 ⟨Nat.le_of_ble_eq_true rfl, Nat.le_of_ble_eq_true rfl⟩) hP hS (fun r u H locs hw hP hS => ?_)
  rw [hw]
  refine lv_lstore (lv' := [(4, .long x47), (0, .ref (a 15)), (1, .long p1), (3, .int p2)]) hx hb dX4_stirCell_50 hl (by decide) rfl (fun ls hl => ?_)
  refine lv_lload hx hb dX4_stirCell_52 (lv_at hl 0 rfl) ?_
  refine lv_aload_n hx hb dX4_stirCell_54 rfl (lv_at hl 1 rfl) ?_
  refine va_get (D := D) (ci := 4) (v := .ref (a 0)) (C := RX4) (T := TX4) (N := 2) hx hb hts iX4 hown hK hP 3 rfl rfl 0 (by decide) f10 (fun _ h9 => h9) rfl dX4_stirCell_55 ?_
  refine lv_iload_n hx hb dX4_stirCell_58 rfl (lv_at hl 3 rfl) ?_
  obtain ⟨x59, hC, hM⟩ := bd_s hM
  refine cW_i [4, 5, 6, 7, 8, 9, 10, 11, 12, 13, 14, 15] [0, 1, 2, 3] (va_runV (As := [.int p2]) (rest := [.long x47]) ⟨hx, hb, hml, hown, hts⟩ (kX1_numbersFor (l := l) (D := D) (cI := cI) (cJ := cJ) N a (st := st) (co := co) (ro := ro) (cA := cA) (cD := cD) (su := su) (jA := jA) (jD := jD) (p1 := p2) hC H.size) (cwV 1 hts gX4_stirCell_X1_numbersFor rfl rfl rfl (by decide +kernel) ⟨Nat.le_of_ble_eq_true rfl, Nat.le_of_ble_eq_true rfl⟩) (preV [.int p2] hN hK (hP.sub (ws' := (fw a cI cJ st co ro cA cD su jA jD)) [4, 5, 6, 7, 8, 9, 10, 11, 12, 13, 14, 15] rfl) (hD.sub (ws' := (fw a cI cJ st co ro cA cD su jA jD)) [4, 5, 6, 7, 8, 9, 10, 11, 12, 13, 14, 15] (by decide) rfl) (ci := 1) (q0 := 0) rfl rfl) rfl rfl hl.1 rfl (lv_room (Nat.le_of_ble_eq_true rfl)) dX4_stirCell_59 ⟨Nat.le_of_ble_eq_true rfl, Nat.le_of_ble_eq_true rfl⟩) hP hD hS hA rfl (wr := ((xw a cI cJ ho ke hc tr fo fr st co ro cA cD su jA jD)).take 4) rfl (by decide) (by decide) (fun r u59 H locs hw hP hD hS => ?_)
  replace hP : va_P D vwCl (xw a cI cJ ho ke hc tr fo fr st co ro cA cD su u59.1 u59.2) H := hP
  replace hD : va_D A (xw a cI cJ ho ke hc tr fo fr st co ro cA cD su u59.1 u59.2) := hD
  rw [hw]
  obtain ⟨x62, hC, hM⟩ := bd_s hM
  refine cR_l (va_runS (As := [.long x47, .int x59]) (rest := []) ⟨hx, hb, hml, hown, hts⟩ (kX4_stir (l := l) (D := D) (cI := cI) (cJ := cJ) N (p1 := x47) (p2 := x59) hC H.size) (va_cwS 2 hts gX4_stirCell_X4_stir rfl rfl rfl (by decide +kernel) ⟨Nat.le_of_ble_eq_true rfl, Nat.le_of_ble_eq_true rfl⟩) (preS [.long x47, .int x59] hN hK (hP.sub (ws' := zw) [] rfl) (hD.sub (ws' := zw) [] (by decide) rfl)) rfl rfl hl.1 rfl (lv_room (Nat.le_of_ble_eq_true rfl)) dX4_stirCell_62 ⟨Nat.le_of_ble_eq_true rfl, Nat.le_of_ble_eq_true rfl⟩) hP hS (fun r u H locs hw hP hS => ?_)
  rw [hw]
  refine lv_lstore (lv' := [(4, .long x62), (0, .ref (a 15)), (1, .long p1), (3, .int p2)]) hx hb dX4_stirCell_65 hl (by decide) rfl (fun ls hl => ?_)
  refine lv_lload hx hb dX4_stirCell_67 (lv_at hl 0 rfl) ?_
  refine lv_aload_n hx hb dX4_stirCell_69 rfl (lv_at hl 1 rfl) ?_
  refine va_get (D := D) (ci := 4) (v := .ref (a 0)) (C := RX4) (T := TX4) (N := 2) hx hb hts iX4 hown hK hP 3 rfl rfl 0 (by decide) f10 (fun _ h9 => h9) rfl dX4_stirCell_70 ?_
  refine lv_iconst (v := 0) hx hb dX4_stirCell_73 (by decide) ?_
  refine cR_r (ra := (a 2)) (va_runV (As := [.int (0 : Int32)]) (rest := [.long x62]) ⟨hx, hb, hml, hown, hts⟩ (kX1_corridors_A (l := l) (D := D) (cI := cI) (cJ := cJ) a (st := st) (co := co) (ro := ro) (cA := cA) (cD := cD) (su := su) (jA := u59.1) (jD := u59.2) (by decide) H.size) (cwV 1 hts gX4_stirCell_X1_corridors rfl rfl rfl (by decide +kernel) ⟨Nat.le_of_ble_eq_true rfl, Nat.le_of_ble_eq_true rfl⟩) (preV [.int (0 : Int32)] hN hK (hP.sub (ws' := (fw a cI cJ st co ro cA cD su u59.1 u59.2)) [4, 5, 6, 7, 8, 9, 10, 11, 12, 13, 14, 15] rfl) (hD.sub (ws' := (fw a cI cJ st co ro cA cD su u59.1 u59.2)) [4, 5, 6, 7, 8, 9, 10, 11, 12, 13, 14, 15] (by decide) rfl) (ci := 1) (q0 := 0) rfl rfl) rfl rfl hl.1 rfl (lv_room (Nat.le_of_ble_eq_true rfl)) dX4_stirCell_74 ⟨Nat.le_of_ble_eq_true rfl, Nat.le_of_ble_eq_true rfl⟩) hP hS (fun H locs hP hS => ?_)
  refine lv_iload_n hx hb dX4_stirCell_77 rfl (lv_at hl 3 rfl) ?_
  obtain ⟨x78, hC, hM⟩ := bd_s hM
  refine cW_l [0, 1, 2, 3, 4, 5, 6, 7, 8, 9, 10, 11, 12, 13, 14, 15] [] (va_runS (As := [.long x62, .ref (a 2), .int p2]) (rest := []) ⟨hx, hb, hml, hown, hts⟩ (kX4_stirCorridor_A (l := l) (D := D) (cI := cI) (cJ := cJ) N a (ho := ho) (ke := ke) (hc := hc) (tr := tr) (fo := fo) (fr := fr) (st := st) (co := co) (ro := ro) (cA := cA) (cD := cD) (su := su) (jA := u59.1) (jD := u59.2) (p1 := x62) (p3 := p2) hC H.size) (va_cwS 3 hts gX4_stirCell_X4_stirCorridor rfl rfl rfl (by decide +kernel) ⟨Nat.le_of_ble_eq_true rfl, Nat.le_of_ble_eq_true rfl⟩) (preS [.long x62, .ref (a 2), .int p2] hN hK hP hD) rfl rfl hl.1 rfl (lv_room (Nat.le_of_ble_eq_true rfl)) dX4_stirCell_78 ⟨Nat.le_of_ble_eq_true rfl, Nat.le_of_ble_eq_true rfl⟩) hP hD hS hA rfl (wr := []) rfl (by decide) (by decide) (fun r u78 H locs hw hP hD hS => ?_)
  replace hP : va_P D vwCl (xw a cI cJ ho ke hc tr fo fr st co ro cA cD su u78.1 u78.2) H := hP
  replace hD : va_D A (xw a cI cJ ho ke hc tr fo fr st co ro cA cD su u78.1 u78.2) := hD
  rw [hw]
  refine lv_lstore (lv' := [(4, .long x78), (0, .ref (a 15)), (1, .long p1), (3, .int p2)]) hx hb dX4_stirCell_81 hl (by decide) rfl (fun ls hl => ?_)
  refine lv_lload hx hb dX4_stirCell_83 (lv_at hl 0 rfl) ?_
  refine lv_aload_n hx hb dX4_stirCell_85 rfl (lv_at hl 1 rfl) ?_
  refine va_get (D := D) (ci := 4) (v := .ref (a 0)) (C := RX4) (T := TX4) (N := 2) hx hb hts iX4 hown hK hP 3 rfl rfl 0 (by decide) f10 (fun _ h9 => h9) rfl dX4_stirCell_86 ?_
  refine lv_iconst (v := 1) hx hb dX4_stirCell_89 (by decide) ?_
  refine cR_r (ra := (a 3)) (va_runV (As := [.int (1 : Int32)]) (rest := [.long x78]) ⟨hx, hb, hml, hown, hts⟩ (kX1_corridors_D (l := l) (D := D) (cI := cI) (cJ := cJ) a (st := st) (co := co) (ro := ro) (cA := cA) (cD := cD) (su := su) (jA := u78.1) (jD := u78.2) (by decide) H.size) (cwV 1 hts gX4_stirCell_X1_corridors rfl rfl rfl (by decide +kernel) ⟨Nat.le_of_ble_eq_true rfl, Nat.le_of_ble_eq_true rfl⟩) (preV [.int (1 : Int32)] hN hK (hP.sub (ws' := (fw a cI cJ st co ro cA cD su u78.1 u78.2)) [4, 5, 6, 7, 8, 9, 10, 11, 12, 13, 14, 15] rfl) (hD.sub (ws' := (fw a cI cJ st co ro cA cD su u78.1 u78.2)) [4, 5, 6, 7, 8, 9, 10, 11, 12, 13, 14, 15] (by decide) rfl) (ci := 1) (q0 := 0) rfl rfl) rfl rfl hl.1 rfl (lv_room (Nat.le_of_ble_eq_true rfl)) dX4_stirCell_90 ⟨Nat.le_of_ble_eq_true rfl, Nat.le_of_ble_eq_true rfl⟩) hP hS (fun H locs hP hS => ?_)
  refine lv_iload_n hx hb dX4_stirCell_93 rfl (lv_at hl 3 rfl) ?_
  obtain ⟨x94, hC, hM⟩ := bd_s hM
  refine cW_l [0, 1, 2, 3, 4, 5, 6, 7, 8, 9, 10, 11, 12, 13, 14, 15] [] (va_runS (As := [.long x78, .ref (a 3), .int p2]) (rest := []) ⟨hx, hb, hml, hown, hts⟩ (kX4_stirCorridor_D (l := l) (D := D) (cI := cI) (cJ := cJ) N a (ho := ho) (ke := ke) (hc := hc) (tr := tr) (fo := fo) (fr := fr) (st := st) (co := co) (ro := ro) (cA := cA) (cD := cD) (su := su) (jA := u78.1) (jD := u78.2) (p1 := x78) (p3 := p2) hC H.size) (va_cwS 3 hts gX4_stirCell_X4_stirCorridor rfl rfl rfl (by decide +kernel) ⟨Nat.le_of_ble_eq_true rfl, Nat.le_of_ble_eq_true rfl⟩) (preS [.long x78, .ref (a 3), .int p2] hN hK hP hD) rfl rfl hl.1 rfl (lv_room (Nat.le_of_ble_eq_true rfl)) dX4_stirCell_94 ⟨Nat.le_of_ble_eq_true rfl, Nat.le_of_ble_eq_true rfl⟩) hP hD hS hA rfl (wr := []) rfl (by decide) (by decide) (fun r u94 H locs hw hP hD hS => ?_)
  replace hP : va_P D vwCl (xw a cI cJ ho ke hc tr fo fr st co ro cA cD su u94.1 u94.2) H := hP
  replace hD : va_D A (xw a cI cJ ho ke hc tr fo fr st co ro cA cD su u94.1 u94.2) := hD
  rw [hw]
  obtain rfl := Option.some.inj hM
  subst hQ hAe
  exact W.lret (v := x94) hx hb hr (fun t ht hW => ⟨⟨x94, (u94.1, u94.2), rfl, rfl, ⟨by rw [ht]; exact hP, hD⟩⟩, hS.F ht⟩) hS.2.2 dX4_stirCell_97
def mX4_digest_33 (N : Nat) (ho : RowI) (ke : RowI) (hc : Int32) (tr : Int32) (fo : Int32) (fr : Int32) (st : RowI) (co : Int32) (ro : Int32) (cA : CS) (cD : CS) (su : RowJ) : Nat → Int64 → Int32 → Option (Int64 × RowI × RowI × Int32 × Int32 × Int32 × Int32 × RowI)
  | 0 => fun _ _ => none
  | n + 1 => fun v1 v3 => ((mX1_cells N co ro).bind fun x38 =>
  (if x38 ≤ v3 then
  ((mX3_refresh N ho ke hc tr fo fr st co ro cA cD su).bind fun x61 =>
  ((mX3_told N x61.2.2.2.1 x61.2.2.2.2.1).bind fun x69 =>
  ((mX4_stir N v1 x69).bind fun x72 =>
  ((mX3_tried N x61.2.2.2.1).bind fun x81 =>
  ((mX4_stir N x72 x81).bind fun x84 =>
  some (x84, x61.1, x61.2.1, x61.2.2.1, x61.2.2.2.1, x61.2.2.2.2.1, x61.2.2.2.2.2.1, x61.2.2.2.2.2.2))))))
  else
  ((mX4_stirCell N st cA cD su v1 v3).bind fun x47 =>
  (mX4_digest_33 N ho ke hc tr fo fr st co ro cA cD su n x47 (v3 + 1)))))
def mX4_digest_6 (N : Nat) (ho : RowI) (ke : RowI) (hc : Int32) (tr : Int32) (fo : Int32) (fr : Int32) (st : RowI) (co : Int32) (ro : Int32) (cA : CS) (cD : CS) (su : RowJ) : Nat → Int64 → Int32 → Option (Int64 × RowI × RowI × Int32 × Int32 × Int32 × Int32 × RowI)
  | 0 => fun _ _ => none
  | n + 1 => fun v1 v3 => (if (9 : Int32) ≤ v3 then
  (mX4_digest_33 N ho ke hc tr fo fr st co ro cA cD su N v1 (0 : Int32))
  else
  ((mX1_tally N st co ro cA cD su v3).bind fun x18 =>
  ((mX4_stir N v1 x18).bind fun x21 =>
  (mX4_digest_6 N ho ke hc tr fo fr st co ro cA cD su n x21 (v3 + 1)))))
def mX4_digest (N : Nat) (ho : RowI) (ke : RowI) (hc : Int32) (tr : Int32) (fo : Int32) (fr : Int32) (st : RowI) (co : Int32) (ro : Int32) (cA : CS) (cD : CS) (su : RowJ) : Option (Int64 × RowI × RowI × Int32 × Int32 × Int32 × Int32 × RowI) :=
  (mX4_digest_6 N ho ke hc tr fo fr st co ro cA cD su N (1663 : Int64) (0 : Int32))
abbrev rmX4_digest : Room := { frames := 46, cells := 0, slots := 0, locals := 1140 }
set_option maxHeartbeats 4000000 in
set_option maxRecDepth 100000 in
theorem kX4_digest {l : Launch} {D : va_G} {cI cJ : ClassId} (N : Nat) (a : Nat → Nat) {ho : RowI} {ke : RowI} {hc : Int32} {tr : Int32} {fo : Int32} {fr : Int32} {st : RowI} {co : Int32} {ro : Int32} {cA : CS} {cD : CS} {su : RowJ} {jA : JT} {jD : JT} {o : (Int64 × RowI × RowI × Int32 × Int32 × Int32 × Int32 × RowI)} (hM : mX4_digest N ho ke hc tr fo fr st co ro cA cD su = some o) (sz : Nat) : Met l yX4_digest wsX4_digest rmX4_digest (va_Pc [.ref (a 15)] (Pre D cI cJ (xw a cI cJ ho ke hc tr fo fr st co ro cA cD su jA jD) sz)) (va_Ql (fun (r : Int64) (_ : JT × JT) => r = o.1) (aft D (xw a cI cJ ho ke hc tr fo fr st co ro cA cD su jA jD) sz (fun (u : JT × JT) => (xw a cI cJ o.2.1 o.2.2.1 o.2.2.2.1 o.2.2.2.2.1 o.2.2.2.2.2.1 o.2.2.2.2.2.2.1 o.2.2.2.2.2.2.2 co ro cA cD su u.1 u.2))) (va_A (xw a cI cJ ho ke hc tr fo fr st co ro cA cD su jA jD) sz)) 0 0 (va_A (xw a cI cJ ho ke hc tr fo fr st co ro cA cD su jA jD) sz) := by
  refine xofW (cc := cX4_digest) (maxL := 4) (ret := (some .long)) rfl (by decide) rfl ?_
  intro p e s m args below meth c ls Q A hQ hAe hx hb hr hml hown hts hlocks hnm hN hK H locs hP hD hS hA hl
  replace hown : s.vm.findClass RX4 = some m.cls := hown
  replace hl : lv_has ls 4 [(0, .ref (a 15))] := hl
  have iX4 : ∀ w ∈ wsX40, w ∈ wsX4_digest := by decide +kernel
  have f10 := hts (.fieldLink RX4 10 "CryptSums" "floor" "LCryptSums$Floor;") (by decide +kernel)
  have f21 := hts (.fieldLink RX4 21 "CryptSums" "search" "LCryptSums$Search;") (by decide +kernel)
  have c33 : ∀ (n : Nat), ∀ (v1 : Int64) (v3 : Int32), mX4_digest_33 N ho ke hc tr fo fr st co ro cA cD su n v1 v3 = some o → ∀ (jA' : JT) (jD' : JT) (H : Heap) (locs : List Loc) (ls : Array Slot), va_P D vwCl (xw a cI cJ ho ke hc tr fo fr st co ro cA cD su jA' jD') H → va_D A (xw a cI cJ ho ke hc tr fo fr st co ro cA cD su jA' jD') → va_S A s.heap H locs → lv_has ls 4 [(0, .ref (a 15)), (1, .long v1), (3, .int v3)] → W p l e rmX4_digest s m args below meth c H locs 0 0 Q (F0 m 33 ls []) := by
    intro n
    induction n with
    | zero =>
      intro v1 v3 hM
      rw [mX4_digest_33] at hM
      cases hM
    | succ n ih =>
      intro v1 v3 hM jA' jD' H locs ls hP hD hS hl
      rw [mX4_digest_33] at hM
      refine lv_iload_n hx hb dX4_digest_33 rfl (lv_at hl 2 rfl) ?_
      refine lv_aload_n hx hb dX4_digest_34 rfl (lv_at hl 0 rfl) ?_
      refine va_get (D := D) (ci := 4) (v := .ref (a 0)) (C := RX4) (T := TX4) (N := 2) hx hb hts iX4 hown hK hP 3 rfl rfl 0 (by decide) f10 (fun _ h9 => h9) rfl dX4_digest_35 ?_
      obtain ⟨x38, hC, hM⟩ := bd_s hM
      refine cR_i (va_runV (As := []) (rest := [.int v3]) ⟨hx, hb, hml, hown, hts⟩ (kX1_cells (l := l) (D := D) (cI := cI) (cJ := cJ) N a (st := st) (co := co) (ro := ro) (cA := cA) (cD := cD) (su := su) (jA := jA') (jD := jD') hC H.size) (cwV 0 hts gX4_digest_X1_cells rfl rfl rfl (by decide +kernel) ⟨Nat.le_of_ble_eq_true rfl, Nat.le_of_ble_eq_true rfl⟩) (preV [] hN hK (hP.sub (ws' := (fw a cI cJ st co ro cA cD su jA' jD')) [4, 5, 6, 7, 8, 9, 10, 11, 12, 13, 14, 15] rfl) (hD.sub (ws' := (fw a cI cJ st co ro cA cD su jA' jD')) [4, 5, 6, 7, 8, 9, 10, 11, 12, 13, 14, 15] (by decide) rfl) (ci := 1) (q0 := 0) rfl rfl) rfl rfl hl.1 rfl (lv_room (Nat.le_of_ble_eq_true rfl)) dX4_digest_38 ⟨Nat.le_of_ble_eq_true rfl, Nat.le_of_ble_eq_true rfl⟩) hP hS (fun r u H locs hw hP hS => ?_)
      rw [hw]
      refine lv_icmp_ge (tgt := 57) hx hb dX4_digest_41 (by decide) (fun hcc => ?_) (fun hcc => ?_)
      · replace hM := it_p hcc hM
        refine lv_aload_n hx hb dX4_digest_57 rfl (lv_at hl 0 rfl) ?_
        refine va_get (D := D) (ci := 4) (v := .ref (a 12)) (C := RX4) (T := TX4) (N := 2) hx hb hts iX4 hown hK hP 3 rfl rfl 1 (by decide) f21 (fun _ h9 => h9) rfl dX4_digest_58 ?_
        obtain ⟨x61, hC, hM⟩ := bd_s hM
        refine cW_v [0, 1, 2, 3, 4, 5, 6, 7, 8, 9, 10, 11, 12, 13, 14, 15] [] (va_runV (As := []) (rest := []) ⟨hx, hb, hml, hown, hts⟩ (kX3_refresh (l := l) (D := D) (cI := cI) (cJ := cJ) N a (ho := ho) (ke := ke) (hc := hc) (tr := tr) (fo := fo) (fr := fr) (st := st) (co := co) (ro := ro) (cA := cA) (cD := cD) (su := su) (jA := jA') (jD := jD') hC H.size) (cwV 0 hts gX4_digest_X3_refresh rfl rfl rfl (by decide +kernel) ⟨Nat.le_of_ble_eq_true rfl, Nat.le_of_ble_eq_true rfl⟩) (preV [] hN hK hP hD (ci := 3) (q0 := 0) rfl rfl) rfl rfl hl.1 rfl (lv_room (Nat.le_of_ble_eq_true rfl)) dX4_digest_61 ⟨Nat.le_of_ble_eq_true rfl, Nat.le_of_ble_eq_true rfl⟩) hP hD hS hA rfl (wr := []) rfl (by decide) (by decide) (fun u61 H locs hw hP hD hS => ?_)
        replace hP : va_P D vwCl (xw a cI cJ x61.1 x61.2.1 x61.2.2.1 x61.2.2.2.1 x61.2.2.2.2.1 x61.2.2.2.2.2.1 x61.2.2.2.2.2.2 co ro cA cD su u61.1 u61.2) H := hP
        replace hD : va_D A (xw a cI cJ x61.1 x61.2.1 x61.2.2.1 x61.2.2.2.1 x61.2.2.2.2.1 x61.2.2.2.2.2.1 x61.2.2.2.2.2.2 co ro cA cD su u61.1 u61.2) := hD
        refine lv_lload_n hx hb dX4_digest_64 rfl (lv_at hl 1 rfl) ?_
        refine lv_aload_n hx hb dX4_digest_65 rfl (lv_at hl 0 rfl) ?_
        refine va_get (D := D) (ci := 4) (v := .ref (a 12)) (C := RX4) (T := TX4) (N := 2) hx hb hts iX4 hown hK hP 3 rfl rfl 1 (by decide) f21 (fun _ h9 => h9) rfl dX4_digest_66 ?_
        obtain ⟨x69, hC, hM⟩ := bd_s hM
        refine cR_i (va_runV (As := []) (rest := [.long v1]) ⟨hx, hb, hml, hown, hts⟩ (kX3_told (l := l) (D := D) (cI := cI) (cJ := cJ) N a (ho := x61.1) (ke := x61.2.1) (hc := x61.2.2.1) (tr := x61.2.2.2.1) (fo := x61.2.2.2.2.1) (fr := x61.2.2.2.2.2.1) (st := x61.2.2.2.2.2.2) (co := co) (ro := ro) (cA := cA) (cD := cD) (su := su) (jA := u61.1) (jD := u61.2) hC H.size) (cwV 0 hts gX4_digest_X3_told rfl rfl rfl (by decide +kernel) ⟨Nat.le_of_ble_eq_true rfl, Nat.le_of_ble_eq_true rfl⟩) (preV [] hN hK hP hD (ci := 3) (q0 := 0) rfl rfl) rfl rfl hl.1 rfl (lv_room (Nat.le_of_ble_eq_true rfl)) dX4_digest_69 ⟨Nat.le_of_ble_eq_true rfl, Nat.le_of_ble_eq_true rfl⟩) hP hS (fun r u H locs hw hP hS => ?_)
        rw [hw]
        obtain ⟨x72, hC, hM⟩ := bd_s hM
        refine cR_l (va_runS (As := [.long v1, .int x69]) (rest := []) ⟨hx, hb, hml, hown, hts⟩ (kX4_stir (l := l) (D := D) (cI := cI) (cJ := cJ) N (p1 := v1) (p2 := x69) hC H.size) (va_cwS 2 hts gX4_digest_X4_stir rfl rfl rfl (by decide +kernel) ⟨Nat.le_of_ble_eq_true rfl, Nat.le_of_ble_eq_true rfl⟩) (preS [.long v1, .int x69] hN hK (hP.sub (ws' := zw) [] rfl) (hD.sub (ws' := zw) [] (by decide) rfl)) rfl rfl hl.1 rfl (lv_room (Nat.le_of_ble_eq_true rfl)) dX4_digest_72 ⟨Nat.le_of_ble_eq_true rfl, Nat.le_of_ble_eq_true rfl⟩) hP hS (fun r u H locs hw hP hS => ?_)
        rw [hw]
        refine lv_lstore_n (lv' := [(1, .long x72), (0, .ref (a 15)), (3, .int v3)]) hx hb dX4_digest_75 rfl hl (by decide) rfl (fun ls hl => ?_)
        refine lv_lload_n hx hb dX4_digest_76 rfl (lv_at hl 0 rfl) ?_
        refine lv_aload_n hx hb dX4_digest_77 rfl (lv_at hl 1 rfl) ?_
        refine va_get (D := D) (ci := 4) (v := .ref (a 12)) (C := RX4) (T := TX4) (N := 2) hx hb hts iX4 hown hK hP 3 rfl rfl 1 (by decide) f21 (fun _ h9 => h9) rfl dX4_digest_78 ?_
        obtain ⟨x81, hC, hM⟩ := bd_s hM
        refine cR_i (va_runV (As := []) (rest := [.long x72]) ⟨hx, hb, hml, hown, hts⟩ (kX3_tried (l := l) (D := D) (cI := cI) (cJ := cJ) N a (ho := x61.1) (ke := x61.2.1) (hc := x61.2.2.1) (tr := x61.2.2.2.1) (fo := x61.2.2.2.2.1) (fr := x61.2.2.2.2.2.1) (st := x61.2.2.2.2.2.2) (co := co) (ro := ro) (cA := cA) (cD := cD) (su := su) (jA := u61.1) (jD := u61.2) hC H.size) (cwV 0 hts gX4_digest_X3_tried rfl rfl rfl (by decide +kernel) ⟨Nat.le_of_ble_eq_true rfl, Nat.le_of_ble_eq_true rfl⟩) (preV [] hN hK hP hD (ci := 3) (q0 := 0) rfl rfl) rfl rfl hl.1 rfl (lv_room (Nat.le_of_ble_eq_true rfl)) dX4_digest_81 ⟨Nat.le_of_ble_eq_true rfl, Nat.le_of_ble_eq_true rfl⟩) hP hS (fun r u H locs hw hP hS => ?_)
        rw [hw]
        obtain ⟨x84, hC, hM⟩ := bd_s hM
        refine cR_l (va_runS (As := [.long x72, .int x81]) (rest := []) ⟨hx, hb, hml, hown, hts⟩ (kX4_stir (l := l) (D := D) (cI := cI) (cJ := cJ) N (p1 := x72) (p2 := x81) hC H.size) (va_cwS 2 hts gX4_digest_X4_stir rfl rfl rfl (by decide +kernel) ⟨Nat.le_of_ble_eq_true rfl, Nat.le_of_ble_eq_true rfl⟩) (preS [.long x72, .int x81] hN hK (hP.sub (ws' := zw) [] rfl) (hD.sub (ws' := zw) [] (by decide) rfl)) rfl rfl hl.1 rfl (lv_room (Nat.le_of_ble_eq_true rfl)) dX4_digest_84 ⟨Nat.le_of_ble_eq_true rfl, Nat.le_of_ble_eq_true rfl⟩) hP hS (fun r u H locs hw hP hS => ?_)
        rw [hw]
        obtain rfl := Option.some.inj hM
        subst hQ hAe
        exact W.lret (v := x84) hx hb hr (fun t ht hW => ⟨⟨x84, (u61.1, u61.2), rfl, rfl, ⟨by rw [ht]; exact hP, hD⟩⟩, hS.F ht⟩) hS.2.2 dX4_digest_87
      · replace hM := it_n hcc hM
        refine lv_aload_n hx hb dX4_digest_44 rfl (lv_at hl 0 rfl) ?_
        refine lv_lload_n hx hb dX4_digest_45 rfl (lv_at hl 1 rfl) ?_
        refine lv_iload_n hx hb dX4_digest_46 rfl (lv_at hl 2 rfl) ?_
        obtain ⟨x47, hC, hM⟩ := bd_s hM
        refine cW_l [0, 1, 2, 3, 4, 5, 6, 7, 8, 9, 10, 11, 12, 13, 14, 15] [] (va_runV (As := [.long v1, .int v3]) (rest := []) ⟨hx, hb, hml, hown, hts⟩ (kX4_stirCell (l := l) (D := D) (cI := cI) (cJ := cJ) N a (ho := ho) (ke := ke) (hc := hc) (tr := tr) (fo := fo) (fr := fr) (st := st) (co := co) (ro := ro) (cA := cA) (cD := cD) (su := su) (jA := jA') (jD := jD') (p1 := v1) (p2 := v3) hC H.size) (cwV 2 hts gX4_digest_X4_stirCell rfl rfl rfl (by decide +kernel) ⟨Nat.le_of_ble_eq_true rfl, Nat.le_of_ble_eq_true rfl⟩) (preV [.long v1, .int v3] hN hK hP hD (ci := 4) (q0 := 3) rfl rfl) rfl rfl hl.1 rfl (lv_room (Nat.le_of_ble_eq_true rfl)) dX4_digest_47 ⟨Nat.le_of_ble_eq_true rfl, Nat.le_of_ble_eq_true rfl⟩) hP hD hS hA rfl (wr := []) rfl (by decide) (by decide) (fun r u47 H locs hw hP hD hS => ?_)
        replace hP : va_P D vwCl (xw a cI cJ ho ke hc tr fo fr st co ro cA cD su u47.1 u47.2) H := hP
        replace hD : va_D A (xw a cI cJ ho ke hc tr fo fr st co ro cA cD su u47.1 u47.2) := hD
        rw [hw]
        refine lv_lstore_n (lv' := [(1, .long x47), (0, .ref (a 15)), (3, .int v3)]) hx hb dX4_digest_50 rfl hl (by decide) rfl (fun ls hl => ?_)
        refine lv_iinc (v := (v3 + 1)) (lv' := [(3, .int (v3 + 1)), (1, .long x47), (0, .ref (a 15))]) hx hb dX4_digest_51 hl (k := 2) rfl (by rfl) (by decide) rfl (fun ls hl => ?_)
        refine lv_goto (tgt := 33) hx hb dX4_digest_54 (by decide) ?_
        exact ih x47 (v3 + 1) hM u47.1 u47.2 H locs ls hP hD hS (lv_sub hl [2, 1, 0] rfl)
  have c6 : ∀ (n : Nat), ∀ (v1 : Int64) (v3 : Int32), mX4_digest_6 N ho ke hc tr fo fr st co ro cA cD su n v1 v3 = some o → ∀ (jA' : JT) (jD' : JT) (H : Heap) (locs : List Loc) (ls : Array Slot), va_P D vwCl (xw a cI cJ ho ke hc tr fo fr st co ro cA cD su jA' jD') H → va_D A (xw a cI cJ ho ke hc tr fo fr st co ro cA cD su jA' jD') → va_S A s.heap H locs → lv_has ls 4 [(0, .ref (a 15)), (1, .long v1), (3, .int v3)] → W p l e rmX4_digest s m args below meth c H locs 0 0 Q (F0 m 6 ls []) := by
    intro n
    induction n with
    | zero =>
      intro v1 v3 hM
      rw [mX4_digest_6] at hM
      cases hM
    | succ n ih =>
      intro v1 v3 hM jA' jD' H locs ls hP hD hS hl
      rw [mX4_digest_6] at hM
      refine lv_iload_n hx hb dX4_digest_6 rfl (lv_at hl 2 rfl) ?_
      refine lv_bipush (v := 9) hx hb dX4_digest_7 (by decide) ?_
      refine lv_icmp_ge (tgt := 31) hx hb dX4_digest_9 (by decide) (fun hcc => ?_) (fun hcc => ?_)
      · replace hM := it_p hcc hM
        refine lv_iconst (v := 0) hx hb dX4_digest_31 (by decide) ?_
        refine lv_istore_n (lv' := [(3, .int (0 : Int32)), (0, .ref (a 15)), (1, .long v1)]) hx hb dX4_digest_32 rfl hl (by decide) rfl (fun ls hl => ?_)
        exact c33 N v1 (0 : Int32) hM jA' jD' H locs ls hP hD hS (lv_sub hl [1, 2, 0] rfl)
      · replace hM := it_n hcc hM
        refine lv_lload_n hx hb dX4_digest_12 rfl (lv_at hl 1 rfl) ?_
        refine lv_aload_n hx hb dX4_digest_13 rfl (lv_at hl 0 rfl) ?_
        refine va_get (D := D) (ci := 4) (v := .ref (a 0)) (C := RX4) (T := TX4) (N := 2) hx hb hts iX4 hown hK hP 3 rfl rfl 0 (by decide) f10 (fun _ h9 => h9) rfl dX4_digest_14 ?_
        refine lv_iload_n hx hb dX4_digest_17 rfl (lv_at hl 2 rfl) ?_
        obtain ⟨x18, hC, hM⟩ := bd_s hM
        refine cW_i [4, 5, 6, 7, 8, 9, 10, 11, 12, 13, 14, 15] [0, 1, 2, 3] (va_runV (As := [.int v3]) (rest := [.long v1]) ⟨hx, hb, hml, hown, hts⟩ (kX1_tally (l := l) (D := D) (cI := cI) (cJ := cJ) N a (st := st) (co := co) (ro := ro) (cA := cA) (cD := cD) (su := su) (jA := jA') (jD := jD') (p1 := v3) hC H.size) (cwV 1 hts gX4_digest_X1_tally rfl rfl rfl (by decide +kernel) ⟨Nat.le_of_ble_eq_true rfl, Nat.le_of_ble_eq_true rfl⟩) (preV [.int v3] hN hK (hP.sub (ws' := (fw a cI cJ st co ro cA cD su jA' jD')) [4, 5, 6, 7, 8, 9, 10, 11, 12, 13, 14, 15] rfl) (hD.sub (ws' := (fw a cI cJ st co ro cA cD su jA' jD')) [4, 5, 6, 7, 8, 9, 10, 11, 12, 13, 14, 15] (by decide) rfl) (ci := 1) (q0 := 0) rfl rfl) rfl rfl hl.1 rfl (lv_room (Nat.le_of_ble_eq_true rfl)) dX4_digest_18 ⟨Nat.le_of_ble_eq_true rfl, Nat.le_of_ble_eq_true rfl⟩) hP hD hS hA rfl (wr := ((xw a cI cJ ho ke hc tr fo fr st co ro cA cD su jA' jD')).take 4) rfl (by decide) (by decide) (fun r u18 H locs hw hP hD hS => ?_)
        replace hP : va_P D vwCl (xw a cI cJ ho ke hc tr fo fr st co ro cA cD su u18.1 u18.2) H := hP
        replace hD : va_D A (xw a cI cJ ho ke hc tr fo fr st co ro cA cD su u18.1 u18.2) := hD
        rw [hw]
        obtain ⟨x21, hC, hM⟩ := bd_s hM
        refine cR_l (va_runS (As := [.long v1, .int x18]) (rest := []) ⟨hx, hb, hml, hown, hts⟩ (kX4_stir (l := l) (D := D) (cI := cI) (cJ := cJ) N (p1 := v1) (p2 := x18) hC H.size) (va_cwS 2 hts gX4_digest_X4_stir rfl rfl rfl (by decide +kernel) ⟨Nat.le_of_ble_eq_true rfl, Nat.le_of_ble_eq_true rfl⟩) (preS [.long v1, .int x18] hN hK (hP.sub (ws' := zw) [] rfl) (hD.sub (ws' := zw) [] (by decide) rfl)) rfl rfl hl.1 rfl (lv_room (Nat.le_of_ble_eq_true rfl)) dX4_digest_21 ⟨Nat.le_of_ble_eq_true rfl, Nat.le_of_ble_eq_true rfl⟩) hP hS (fun r u H locs hw hP hS => ?_)
        rw [hw]
        refine lv_lstore_n (lv' := [(1, .long x21), (0, .ref (a 15)), (3, .int v3)]) hx hb dX4_digest_24 rfl hl (by decide) rfl (fun ls hl => ?_)
        refine lv_iinc (v := (v3 + 1)) (lv' := [(3, .int (v3 + 1)), (1, .long x21), (0, .ref (a 15))]) hx hb dX4_digest_25 hl (k := 2) rfl (by rfl) (by decide) rfl (fun ls hl => ?_)
        refine lv_goto (tgt := 6) hx hb dX4_digest_28 (by decide) ?_
        exact ih x21 (v3 + 1) hM u18.1 u18.2 H locs ls hP hD hS (lv_sub hl [2, 1, 0] rfl)
  rw [mX4_digest] at hM
  refine lv_ldc2 (v := (1663 : Int64)) hx hb hown (hts (.constantLong RX4 128 (1663)) (by decide +kernel)) dX4_digest_0 ?_
  refine lv_lstore_n (lv' := [(1, .long (1663 : Int64)), (0, .ref (a 15))]) hx hb dX4_digest_3 rfl hl (by decide) rfl (fun ls hl => ?_)
  refine lv_iconst (v := 0) hx hb dX4_digest_4 (by decide) ?_
  refine lv_istore_n (lv' := [(3, .int (0 : Int32)), (1, .long (1663 : Int64)), (0, .ref (a 15))]) hx hb dX4_digest_5 rfl hl (by decide) rfl (fun ls hl => ?_)
  exact c6 N (1663 : Int64) (0 : Int32) hM jA jD H locs ls hP hD hS (lv_sub hl [2, 1, 0] rfl)
def mX4_force_9 (N : Nat) (co : Int32) (ro : Int32) (cA : CS) (cD : CS) (su : RowJ) : Nat → Int32 → Int32 → RowI → Option (Int32 × Int32 × RowI)
  | 0 => fun _ _ _ => none
  | n + 1 => fun v1 fr' st' => (if (36 : Int32) ≤ v1 then
  some ((36 : Int32), fr', st')
  else
  ((mX1_firstSingle N st' co ro cA cD su).bind fun x19 =>
  (if x19 = (-1 : Int32) then
  some (v1, fr', st')
  else
  ((mX1_numbersFor N st' cA cD su x19).bind fun x40 =>
  ((mX4_smallestOf N x40).bind fun x43 =>
  ((mX1_lay N st' x19 x43).bind fun x46 =>
  (mX4_force_9 N co ro cA cD su n (v1 + 1) fr' x46)))))))
def mX4_force (N : Nat) (fr : Int32) (st : RowI) (co : Int32) (ro : Int32) (cA : CS) (cD : CS) (su : RowJ) : Option (Int32 × Int32 × RowI) :=
  ((mX3_forget N fr).bind fun x4 =>
  (mX4_force_9 N co ro cA cD su N (0 : Int32) x4 st))
abbrev rmX4_force : Room := { frames := 5, cells := 0, slots := 0, locals := 116 }
set_option maxHeartbeats 4000000 in
set_option maxRecDepth 100000 in
theorem kX4_force {l : Launch} {D : va_G} {cI cJ : ClassId} (N : Nat) (a : Nat → Nat) {ho : RowI} {ke : RowI} {hc : Int32} {tr : Int32} {fo : Int32} {fr : Int32} {st : RowI} {co : Int32} {ro : Int32} {cA : CS} {cD : CS} {su : RowJ} {jA : JT} {jD : JT} {o : (Int32 × Int32 × RowI)} (hM : mX4_force N fr st co ro cA cD su = some o) (sz : Nat) : Met l yX4_force wsX4_force rmX4_force (va_Pc [.ref (a 15)] (Pre D cI cJ (xw a cI cJ ho ke hc tr fo fr st co ro cA cD su jA jD) sz)) (va_Qi (fun (r : Int32) (_ : JT × JT) => r = o.1) (aft D (xw a cI cJ ho ke hc tr fo fr st co ro cA cD su jA jD) sz (fun (u : JT × JT) => (xw a cI cJ ho ke hc tr fo o.2.1 o.2.2 co ro cA cD su u.1 u.2))) (va_A (xw a cI cJ ho ke hc tr fo fr st co ro cA cD su jA jD) sz)) 0 0 (va_A (xw a cI cJ ho ke hc tr fo fr st co ro cA cD su jA jD) sz) := by
  refine xofW (cc := cX4_force) (maxL := 3) (ret := (some .int)) rfl (by decide) rfl ?_
  intro p e s m args below meth c ls Q A hQ hAe hx hb hr hml hown hts hlocks hnm hN hK H locs hP hD hS hA hl
  replace hown : s.vm.findClass RX4 = some m.cls := hown
  replace hl : lv_has ls 3 [(0, .ref (a 15))] := hl
  have iX4 : ∀ w ∈ wsX40, w ∈ wsX4_force := by decide +kernel
  have f10 := hts (.fieldLink RX4 10 "CryptSums" "floor" "LCryptSums$Floor;") (by decide +kernel)
  have f21 := hts (.fieldLink RX4 21 "CryptSums" "search" "LCryptSums$Search;") (by decide +kernel)
  have c9 : ∀ (n : Nat), ∀ (v1 : Int32) (fr' : Int32) (st' : RowI), mX4_force_9 N co ro cA cD su n v1 fr' st' = some o → ∀ (jA' : JT) (jD' : JT) (H : Heap) (locs : List Loc) (ls : Array Slot), va_P D vwCl (xw a cI cJ ho ke hc tr fo fr' st' co ro cA cD su jA' jD') H → va_D A (xw a cI cJ ho ke hc tr fo fr' st' co ro cA cD su jA' jD') → va_S A s.heap H locs → lv_has ls 3 [(0, .ref (a 15)), (1, .int v1)] → W p l e rmX4_force s m args below meth c H locs 0 0 Q (F0 m 9 ls []) := by
    intro n
    induction n with
    | zero =>
      intro v1 fr' st' hM
      rw [mX4_force_9] at hM
      cases hM
    | succ n ih =>
      intro v1 fr' st' hM jA' jD' H locs ls hP hD hS hl
      rw [mX4_force_9] at hM
      refine lv_iload_n hx hb dX4_force_9 rfl (lv_at hl 1 rfl) ?_
      refine lv_bipush (v := 36) hx hb dX4_force_10 (by decide) ?_
      refine lv_icmp_ge (tgt := 55) hx hb dX4_force_12 (by decide) (fun hcc => ?_) (fun hcc => ?_)
      · replace hM := it_p hcc hM
        refine lv_bipush (v := 36) hx hb dX4_force_55 (by decide) ?_
        obtain rfl := Option.some.inj hM
        subst hQ hAe
        exact W.iret (v := (36 : Int32)) hx hb hr (fun t ht hW => ⟨⟨(36 : Int32), (jA', jD'), rfl, rfl, ⟨by rw [ht]; exact hP, hD⟩⟩, hS.F ht⟩) hS.2.2 dX4_force_57
      · replace hM := it_n hcc hM
        refine lv_aload_n hx hb dX4_force_15 rfl (lv_at hl 0 rfl) ?_
        refine va_get (D := D) (ci := 4) (v := .ref (a 0)) (C := RX4) (T := TX4) (N := 2) hx hb hts iX4 hown hK hP 3 rfl rfl 0 (by decide) f10 (fun _ h9 => h9) rfl dX4_force_16 ?_
        obtain ⟨x19, hC, hM⟩ := bd_s hM
        refine cW_i [4, 5, 6, 7, 8, 9, 10, 11, 12, 13, 14, 15] [0, 1, 2, 3] (va_runV (As := []) (rest := []) ⟨hx, hb, hml, hown, hts⟩ (kX1_firstSingle (l := l) (D := D) (cI := cI) (cJ := cJ) N a (st := st') (co := co) (ro := ro) (cA := cA) (cD := cD) (su := su) (jA := jA') (jD := jD') hC H.size) (cwV 0 hts gX4_force_X1_firstSingle rfl rfl rfl (by decide +kernel) ⟨Nat.le_of_ble_eq_true rfl, Nat.le_of_ble_eq_true rfl⟩) (preV [] hN hK (hP.sub (ws' := (fw a cI cJ st' co ro cA cD su jA' jD')) [4, 5, 6, 7, 8, 9, 10, 11, 12, 13, 14, 15] rfl) (hD.sub (ws' := (fw a cI cJ st' co ro cA cD su jA' jD')) [4, 5, 6, 7, 8, 9, 10, 11, 12, 13, 14, 15] (by decide) rfl) (ci := 1) (q0 := 0) rfl rfl) rfl rfl hl.1 rfl (lv_room (Nat.le_of_ble_eq_true rfl)) dX4_force_19 ⟨Nat.le_of_ble_eq_true rfl, Nat.le_of_ble_eq_true rfl⟩) hP hD hS hA rfl (wr := ((xw a cI cJ ho ke hc tr fo fr' st' co ro cA cD su jA' jD')).take 4) rfl (by decide) (by decide) (fun r u19 H locs hw hP hD hS => ?_)
        replace hP : va_P D vwCl (xw a cI cJ ho ke hc tr fo fr' st' co ro cA cD su u19.1 u19.2) H := hP
        replace hD : va_D A (xw a cI cJ ho ke hc tr fo fr' st' co ro cA cD su u19.1 u19.2) := hD
        rw [hw]
        refine lv_istore_n (lv' := [(2, .int x19), (0, .ref (a 15)), (1, .int v1)]) hx hb dX4_force_22 rfl hl (by decide) rfl (fun ls hl => ?_)
        refine lv_iload_n hx hb dX4_force_23 rfl (lv_at hl 0 rfl) ?_
        refine lv_iconst (v := -1) hx hb dX4_force_24 (by decide) ?_
        refine lv_icmp_ne (tgt := 30) hx hb dX4_force_25 (by decide) (fun hcc => ?_) (fun hcc => ?_)
        · replace hM := it_n hcc hM
          refine lv_aload_n hx hb dX4_force_30 rfl (lv_at hl 1 rfl) ?_
          refine va_get (D := D) (ci := 4) (v := .ref (a 0)) (C := RX4) (T := TX4) (N := 2) hx hb hts iX4 hown hK hP 3 rfl rfl 0 (by decide) f10 (fun _ h9 => h9) rfl dX4_force_31 ?_
          refine lv_iload_n hx hb dX4_force_34 rfl (lv_at hl 0 rfl) ?_
          refine lv_aload_n hx hb dX4_force_35 rfl (lv_at hl 1 rfl) ?_
          refine va_get (D := D) (ci := 4) (v := .ref (a 0)) (C := RX4) (T := TX4) (N := 2) hx hb hts iX4 hown hK hP 3 rfl rfl 0 (by decide) f10 (fun _ h9 => h9) rfl dX4_force_36 ?_
          refine lv_iload_n hx hb dX4_force_39 rfl (lv_at hl 0 rfl) ?_
          obtain ⟨x40, hC, hM⟩ := bd_s hM
          refine cW_i [4, 5, 6, 7, 8, 9, 10, 11, 12, 13, 14, 15] [0, 1, 2, 3] (va_runV (As := [.int x19]) (rest := [.int x19, .ref (a 0)]) ⟨hx, hb, hml, hown, hts⟩ (kX1_numbersFor (l := l) (D := D) (cI := cI) (cJ := cJ) N a (st := st') (co := co) (ro := ro) (cA := cA) (cD := cD) (su := su) (jA := u19.1) (jD := u19.2) (p1 := x19) hC H.size) (cwV 1 hts gX4_force_X1_numbersFor rfl rfl rfl (by decide +kernel) ⟨Nat.le_of_ble_eq_true rfl, Nat.le_of_ble_eq_true rfl⟩) (preV [.int x19] hN hK (hP.sub (ws' := (fw a cI cJ st' co ro cA cD su u19.1 u19.2)) [4, 5, 6, 7, 8, 9, 10, 11, 12, 13, 14, 15] rfl) (hD.sub (ws' := (fw a cI cJ st' co ro cA cD su u19.1 u19.2)) [4, 5, 6, 7, 8, 9, 10, 11, 12, 13, 14, 15] (by decide) rfl) (ci := 1) (q0 := 0) rfl rfl) rfl rfl hl.1 rfl (lv_room (Nat.le_of_ble_eq_true rfl)) dX4_force_40 ⟨Nat.le_of_ble_eq_true rfl, Nat.le_of_ble_eq_true rfl⟩) hP hD hS hA rfl (wr := ((xw a cI cJ ho ke hc tr fo fr' st' co ro cA cD su u19.1 u19.2)).take 4) rfl (by decide) (by decide) (fun r u40 H locs hw hP hD hS => ?_)
          replace hP : va_P D vwCl (xw a cI cJ ho ke hc tr fo fr' st' co ro cA cD su u40.1 u40.2) H := hP
          replace hD : va_D A (xw a cI cJ ho ke hc tr fo fr' st' co ro cA cD su u40.1 u40.2) := hD
          rw [hw]
          obtain ⟨x43, hC, hM⟩ := bd_s hM
          refine cR_i (va_runS (As := [.int x40]) (rest := [.int x19, .ref (a 0)]) ⟨hx, hb, hml, hown, hts⟩ (kX4_smallestOf (l := l) (D := D) (cI := cI) (cJ := cJ) N (p1 := x40) hC H.size) (va_cwS 1 hts gX4_force_X4_smallestOf rfl rfl rfl (by decide +kernel) ⟨Nat.le_of_ble_eq_true rfl, Nat.le_of_ble_eq_true rfl⟩) (preS [.int x40] hN hK (hP.sub (ws' := zw) [] rfl) (hD.sub (ws' := zw) [] (by decide) rfl)) rfl rfl hl.1 rfl (lv_room (Nat.le_of_ble_eq_true rfl)) dX4_force_43 ⟨Nat.le_of_ble_eq_true rfl, Nat.le_of_ble_eq_true rfl⟩) hP hS (fun r u H locs hw hP hS => ?_)
          rw [hw]
          obtain ⟨x46, hC, hM⟩ := bd_s hM
          refine cW_v [4, 5, 6, 7, 8, 9, 10, 11, 12, 13, 14, 15] [0, 1, 2, 3] (va_runV (As := [.int x19, .int x43]) (rest := []) ⟨hx, hb, hml, hown, hts⟩ (kX1_lay (l := l) (D := D) (cI := cI) (cJ := cJ) N a (st := st') (co := co) (ro := ro) (cA := cA) (cD := cD) (su := su) (jA := u40.1) (jD := u40.2) (p1 := x19) (p2 := x43) hC H.size) (cwV 2 hts gX4_force_X1_lay rfl rfl rfl (by decide +kernel) ⟨Nat.le_of_ble_eq_true rfl, Nat.le_of_ble_eq_true rfl⟩) (preV [.int x19, .int x43] hN hK (hP.sub (ws' := (fw a cI cJ st' co ro cA cD su u40.1 u40.2)) [4, 5, 6, 7, 8, 9, 10, 11, 12, 13, 14, 15] rfl) (hD.sub (ws' := (fw a cI cJ st' co ro cA cD su u40.1 u40.2)) [4, 5, 6, 7, 8, 9, 10, 11, 12, 13, 14, 15] (by decide) rfl) (ci := 1) (q0 := 0) rfl rfl) rfl rfl hl.1 rfl (lv_room (Nat.le_of_ble_eq_true rfl)) dX4_force_46 ⟨Nat.le_of_ble_eq_true rfl, Nat.le_of_ble_eq_true rfl⟩) hP hD hS hA rfl (wr := ((xw a cI cJ ho ke hc tr fo fr' st' co ro cA cD su u40.1 u40.2)).take 4) rfl (by decide) (by decide) (fun u46 H locs hw hP hD hS => ?_)
          replace hP : va_P D vwCl (xw a cI cJ ho ke hc tr fo fr' x46 co ro cA cD su u40.1 u40.2) H := hP
          replace hD : va_D A (xw a cI cJ ho ke hc tr fo fr' x46 co ro cA cD su u40.1 u40.2) := hD
          refine lv_iinc (v := (v1 + 1)) (lv' := [(1, .int (v1 + 1)), (2, .int x19), (0, .ref (a 15))]) hx hb dX4_force_49 hl (k := 2) rfl (by rfl) (by decide) rfl (fun ls hl => ?_)
          refine lv_goto (tgt := 9) hx hb dX4_force_52 (by decide) ?_
          exact ih (v1 + 1) fr' x46 hM u40.1 u40.2 H locs ls hP hD hS (lv_sub hl [2, 0] rfl)
        · replace hM := it_p hcc hM
          refine lv_iload_n hx hb dX4_force_28 rfl (lv_at hl 2 rfl) ?_
          obtain rfl := Option.some.inj hM
          subst hQ hAe
          exact W.iret (v := v1) hx hb hr (fun t ht hW => ⟨⟨v1, (u19.1, u19.2), rfl, rfl, ⟨by rw [ht]; exact hP, hD⟩⟩, hS.F ht⟩) hS.2.2 dX4_force_29
  rw [mX4_force] at hM
  refine lv_aload_n hx hb dX4_force_0 rfl (lv_at hl 0 rfl) ?_
  refine va_get (D := D) (ci := 4) (v := .ref (a 12)) (C := RX4) (T := TX4) (N := 2) hx hb hts iX4 hown hK hP 3 rfl rfl 1 (by decide) f21 (fun _ h9 => h9) rfl dX4_force_1 ?_
  obtain ⟨x4, hC, hM⟩ := bd_s hM
  refine cW_v [0, 1, 2, 3, 4, 5, 6, 7, 8, 9, 10, 11, 12, 13, 14, 15] [] (va_runV (As := []) (rest := []) ⟨hx, hb, hml, hown, hts⟩ (kX3_forget (l := l) (D := D) (cI := cI) (cJ := cJ) N a (ho := ho) (ke := ke) (hc := hc) (tr := tr) (fo := fo) (fr := fr) (st := st) (co := co) (ro := ro) (cA := cA) (cD := cD) (su := su) (jA := jA) (jD := jD) hC H.size) (cwV 0 hts gX4_force_X3_forget rfl rfl rfl (by decide +kernel) ⟨Nat.le_of_ble_eq_true rfl, Nat.le_of_ble_eq_true rfl⟩) (preV [] hN hK hP hD (ci := 3) (q0 := 0) rfl rfl) rfl rfl hl.1 rfl (lv_room (Nat.le_of_ble_eq_true rfl)) dX4_force_4 ⟨Nat.le_of_ble_eq_true rfl, Nat.le_of_ble_eq_true rfl⟩) hP hD hS hA rfl (wr := []) rfl (by decide) (by decide) (fun u4 H locs hw hP hD hS => ?_)
  replace hP : va_P D vwCl (xw a cI cJ ho ke hc tr fo x4 st co ro cA cD su jA jD) H := hP
  replace hD : va_D A (xw a cI cJ ho ke hc tr fo x4 st co ro cA cD su jA jD) := hD
  refine lv_iconst (v := 0) hx hb dX4_force_7 (by decide) ?_
  refine lv_istore_n (lv' := [(1, .int (0 : Int32)), (0, .ref (a 15))]) hx hb dX4_force_8 rfl hl (by decide) rfl (fun ls hl => ?_)
  exact c9 N (0 : Int32) x4 st hM jA jD H locs ls hP hD hS (lv_sub hl [1, 0] rfl)
