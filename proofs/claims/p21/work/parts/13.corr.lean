/-! Floor.corridors answers one of the two -/
abbrev rmX1_corridors : Room := { frames := 0, cells := 0, slots := 0, locals := 0 }
set_option maxHeartbeats 4000000 in
set_option maxRecDepth 100000 in
theorem kX1_corridors_A {l : Launch} {D : va_G} {cI cJ : ClassId} (a : Nat → Nat) {st : RowI} {co : Int32} {ro : Int32} {cA : CS} {cD : CS} {su : RowJ} {jA : JT} {jD : JT} {p1 : Int32} (h : p1 = 0) (sz : Nat) : Met l yX1_corridors wsX1_corridors rmX1_corridors (va_Pc [.ref (a 0), .int p1] (Pre D cI cJ (fw a cI cJ st co ro cA cD su jA jD) sz)) (va_Qr (fun _ : Unit => True) (fun _ b _ => b = a 2) (fun _ => False)) 0 0 (fun _ => False) := by
  refine xofR (cc := cX1_corridors) (maxL := 2) (ret := some (.object "CryptSums$Corridors")) rfl (by decide) rfl ?_
  intro p e s m args below meth c ls Q A hQ hAe hx hb hr hml hown hts hlocks hN hK H locs hP hD hS hl
  replace hown : s.vm.findClass RX1 = some m.cls := hown
  replace hl : lv_has ls 2 [(0, .ref (a 0)), (1, .int p1)] := hl
  subst hQ hAe
  refine lv_iload_n hx hb dX1_corridors_0 rfl (lv_at hl 1 rfl) ?_
  refine lv_if_eq (tgt := 11) hx hb dX1_corridors_1 (by decide) (fun hcc => ?_) (fun hcc => absurd h hcc)
  refine lv_aload_n hx hb dX1_corridors_11 rfl (lv_at hl 0 rfl) ?_
  refine va_get (D := D) (ci := 1) (v := .ref (a 2)) (C := RX1) (T := TX1) (N := 5) hx hb hts (by decide +kernel) hown hK hP 0 rfl rfl 1 (by decide) (hts (.fieldLink RX1 23 "CryptSums$Floor" "across" "LCryptSums$Corridors;") (by decide +kernel)) (fun _ h9 => h9) rfl dX1_corridors_12 ?_
  exact W.aret hx hb hr (Or.inl ⟨_, rfl⟩) (Or.inr ⟨_, rfl⟩) (fun t ht hW => ⟨⟨(), a 2, rfl, trivial, rfl⟩, hS.F ht⟩) hS.2.2 dX1_corridors_15
set_option maxHeartbeats 4000000 in
set_option maxRecDepth 100000 in
theorem kX1_corridors_D {l : Launch} {D : va_G} {cI cJ : ClassId} (a : Nat → Nat) {st : RowI} {co : Int32} {ro : Int32} {cA : CS} {cD : CS} {su : RowJ} {jA : JT} {jD : JT} {p1 : Int32} (h : ¬ p1 = 0) (sz : Nat) : Met l yX1_corridors wsX1_corridors rmX1_corridors (va_Pc [.ref (a 0), .int p1] (Pre D cI cJ (fw a cI cJ st co ro cA cD su jA jD) sz)) (va_Qr (fun _ : Unit => True) (fun _ b _ => b = a 3) (fun _ => False)) 0 0 (fun _ => False) := by
  refine xofR (cc := cX1_corridors) (maxL := 2) (ret := some (.object "CryptSums$Corridors")) rfl (by decide) rfl ?_
  intro p e s m args below meth c ls Q A hQ hAe hx hb hr hml hown hts hlocks hN hK H locs hP hD hS hl
  replace hown : s.vm.findClass RX1 = some m.cls := hown
  replace hl : lv_has ls 2 [(0, .ref (a 0)), (1, .int p1)] := hl
  subst hQ hAe
  refine lv_iload_n hx hb dX1_corridors_0 rfl (lv_at hl 1 rfl) ?_
  refine lv_if_eq (tgt := 11) hx hb dX1_corridors_1 (by decide) (fun hcc => absurd hcc h) (fun hcc => ?_)
  refine lv_aload_n hx hb dX1_corridors_4 rfl (lv_at hl 0 rfl) ?_
  refine va_get (D := D) (ci := 1) (v := .ref (a 3)) (C := RX1) (T := TX1) (N := 5) hx hb hts (by decide +kernel) hown hK hP 0 rfl rfl 2 (by decide) (hts (.fieldLink RX1 27 "CryptSums$Floor" "down" "LCryptSums$Corridors;") (by decide +kernel)) (fun _ h9 => h9) rfl dX1_corridors_5 ?_
  refine lv_goto (tgt := 15) hx hb dX1_corridors_8 (by decide) ?_
  exact W.aret hx hb hr (Or.inl ⟨_, rfl⟩) (Or.inr ⟨_, rfl⟩) (fun t ht hW => ⟨⟨(), a 3, rfl, trivial, rfl⟩, hS.F ht⟩) hS.2.2 dX1_corridors_15
/-- words for arraycopy's room -/
theorem cp_ok {n : Nat} (h : nativeFrameWords "java/lang/System" "arraycopy" 5 + 11 ≤ n) : 0 + (nativeFrameWords "java/lang/System" "arraycopy" 5 + 11) ≤ n := by omega
theorem nfw : nativeFrameWords "java/lang/System" "arraycopy" 5 ≤ 50 := by decide +kernel
