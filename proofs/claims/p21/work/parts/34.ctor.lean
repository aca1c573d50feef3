/-! the outer constructors -/
abbrev nP0 (h0 : Nat) : va_W := [(h0, .inr (2, [.null]))]
abbrev nP (cJ : ClassId) (h0 q : Nat) (su : RowJ) : va_W := [(h0, .inr (2, [.ref q])), (q, .inl (cJ, 3584, .inr (.inl su)))]
set_option maxHeartbeats 4000000 in
set_option maxRecDepth 100000 in
theorem kX2_init {l : Launch} {D : va_G} {cI cJ : ClassId} (N : Nat) (h0 : Nat) {o : RowJ} (hM : mX2_init N (fun _ => 0) = some o) (sz : Nat) : Met l yX2_init wsX2_init rmX2_init (va_Pc [.ref h0] (Pre D cI cJ (nP0 h0) sz)) (va_Qv (fun (_ : Nat) => True) (aft D (nP0 h0) sz (fun q => nP cJ h0 q o)) (va_A (nP0 h0) sz)) 1 3584 (va_A (nP0 h0) sz) := by
  refine xofW (cc := cX2_init) (maxL := 3) (ret := none) rfl (by decide) rfl ?_
  intro p e s m args below meth c ls Q A hQ hAe hx hb hr hml hown hts hlocks hnm hN hK H locs hP hD hS hA hl
  replace hown : s.vm.findClass RX2 = some m.cls := hown
  replace hl : lv_has ls 3 [(0, .ref h0)] := hl
  have iX2 : ∀ w ∈ wsX20, w ∈ wsX2_init := by decide +kernel
  refine lv_aload_n hx hb dX2_init_0 rfl (lv_at hl 0 rfl) ?_
  refine W.objInit hx hb hown (hts (.methodLink RX2 3 objectInit) (by decide +kernel)) (hts (.instanceMethod objectInit) (by decide +kernel)) (hts (.code objectInit ⟨#[0xb1]⟩ 1 none) (by decide +kernel)) rfl (by rw [hml]; exact hl.1) rfl dX2_init_1 (Nat.le_of_ble_eq_true rfl) (Nat.le_of_ble_eq_true rfl) ?_
  refine W.eq (g2 := F0 m 4 ls []) rfl ?_
  refine lv_aload_n hx hb dX2_init_4 rfl (lv_at hl 0 rfl) ?_
  refine lv_sipush (v := 3584) hx hb dX2_init_5 (by decide) ?_
  refine newJ (D := D) (cI := cI) hx hb (hts (.arrayClass .long) (by decide +kernel)) hK hP hD hS hA 3584 (by decide) (by decide) (by decide) (Nat.le_of_ble_eq_true rfl) (Nat.le_of_ble_eq_true rfl) dX2_init_8 (fun q H hP hD hS => ?_)
  refine va_putF (D := D) (ci := 2) (v := .ref q) (ty := .array .long) (C := RX2) (T := TX2) (N := 1) hx hb hts iX2 tyX2 tyX2_ok nmX2 hown hK hP hD hS 0 rfl rfl 0 (by decide) (hts (.fieldLink RX2 11 "CryptSums$Partitions" "sums" "[J") (by decide +kernel)) (fun _ h9 => h9) rfl hnm rfl (by decide +kernel) rfl rfl (Nat.le_of_ble_eq_true rfl) dX2_init_10 (fun H locs hP hD hS => ?_)
  obtain ⟨b, hb0, hb1⟩ : ∃ b : Nat → Nat, b 10 = h0 ∧ b 11 = q := ⟨fun k => if k = 10 then h0 else q, rfl, rfl⟩
  subst hb0 hb1
  subst hAe
  refine bX2_init N b hM hQ (fun t H locs ht hP hD hS => ?_) hx hb hr hml hown hts hlocks hN hK hP hD hS hA hl
  exact ⟨⟨b 11, rfl, trivial, ⟨by rw [ht]; exact hP, hD⟩⟩, hS.F ht⟩
abbrev nF0 (h0 : Nat) : va_W := [(h0, .inr (1, [.null, .null, .null, .int 0, .int 0]))]
abbrev cs0 : CS := (z0, z0, z0, 1)
abbrev j0 : JT := (0, 0, 0)
abbrev rmX1_init : Room := { frames := 6, cells := 11, slots := 3855, locals := 160 }
set_option maxHeartbeats 4000000 in
set_option maxRecDepth 100000 in
theorem kX1_init {l : Launch} {D : va_G} {cI cJ : ClassId} (N : Nat) (h0 : Nat) {su : RowJ} (hM : mX2_init N (fun _ => 0) = some su) {o : RowI × Int32 × Int32 × CS × CS} (hM2 : mX1_clear N z0 0 0 cs0 cs0 4 4 = some o) (sz : Nat) : Met l yX1_init wsX1_init rmX1_init (va_Pc [.ref h0] (Pre D cI cJ (nF0 h0) sz)) (va_Qv (fun (a : Nat → Nat) => a 0 = h0) (aft D (nF0 h0) sz (fun a => fw a cI cJ o.1 o.2.1 o.2.2.1 o.2.2.2.1 o.2.2.2.2 su j0 j0)) (va_A (nF0 h0) sz)) 11 3855 (va_A (nF0 h0) sz) := by
  refine xofW (cc := cX1_init) (maxL := 3) (ret := none) rfl (by decide) rfl ?_
  intro p e s m args below meth c ls Q A hQ hAe hx hb hr hml hown hts hlocks hnm hN hK H locs hP hD hS hA hl
  replace hown : s.vm.findClass RX1 = some m.cls := hown
  replace hl : lv_has ls 3 [(0, .ref h0)] := hl
  have iX0 : ∀ w ∈ wsX00, w ∈ wsX1_init := by decide +kernel
  have iX1 : ∀ w ∈ wsX10, w ∈ wsX1_init := by decide +kernel
  have iX2 : ∀ w ∈ wsX20, w ∈ wsX1_init := by decide +kernel
  have ha := hts (.arrayClass .int) (by decide +kernel)
  refine lv_aload_n hx hb dX1_init_0 rfl (lv_at hl 0 rfl) ?_
  refine W.objInit hx hb hown (hts (.methodLink RX1 3 objectInit) (by decide +kernel)) (hts (.instanceMethod objectInit) (by decide +kernel)) (hts (.code objectInit ⟨#[0xb1]⟩ 1 none) (by decide +kernel)) rfl (by rw [hml]; exact hl.1) rfl dX1_init_1 (Nat.le_of_ble_eq_true rfl) (Nat.le_of_ble_eq_true rfl) ?_
  refine W.eq (g2 := F0 m 4 ls []) rfl ?_
  refine lv_bipush (v := 36) hx hb dX1_init_4 (by decide) ?_
  refine newI (D := D) (cJ := cJ) hx hb ha hK hP hD hS hA 36 (by decide) (by decide) (by decide) (Nat.le_of_ble_eq_true rfl) (Nat.le_of_ble_eq_true rfl) dX1_init_6 (fun q1 H hP hD hS => ?_)
  refine lv_astore_n (lv' := [(1, .ref q1), (0, .ref h0)]) hx hb dX1_init_8 rfl hl (by decide) rfl (fun ls hl => ?_)
  refine va_new (D := D) (ci := 2) (fs := [.null]) (C := RX2) (T := TX2) (N := 1) hx hb hts iX2 tyX2 tyX2_ok hown (hts (.classLink RX1 9 RX2) (by decide +kernel)) (hts (.instantiable RX2 1) (by decide +kernel)) (hts (.initialized RX2) (by decide +kernel)) hK hP hD hS hA rfl (by decide +kernel) (Nat.le_of_ble_eq_true rfl) (Nat.le_of_ble_eq_true rfl) dX1_init_9 (fun q10 H hP hD hS => ?_)
  replace hP : va_P D vwCl [(h0, .inr (1, [.null, .null, .null, .int 0, .int 0])), (q1, .inl (cI, 36, .inl z0)), (q10, .inr (2, [.null]))] H := hP
  replace hD : va_D A [(h0, .inr (1, [.null, .null, .null, .int 0, .int 0])), (q1, .inl (cI, 36, .inl z0)), (q10, .inr (2, [.null]))] := hD
  refine lv_dup hx hb dX1_init_12 rfl ?_
  refine cW_v [2] [0, 1] (va_runI (As := []) (rest := [.ref q10]) ⟨hx, hb, hml, hown, hts⟩ (kX2_init (l := l) (D := D) (cI := cI) (cJ := cJ) N q10 hM H.size) (cwI 0 hts gX1_init_X2_init rfl rfl rfl (hts (.initialized RX2) (by decide +kernel)) (hts (.methodLink RX1 11 yX2_init) (by decide +kernel)) (hts (.instanceMethod yX2_init) (by decide +kernel)) rfl (by decide +kernel) ⟨Nat.le_of_ble_eq_true rfl, Nat.le_of_ble_eq_true rfl⟩) (preS (.ref q10 :: []) hN hK (hP.sub (ws' := (nP0 q10)) [2] rfl) (hD.sub (ws' := (nP0 q10)) [2] (by decide) rfl)) rfl rfl hl.1 rfl (lv_room (Nat.le_of_ble_eq_true rfl)) dX1_init_13 ⟨Nat.le_of_ble_eq_true rfl, Nat.le_of_ble_eq_true rfl⟩) hP hD hS hA rfl (wr := [(h0, .inr (1, [.null, .null, .null, .int 0, .int 0])), (q1, .inl (cI, 36, .inl z0))]) rfl (by decide) (by decide) (fun q11 H locs hw hP hD hS => ?_)
  replace hP : va_P D vwCl [(h0, .inr (1, [.null, .null, .null, .int 0, .int 0])), (q1, .inl (cI, 36, .inl z0)), (q10, .inr (2, [.ref q11])), (q11, .inl (cJ, 3584, .inr (.inl su)))] H := hP
  replace hD : va_D A [(h0, .inr (1, [.null, .null, .null, .int 0, .int 0])), (q1, .inl (cI, 36, .inl z0)), (q10, .inr (2, [.ref q11])), (q11, .inl (cJ, 3584, .inr (.inl su)))] := hD
  refine lv_astore_n (lv' := [(2, .ref q10), (1, .ref q1), (0, .ref h0)]) hx hb dX1_init_16 rfl hl (by decide) rfl (fun ls hl => ?_)
  refine lv_aload_n hx hb dX1_init_17 rfl (lv_at hl 2 rfl) ?_
  refine lv_aload_n hx hb dX1_init_18 rfl (lv_at hl 1 rfl) ?_
  refine va_putF (D := D) (ci := 1) (v := .ref q1) (ty := .array .int) (C := RX1) (T := TX1) (N := 5) hx hb hts iX1 tyX1 tyX1_ok nmX1 hown hK hP hD hS 0 rfl rfl 0 (by decide) (hts (.fieldLink RX1 12 "CryptSums$Floor" "stones" "[I") (by decide +kernel)) (fun _ h9 => h9) rfl hnm rfl (by decide +kernel) rfl rfl (Nat.le_of_ble_eq_true rfl) dX1_init_19 (fun H locs hP hD hS => ?_)
  replace hP : va_P D vwCl [(h0, .inr (1, [.ref q1, .null, .null, .int 0, .int 0])), (q1, .inl (cI, 36, .inl z0)), (q10, .inr (2, [.ref q11])), (q11, .inl (cJ, 3584, .inr (.inl su)))] H := hP
  replace hD : va_D A [(h0, .inr (1, [.ref q1, .null, .null, .int 0, .int 0])), (q1, .inl (cI, 36, .inl z0)), (q10, .inr (2, [.ref q11])), (q11, .inl (cJ, 3584, .inr (.inl su)))] := hD
  refine lv_aload_n hx hb dX1_init_22 rfl (lv_at hl 2 rfl) ?_
  refine va_new (D := D) (ci := 0) (fs := [.null, .null, .null, .null, .null, .int 0, .int 0, .int 0, .int 0]) (C := RX0) (T := TX0) (N := 9) hx hb hts iX0 tyX0 tyX0_ok hown (hts (.classLink RX1 18 RX0) (by decide +kernel)) (hts (.instantiable RX0 9) (by decide +kernel)) (hts (.initialized RX0) (by decide +kernel)) hK hP hD hS hA rfl (by decide +kernel) (Nat.le_of_ble_eq_true rfl) (Nat.le_of_ble_eq_true rfl) dX1_init_23 (fun q2 H hP hD hS => ?_)
  replace hP : va_P D vwCl [(h0, .inr (1, [.ref q1, .null, .null, .int 0, .int 0])), (q1, .inl (cI, 36, .inl z0)), (q10, .inr (2, [.ref q11])), (q11, .inl (cJ, 3584, .inr (.inl su))), (q2, .inr (0, [.null, .null, .null, .null, .null, .int 0, .int 0, .int 0, .int 0]))] H := hP
  replace hD : va_D A [(h0, .inr (1, [.ref q1, .null, .null, .int 0, .int 0])), (q1, .inl (cI, 36, .inl z0)), (q10, .inr (2, [.ref q11])), (q11, .inl (cJ, 3584, .inr (.inl su))), (q2, .inr (0, [.null, .null, .null, .null, .null, .int 0, .int 0, .int 0, .int 0]))] := hD
  refine lv_dup hx hb dX1_init_26 rfl ?_
  refine lv_aload_n hx hb dX1_init_27 rfl (lv_at hl 1 rfl) ?_
  refine lv_aload_n hx hb dX1_init_28 rfl (lv_at hl 0 rfl) ?_
  refine cW_v [4] [0, 1, 2, 3] (va_runI (As := [.ref q1, .ref q10]) (rest := [.ref q2, .ref h0]) ⟨hx, hb, hml, hown, hts⟩ (kX0_init (l := l) (D := D) (cI := cI) (cJ := cJ) q2 q1 q10 H.size) (cwI 2 hts gX1_init_X0_init rfl rfl rfl (hts (.initialized RX0) (by decide +kernel)) (hts (.methodLink RX1 20 yX0_init) (by decide +kernel)) (hts (.instanceMethod yX0_init) (by decide +kernel)) rfl (by decide +kernel) ⟨Nat.le_of_ble_eq_true rfl, Nat.le_of_ble_eq_true rfl⟩) (preS (.ref q2 :: [.ref q1, .ref q10]) hN hK (hP.sub (ws' := (nC0 q2)) [4] rfl) (hD.sub (ws' := (nC0 q2)) [4] (by decide) rfl)) rfl rfl hl.1 rfl (lv_room (Nat.le_of_ble_eq_true rfl)) dX1_init_29 ⟨Nat.le_of_ble_eq_true rfl, Nat.le_of_ble_eq_true rfl⟩) hP hD hS hA rfl (wr := [(h0, .inr (1, [.ref q1, .null, .null, .int 0, .int 0])), (q1, .inl (cI, 36, .inl z0)), (q10, .inr (2, [.ref q11])), (q11, .inl (cJ, 3584, .inr (.inl su)))]) rfl (by decide) (by decide) (fun uA H locs hw hP hD hS => ?_)
  replace hP : va_P D vwCl [(h0, .inr (1, [.ref q1, .null, .null, .int 0, .int 0])), (q1, .inl (cI, 36, .inl z0)), (q10, .inr (2, [.ref q11])), (q11, .inl (cJ, 3584, .inr (.inl su))), (q2, .inr (0, [.ref q1, .ref q10, .ref uA.1, .ref uA.2.1, .ref uA.2.2, .int 1, .int 0, .int 0, .int 0])), (uA.1, .inl (cI, 36, .inl z0)), (uA.2.1, .inl (cI, 36, .inl z0)), (uA.2.2, .inl (cI, 36, .inl z0))] H := hP
  replace hD : va_D A [(h0, .inr (1, [.ref q1, .null, .null, .int 0, .int 0])), (q1, .inl (cI, 36, .inl z0)), (q10, .inr (2, [.ref q11])), (q11, .inl (cJ, 3584, .inr (.inl su))), (q2, .inr (0, [.ref q1, .ref q10, .ref uA.1, .ref uA.2.1, .ref uA.2.2, .int 1, .int 0, .int 0, .int 0])), (uA.1, .inl (cI, 36, .inl z0)), (uA.2.1, .inl (cI, 36, .inl z0)), (uA.2.2, .inl (cI, 36, .inl z0))] := hD
  refine va_putF (D := D) (ci := 1) (v := .ref q2) (ty := .object "CryptSums$Corridors") (C := RX1) (T := TX1) (N := 5) hx hb hts iX1 tyX1 tyX1_ok nmX1 hown hK hP hD hS 0 rfl rfl 1 (by decide) (hts (.fieldLink RX1 23 "CryptSums$Floor" "across" "LCryptSums$Corridors;") (by decide +kernel)) (fun _ h9 => h9) rfl hnm rfl (by decide +kernel) rfl rfl (Nat.le_of_ble_eq_true rfl) dX1_init_32 (fun H locs hP hD hS => ?_)
  replace hP : va_P D vwCl [(h0, .inr (1, [.ref q1, .ref q2, .null, .int 0, .int 0])), (q1, .inl (cI, 36, .inl z0)), (q10, .inr (2, [.ref q11])), (q11, .inl (cJ, 3584, .inr (.inl su))), (q2, .inr (0, [.ref q1, .ref q10, .ref uA.1, .ref uA.2.1, .ref uA.2.2, .int 1, .int 0, .int 0, .int 0])), (uA.1, .inl (cI, 36, .inl z0)), (uA.2.1, .inl (cI, 36, .inl z0)), (uA.2.2, .inl (cI, 36, .inl z0))] H := hP
  replace hD : va_D A [(h0, .inr (1, [.ref q1, .ref q2, .null, .int 0, .int 0])), (q1, .inl (cI, 36, .inl z0)), (q10, .inr (2, [.ref q11])), (q11, .inl (cJ, 3584, .inr (.inl su))), (q2, .inr (0, [.ref q1, .ref q10, .ref uA.1, .ref uA.2.1, .ref uA.2.2, .int 1, .int 0, .int 0, .int 0])), (uA.1, .inl (cI, 36, .inl z0)), (uA.2.1, .inl (cI, 36, .inl z0)), (uA.2.2, .inl (cI, 36, .inl z0))] := hD
  refine lv_aload_n hx hb dX1_init_35 rfl (lv_at hl 2 rfl) ?_
  refine va_new (D := D) (ci := 0) (fs := [.null, .null, .null, .null, .null, .int 0, .int 0, .int 0, .int 0]) (C := RX0) (T := TX0) (N := 9) hx hb hts iX0 tyX0 tyX0_ok hown (hts (.classLink RX1 18 RX0) (by decide +kernel)) (hts (.instantiable RX0 9) (by decide +kernel)) (hts (.initialized RX0) (by decide +kernel)) hK hP hD hS hA rfl (by decide +kernel) (Nat.le_of_ble_eq_true rfl) (Nat.le_of_ble_eq_true rfl) dX1_init_36 (fun q3 H hP hD hS => ?_)
  replace hP : va_P D vwCl [(h0, .inr (1, [.ref q1, .ref q2, .null, .int 0, .int 0])), (q1, .inl (cI, 36, .inl z0)), (q10, .inr (2, [.ref q11])), (q11, .inl (cJ, 3584, .inr (.inl su))), (q2, .inr (0, [.ref q1, .ref q10, .ref uA.1, .ref uA.2.1, .ref uA.2.2, .int 1, .int 0, .int 0, .int 0])), (uA.1, .inl (cI, 36, .inl z0)), (uA.2.1, .inl (cI, 36, .inl z0)), (uA.2.2, .inl (cI, 36, .inl z0)), (q3, .inr (0, [.null, .null, .null, .null, .null, .int 0, .int 0, .int 0, .int 0]))] H := hP
  replace hD : va_D A [(h0, .inr (1, [.ref q1, .ref q2, .null, .int 0, .int 0])), (q1, .inl (cI, 36, .inl z0)), (q10, .inr (2, [.ref q11])), (q11, .inl (cJ, 3584, .inr (.inl su))), (q2, .inr (0, [.ref q1, .ref q10, .ref uA.1, .ref uA.2.1, .ref uA.2.2, .int 1, .int 0, .int 0, .int 0])), (uA.1, .inl (cI, 36, .inl z0)), (uA.2.1, .inl (cI, 36, .inl z0)), (uA.2.2, .inl (cI, 36, .inl z0)), (q3, .inr (0, [.null, .null, .null, .null, .null, .int 0, .int 0, .int 0, .int 0]))] := hD
  refine lv_dup hx hb dX1_init_39 rfl ?_
  refine lv_aload_n hx hb dX1_init_40 rfl (lv_at hl 1 rfl) ?_
  refine lv_aload_n hx hb dX1_init_41 rfl (lv_at hl 0 rfl) ?_
  refine cW_v [8] [0, 1, 2, 3, 4, 5, 6, 7] (va_runI (As := [.ref q1, .ref q10]) (rest := [.ref q3, .ref h0]) ⟨hx, hb, hml, hown, hts⟩ (kX0_init (l := l) (D := D) (cI := cI) (cJ := cJ) q3 q1 q10 H.size) (cwI 2 hts gX1_init_X0_init rfl rfl rfl (hts (.initialized RX0) (by decide +kernel)) (hts (.methodLink RX1 20 yX0_init) (by decide +kernel)) (hts (.instanceMethod yX0_init) (by decide +kernel)) rfl (by decide +kernel) ⟨Nat.le_of_ble_eq_true rfl, Nat.le_of_ble_eq_true rfl⟩) (preS (.ref q3 :: [.ref q1, .ref q10]) hN hK (hP.sub (ws' := (nC0 q3)) [8] rfl) (hD.sub (ws' := (nC0 q3)) [8] (by decide) rfl)) rfl rfl hl.1 rfl (lv_room (Nat.le_of_ble_eq_true rfl)) dX1_init_42 ⟨Nat.le_of_ble_eq_true rfl, Nat.le_of_ble_eq_true rfl⟩) hP hD hS hA rfl (wr := [(h0, .inr (1, [.ref q1, .ref q2, .null, .int 0, .int 0])), (q1, .inl (cI, 36, .inl z0)), (q10, .inr (2, [.ref q11])), (q11, .inl (cJ, 3584, .inr (.inl su))), (q2, .inr (0, [.ref q1, .ref q10, .ref uA.1, .ref uA.2.1, .ref uA.2.2, .int 1, .int 0, .int 0, .int 0])), (uA.1, .inl (cI, 36, .inl z0)), (uA.2.1, .inl (cI, 36, .inl z0)), (uA.2.2, .inl (cI, 36, .inl z0))]) rfl (by decide) (by decide) (fun uD H locs hw hP hD hS => ?_)
  replace hP : va_P D vwCl [(h0, .inr (1, [.ref q1, .ref q2, .null, .int 0, .int 0])), (q1, .inl (cI, 36, .inl z0)), (q10, .inr (2, [.ref q11])), (q11, .inl (cJ, 3584, .inr (.inl su))), (q2, .inr (0, [.ref q1, .ref q10, .ref uA.1, .ref uA.2.1, .ref uA.2.2, .int 1, .int 0, .int 0, .int 0])), (uA.1, .inl (cI, 36, .inl z0)), (uA.2.1, .inl (cI, 36, .inl z0)), (uA.2.2, .inl (cI, 36, .inl z0)), (q3, .inr (0, [.ref q1, .ref q10, .ref uD.1, .ref uD.2.1, .ref uD.2.2, .int 1, .int 0, .int 0, .int 0])), (uD.1, .inl (cI, 36, .inl z0)), (uD.2.1, .inl (cI, 36, .inl z0)), (uD.2.2, .inl (cI, 36, .inl z0))] H := hP
  replace hD : va_D A [(h0, .inr (1, [.ref q1, .ref q2, .null, .int 0, .int 0])), (q1, .inl (cI, 36, .inl z0)), (q10, .inr (2, [.ref q11])), (q11, .inl (cJ, 3584, .inr (.inl su))), (q2, .inr (0, [.ref q1, .ref q10, .ref uA.1, .ref uA.2.1, .ref uA.2.2, .int 1, .int 0, .int 0, .int 0])), (uA.1, .inl (cI, 36, .inl z0)), (uA.2.1, .inl (cI, 36, .inl z0)), (uA.2.2, .inl (cI, 36, .inl z0)), (q3, .inr (0, [.ref q1, .ref q10, .ref uD.1, .ref uD.2.1, .ref uD.2.2, .int 1, .int 0, .int 0, .int 0])), (uD.1, .inl (cI, 36, .inl z0)), (uD.2.1, .inl (cI, 36, .inl z0)), (uD.2.2, .inl (cI, 36, .inl z0))] := hD
  refine va_putF (D := D) (ci := 1) (v := .ref q3) (ty := .object "CryptSums$Corridors") (C := RX1) (T := TX1) (N := 5) hx hb hts iX1 tyX1 tyX1_ok nmX1 hown hK hP hD hS 0 rfl rfl 2 (by decide) (hts (.fieldLink RX1 27 "CryptSums$Floor" "down" "LCryptSums$Corridors;") (by decide +kernel)) (fun _ h9 => h9) rfl hnm rfl (by decide +kernel) rfl rfl (Nat.le_of_ble_eq_true rfl) dX1_init_45 (fun H locs hP hD hS => ?_)
  replace hP : va_P D vwCl [(h0, .inr (1, [.ref q1, .ref q2, .ref q3, .int 0, .int 0])), (q1, .inl (cI, 36, .inl z0)), (q10, .inr (2, [.ref q11])), (q11, .inl (cJ, 3584, .inr (.inl su))), (q2, .inr (0, [.ref q1, .ref q10, .ref uA.1, .ref uA.2.1, .ref uA.2.2, .int 1, .int 0, .int 0, .int 0])), (uA.1, .inl (cI, 36, .inl z0)), (uA.2.1, .inl (cI, 36, .inl z0)), (uA.2.2, .inl (cI, 36, .inl z0)), (q3, .inr (0, [.ref q1, .ref q10, .ref uD.1, .ref uD.2.1, .ref uD.2.2, .int 1, .int 0, .int 0, .int 0])), (uD.1, .inl (cI, 36, .inl z0)), (uD.2.1, .inl (cI, 36, .inl z0)), (uD.2.2, .inl (cI, 36, .inl z0))] H := hP
  replace hD : va_D A [(h0, .inr (1, [.ref q1, .ref q2, .ref q3, .int 0, .int 0])), (q1, .inl (cI, 36, .inl z0)), (q10, .inr (2, [.ref q11])), (q11, .inl (cJ, 3584, .inr (.inl su))), (q2, .inr (0, [.ref q1, .ref q10, .ref uA.1, .ref uA.2.1, .ref uA.2.2, .int 1, .int 0, .int 0, .int 0])), (uA.1, .inl (cI, 36, .inl z0)), (uA.2.1, .inl (cI, 36, .inl z0)), (uA.2.2, .inl (cI, 36, .inl z0)), (q3, .inr (0, [.ref q1, .ref q10, .ref uD.1, .ref uD.2.1, .ref uD.2.2, .int 1, .int 0, .int 0, .int 0])), (uD.1, .inl (cI, 36, .inl z0)), (uD.2.1, .inl (cI, 36, .inl z0)), (uD.2.2, .inl (cI, 36, .inl z0))] := hD
  obtain ⟨b, hb0, hb1, hb2, hb3, hb4, hb5, hb6, hb7, hb8, hb9, hb10, hb11⟩ : ∃ b : Nat → Nat, b 0 = h0 ∧ b 1 = q1 ∧ b 2 = q2 ∧ b 3 = q3 ∧ b 4 = uA.1 ∧ b 5 = uA.2.1 ∧ b 6 = uA.2.2 ∧ b 7 = uD.1 ∧ b 8 = uD.2.1 ∧ b 9 = uD.2.2 ∧ b 10 = q10 ∧ b 11 = q11 := ⟨fun k => match k with | 0 => h0 | 1 => q1 | 2 => q2 | 3 => q3 | 4 => uA.1 | 5 => uA.2.1 | 6 => uA.2.2 | 7 => uD.1 | 8 => uD.2.1 | 9 => uD.2.2 | 10 => q10 | _ => q11, rfl, rfl, rfl, rfl, rfl, rfl, rfl, rfl, rfl, rfl, rfl, rfl⟩
  rw [← hb1, ← hb2, ← hb3, ← hb4, ← hb5, ← hb6, ← hb7, ← hb8, ← hb9, ← hb10, ← hb11] at hP hD
  subst hb0
  replace hP := hP.sub (ws' := (fw b cI cJ z0 0 0 cs0 cs0 su j0 j0)) [0, 1, 4, 8, 5, 6, 7, 9, 10, 11, 2, 3] rfl
  replace hD := hD.sub (ws' := (fw b cI cJ z0 0 0 cs0 cs0 su j0 j0)) [0, 1, 4, 8, 5, 6, 7, 9, 10, 11, 2, 3] (by decide) rfl
  refine lv_aload_n hx hb dX1_init_48 rfl (lv_at hl 2 rfl) ?_
  refine lv_iconst (v := 4) hx hb dX1_init_49 (by decide) ?_
  refine lv_iconst (v := 4) hx hb dX1_init_50 (by decide) ?_
  refine cW_v [0, 1, 2, 3, 4, 5, 6, 7, 8, 9, 10, 11] [] (va_runV (As := [.int 4, .int 4]) (rest := []) ⟨hx, hb, hml, hown, hts⟩ (kX1_clear (l := l) (D := D) (cI := cI) (cJ := cJ) N b (st := z0) (co := 0) (ro := 0) (cA := cs0) (cD := cs0) (su := su) (jA := j0) (jD := j0) hM2 H.size) (cwV 2 hts gX1_init_X1_clear rfl rfl rfl (by decide +kernel) ⟨Nat.le_of_ble_eq_true rfl, Nat.le_of_ble_eq_true rfl⟩) (preV [.int 4, .int 4] hN hK hP hD (ci := 1) (q0 := 0) rfl rfl) rfl rfl hl.1 rfl (lv_room (Nat.le_of_ble_eq_true rfl)) dX1_init_51 ⟨Nat.le_of_ble_eq_true rfl, Nat.le_of_ble_eq_true rfl⟩) hP hD hS hA rfl (wr := []) rfl (by decide) (by decide) (fun u H locs hw hP hD hS => ?_)
  subst hQ hAe
  exact W.vret hx hb hr (fun t ht hW => ⟨⟨b, rfl, rfl, ⟨by rw [ht]; exact hP, hD⟩⟩, hS.F ht⟩) hS.2.2 dX1_init_54
abbrev nX0 (h0 : Nat) : va_W := [(h0, .inr (4, [.null, .null]))]
abbrev rmX4_init : Room := { frames := 8, cells := 15, slots := 3939, locals := 200 }
set_option maxHeartbeats 4000000 in
set_option maxRecDepth 100000 in
theorem kX4_init {l : Launch} {D : va_G} {cI cJ : ClassId} (N : Nat) (h0 : Nat) {su : RowJ} (hM : mX2_init N (fun _ => 0) = some su) {o : RowI × Int32 × Int32 × CS × CS} (hM2 : mX1_clear N z0 0 0 cs0 cs0 4 4 = some o) (sz : Nat) : Met l yX4_init wsX4_init rmX4_init (va_Pc [.ref h0] (Pre D cI cJ (nX0 h0) sz)) (va_Qv (fun (a : Nat → Nat) => a 15 = h0) (aft D (nX0 h0) sz (fun a => xw a cI cJ z0 z0 0 0 0 0 o.1 o.2.1 o.2.2.1 o.2.2.2.1 o.2.2.2.2 su j0 j0)) (va_A (nX0 h0) sz)) 15 3939 (va_A (nX0 h0) sz) := by
  refine xofW (cc := cX4_init) (maxL := 1) (ret := none) rfl (by decide) rfl ?_
  intro p e s m args below meth c ls Q A hQ hAe hx hb hr hml hown hts hlocks hnm hN hK H locs hP hD hS hA hl
  replace hown : s.vm.findClass RX4 = some m.cls := hown
  replace hl : lv_has ls 1 [(0, .ref h0)] := hl
  have iX4 : ∀ w ∈ wsX40, w ∈ wsX4_init := by decide +kernel
  have iX1 : ∀ w ∈ wsX10, w ∈ wsX4_init := by decide +kernel
  have iX3 : ∀ w ∈ wsX30, w ∈ wsX4_init := by decide +kernel
  refine lv_aload_n hx hb dX4_init_0 rfl (lv_at hl 0 rfl) ?_
  refine W.objInit hx hb hown (hts (.methodLink RX4 1 objectInit) (by decide +kernel)) (hts (.instanceMethod objectInit) (by decide +kernel)) (hts (.code objectInit ⟨#[0xb1]⟩ 1 none) (by decide +kernel)) rfl (by rw [hml]; exact hl.1) rfl dX4_init_1 (Nat.le_of_ble_eq_true rfl) (Nat.le_of_ble_eq_true rfl) ?_
  refine W.eq (g2 := F0 m 4 ls []) rfl ?_
  refine lv_aload_n hx hb dX4_init_4 rfl (lv_at hl 0 rfl) ?_
  refine va_new (D := D) (ci := 1) (fs := [.null, .null, .null, .int 0, .int 0]) (C := RX1) (T := TX1) (N := 5) hx hb hts iX1 tyX1 tyX1_ok hown (hts (.classLink RX4 7 RX1) (by decide +kernel)) (hts (.instantiable RX1 5) (by decide +kernel)) (hts (.initialized RX1) (by decide +kernel)) hK hP hD hS hA rfl (by decide +kernel) (Nat.le_of_ble_eq_true rfl) (Nat.le_of_ble_eq_true rfl) dX4_init_5 (fun q0 H hP hD hS => ?_)
  replace hP : va_P D vwCl [(h0, .inr (4, [.null, .null])), (q0, .inr (1, [.null, .null, .null, .int 0, .int 0]))] H := hP
  replace hD : va_D A [(h0, .inr (4, [.null, .null])), (q0, .inr (1, [.null, .null, .null, .int 0, .int 0]))] := hD
  refine lv_dup hx hb dX4_init_8 rfl ?_
  refine cW_v [1] [0] (va_runI (As := []) (rest := [.ref q0, .ref h0]) ⟨hx, hb, hml, hown, hts⟩ (kX1_init (l := l) (D := D) (cI := cI) (cJ := cJ) N q0 hM hM2 H.size) (cwI 0 hts gX4_init_X1_init rfl rfl rfl (hts (.initialized RX1) (by decide +kernel)) (hts (.methodLink RX4 9 yX1_init) (by decide +kernel)) (hts (.instanceMethod yX1_init) (by decide +kernel)) rfl (by decide +kernel) ⟨Nat.le_of_ble_eq_true rfl, Nat.le_of_ble_eq_true rfl⟩) (preS (.ref q0 :: []) hN hK (hP.sub (ws' := (nF0 q0)) [1] rfl) (hD.sub (ws' := (nF0 q0)) [1] (by decide) rfl)) rfl rfl hl.1 rfl (lv_room (Nat.le_of_ble_eq_true rfl)) dX4_init_9 ⟨Nat.le_of_ble_eq_true rfl, Nat.le_of_ble_eq_true rfl⟩) hP hD hS hA rfl (wr := [(h0, .inr (4, [.null, .null]))]) rfl (by decide) (by decide) (fun a H locs hw hP hD hS => ?_)
  replace hP : va_P D vwCl ((h0, .inr (4, [.null, .null])) :: fw a cI cJ o.1 o.2.1 o.2.2.1 o.2.2.2.1 o.2.2.2.2 su j0 j0) H := hP
  replace hD : va_D A ((h0, .inr (4, [.null, .null])) :: fw a cI cJ o.1 o.2.1 o.2.2.1 o.2.2.2.1 o.2.2.2.2 su j0 j0) := hD
  refine va_putF (D := D) (ci := 4) (v := .ref q0) (ty := .object "CryptSums$Floor") (C := RX4) (T := TX4) (N := 2) hx hb hts iX4 tyX4 tyX4_ok nmX4 hown hK hP hD hS 0 rfl rfl 0 (by decide) (hts (.fieldLink RX4 10 "CryptSums" "floor" "LCryptSums$Floor;") (by decide +kernel)) (fun _ h9 => h9) rfl hnm rfl (by decide +kernel) rfl rfl (Nat.le_of_ble_eq_true rfl) dX4_init_12 (fun H locs hP hD hS => ?_)
  rw [← hw] at hP hD
  replace hP : va_P D vwCl ((h0, .inr (4, [.ref (a 0), .null])) :: fw a cI cJ o.1 o.2.1 o.2.2.1 o.2.2.2.1 o.2.2.2.2 su j0 j0) H := hP
  replace hD : va_D A ((h0, .inr (4, [.ref (a 0), .null])) :: fw a cI cJ o.1 o.2.1 o.2.2.1 o.2.2.2.1 o.2.2.2.2 su j0 j0) := hD
  refine lv_aload_n hx hb dX4_init_15 rfl (lv_at hl 0 rfl) ?_
  refine va_new (D := D) (ci := 3) (fs := [.null, .null, .null, .int 0, .int 0, .int 0, .int 0]) (C := RX3) (T := TX3) (N := 7) hx hb hts iX3 tyX3 tyX3_ok hown (hts (.classLink RX4 16 RX3) (by decide +kernel)) (hts (.instantiable RX3 7) (by decide +kernel)) (hts (.initialized RX3) (by decide +kernel)) hK hP hD hS hA rfl (by decide +kernel) (Nat.le_of_ble_eq_true rfl) (Nat.le_of_ble_eq_true rfl) dX4_init_16 (fun q12 H hP hD hS => ?_)
  replace hP : va_P D vwCl ((h0, .inr (4, [.ref (a 0), .null])) :: (fw a cI cJ o.1 o.2.1 o.2.2.1 o.2.2.2.1 o.2.2.2.2 su j0 j0 ++ [(q12, .inr (3, [.null, .null, .null, .int 0, .int 0, .int 0, .int 0]))])) H := hP
  replace hD : va_D A ((h0, .inr (4, [.ref (a 0), .null])) :: (fw a cI cJ o.1 o.2.1 o.2.2.1 o.2.2.2.1 o.2.2.2.2 su j0 j0 ++ [(q12, .inr (3, [.null, .null, .null, .int 0, .int 0, .int 0, .int 0]))])) := hD
  refine lv_dup hx hb dX4_init_19 rfl ?_
  refine lv_aload_n hx hb dX4_init_20 rfl (lv_at hl 0 rfl) ?_
  refine va_get (D := D) (ci := 4) (v := .ref (a 0)) (C := RX4) (T := TX4) (N := 2) hx hb hts iX4 hown hK hP 0 rfl rfl 0 (by decide) (hts (.fieldLink RX4 10 "CryptSums" "floor" "LCryptSums$Floor;") (by decide +kernel)) (fun _ h9 => h9) rfl dX4_init_21 ?_
  refine cW_v [13] [0, 1, 2, 3, 4, 5, 6, 7, 8, 9, 10, 11, 12] (va_runI (As := [.ref (a 0)]) (rest := [.ref q12, .ref h0]) ⟨hx, hb, hml, hown, hts⟩ (kX3_init (l := l) (D := D) (cI := cI) (cJ := cJ) q12 (a 0) H.size) (cwI 1 hts gX4_init_X3_init rfl rfl rfl (hts (.initialized RX3) (by decide +kernel)) (hts (.methodLink RX4 18 yX3_init) (by decide +kernel)) (hts (.instanceMethod yX3_init) (by decide +kernel)) rfl (by decide +kernel) ⟨Nat.le_of_ble_eq_true rfl, Nat.le_of_ble_eq_true rfl⟩) (preS (.ref q12 :: [.ref (a 0)]) hN hK (hP.sub (ws' := (nS0 q12)) [13] rfl) (hD.sub (ws' := (nS0 q12)) [13] (by decide) rfl)) rfl rfl hl.1 rfl (lv_room (Nat.le_of_ble_eq_true rfl)) dX4_init_24 ⟨Nat.le_of_ble_eq_true rfl, Nat.le_of_ble_eq_true rfl⟩) hP hD hS hA rfl (wr := ((h0, .inr (4, [.ref (a 0), .null])) :: fw a cI cJ o.1 o.2.1 o.2.2.1 o.2.2.2.1 o.2.2.2.2 su j0 j0)) rfl (by decide) (by decide) (fun u H locs hw hP hD hS => ?_)
  replace hP : va_P D vwCl ((h0, .inr (4, [.ref (a 0), .null])) :: (fw a cI cJ o.1 o.2.1 o.2.2.1 o.2.2.2.1 o.2.2.2.2 su j0 j0 ++ nS cI q12 (a 0) u.1 u.2)) H := hP
  replace hD : va_D A ((h0, .inr (4, [.ref (a 0), .null])) :: (fw a cI cJ o.1 o.2.1 o.2.2.1 o.2.2.2.1 o.2.2.2.2 su j0 j0 ++ nS cI q12 (a 0) u.1 u.2)) := hD
  refine va_putF (D := D) (ci := 4) (v := .ref q12) (ty := .object "CryptSums$Search") (C := RX4) (T := TX4) (N := 2) hx hb hts iX4 tyX4 tyX4_ok nmX4 hown hK hP hD hS 0 rfl rfl 1 (by decide) (hts (.fieldLink RX4 21 "CryptSums" "search" "LCryptSums$Search;") (by decide +kernel)) (fun _ h9 => h9) rfl hnm rfl (by decide +kernel) rfl rfl (Nat.le_of_ble_eq_true rfl) dX4_init_27 (fun H locs hP hD hS => ?_)
  replace hP : va_P D vwCl ((h0, .inr (4, [.ref (a 0), .ref q12])) :: (fw a cI cJ o.1 o.2.1 o.2.2.1 o.2.2.2.1 o.2.2.2.2 su j0 j0 ++ nS cI q12 (a 0) u.1 u.2)) H := hP
  replace hD : va_D A ((h0, .inr (4, [.ref (a 0), .ref q12])) :: (fw a cI cJ o.1 o.2.1 o.2.2.1 o.2.2.2.1 o.2.2.2.2 su j0 j0 ++ nS cI q12 (a 0) u.1 u.2)) := hD
  obtain ⟨b, hb0⟩ : ∃ b : Nat → Nat, b = fun k => match k with | 12 => q12 | 13 => u.1 | 14 => u.2 | 15 => h0 | k => a k := ⟨_, rfl⟩
  replace hP := hP.sub (ws' := (xw b cI cJ z0 z0 0 0 0 0 o.1 o.2.1 o.2.2.1 o.2.2.2.1 o.2.2.2.2 su j0 j0)) [13, 14, 15, 0, 1, 2, 3, 4, 5, 6, 7, 8, 9, 10, 11, 12] (by subst hb0; rfl)
  replace hD := hD.sub (ws' := (xw b cI cJ z0 z0 0 0 0 0 o.1 o.2.1 o.2.2.1 o.2.2.2.1 o.2.2.2.2 su j0 j0)) [13, 14, 15, 0, 1, 2, 3, 4, 5, 6, 7, 8, 9, 10, 11, 12] (by decide) (by subst hb0; rfl)
  have hb15 : b 15 = h0 := by subst hb0; rfl
  subst hQ hAe
  exact W.vret hx hb hr (fun t ht hW => ⟨⟨b, rfl, hb15, ⟨by rw [ht]; exact hP, hD⟩⟩, hS.F ht⟩) hS.2.2 dX4_init_30
