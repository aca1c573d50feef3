set_option maxHeartbeats 4000000 in
set_option maxRecDepth 100000 in
theorem kL_build {l : Launch} {D : va_G} {cI cJ cB cM : ClassId} (hlt : l.stackTraces = false) (N : Nat) (b0 L : Nat) (xs : Nat → Int32) (a : Nat → Nat) {ho ke : RowI} {hc tr fo fr : Int32} {st : RowI} {co ro : Int32} {cA cD : CS} {su : RowJ} {jA jD : JT} {o : (Int32 × RowI × Int32 × Int32 × CS × CS × Int32 × Int32 × Nat × Nat × RowR × RowR × RowR)} (hM : mL_build_e L xs N fr st co ro cA cD 4 4 4 4 (fun _ _ => 0) (fun _ _ => 0) (fun _ _ => 0) = some o) (sz : Nat) : Met l yL_build wsL_build rmL_build (va_Pc [.ref (a 15), .ref b0] (PreB D cI cJ cB cM b0 L xs (xw a cI cJ ho ke hc tr fo fr st co ro cA cD su jA jD) sz)) (va_Qr (fun (_ : JT × JT × (Nat → Nat) × (Nat → Nat → Nat)) => True) (fun u b t => b = u.2.2.1 0 ∧ va_P D vwCl ((xw a cI cJ ho ke hc tr fo o.1 o.2.1 o.2.2.1 o.2.2.2.1 o.2.2.2.2.1 o.2.2.2.2.2.1 su u.1 u.2.1 ++ (z4 u.2.2.1 cM o.2.2.2.2.2.2.1 o.2.2.2.2.2.2.2.1 o.2.2.2.2.2.2.2.2.2.1 u.2.2.2)) ++ (zpl cI o.2.2.2.2.2.2.2.2.1 o.2.2.2.2.2.2.2.2.2.1 u.2.2.2 o.2.2.2.2.2.2.2.2.2.2.1 o.2.2.2.2.2.2.2.2.2.2.2.1 o.2.2.2.2.2.2.2.2.2.2.2.2)) t.heap ∧ va_D (va_A (xw a cI cJ ho ke hc tr fo fr st co ro cA cD su jA jD) sz) ((xw a cI cJ ho ke hc tr fo o.1 o.2.1 o.2.2.1 o.2.2.2.1 o.2.2.2.2.1 o.2.2.2.2.2.1 su u.1 u.2.1 ++ (z4 u.2.2.1 cM o.2.2.2.2.2.2.1 o.2.2.2.2.2.2.2.1 o.2.2.2.2.2.2.2.2.2.1 u.2.2.2)) ++ (zpl cI o.2.2.2.2.2.2.2.2.1 o.2.2.2.2.2.2.2.2.2.1 u.2.2.2 o.2.2.2.2.2.2.2.2.2.2.1 o.2.2.2.2.2.2.2.2.2.2.2.1 o.2.2.2.2.2.2.2.2.2.2.2.2))) (va_A (xw a cI cJ ho ke hc tr fo fr st co ro cA cD su jA jD) sz)) 55518 363910 (va_A (xw a cI cJ ho ke hc tr fo fr st co ro cA cD su jA jD) sz) := by
  refine xofB (cc := cL_build) (maxL := 5) (ret := (some (.object "CryptSumsLaw$Sim"))) rfl (by decide) rfl ?_
  intro p e s m args below meth c0 ls Q A hQ hAe hx hb hr hml hown hts hlocks hTX hX hbl hbA hN hK H locs hP hD hS hA hl
  replace hown : s.vm.findClass RL = some m.cls := hown
  replace hl : lv_has ls 5 [(0, .ref (a 15)), (1, .ref b0)] := hl
  have iX5 : ∀ w ∈ wsX50, w ∈ wsL_build := by decide +kernel
  refine va_new (D := D) (ci := 5) (fs := [.int 0, .int 0, .null, .null, .null, .int 0, .int 0, .null]) (C := RX5) (T := TX5) (N := 8) hx hb hts iX5 tyX5 tyX5_ok hown (hts (.classLink RL 10 RX5) (by decide +kernel)) (hts (.instantiable RX5 8) (by decide +kernel)) (hts (.initialized RX5) (by decide +kernel)) hK hP hD hS hA rfl (by decide +kernel) (Nat.le_of_ble_eq_true rfl) (Nat.le_of_ble_eq_true rfl) dL_build_0 (fun q0 H hP hD hS => ?_)
  replace hP : va_P D vwCl (xw a cI cJ ho ke hc tr fo fr st co ro cA cD su jA jD ++ nZ0 q0) H := hP
  replace hD : va_D A (xw a cI cJ ho ke hc tr fo fr st co ro cA cD su jA jD ++ nZ0 q0) := hD
  refine lv_dup hx hb dL_build_3 rfl ?_
  refine cW_v (wn := fun (u : (Nat → Nat) × (Nat → Nat → Nat)) => nZ cI cM u.1 u.2) [16] [0, 1, 2, 3, 4, 5, 6, 7, 8, 9, 10, 11, 12, 13, 14, 15] (va_runIN (As := []) (rest := [.ref q0]) ⟨hx, hb, hml, hown, hts⟩ (kX5_init (l := l) (D := D) (cI := cI) (cJ := cJ) (cB := cB) (cM := cM) q0 H.size) ⟨va_cnB 0 hts gL_build_X5_init_n60 rfl rfl rfl hN.2.2 (hts (.initialized RX5) (by decide +kernel)) (by decide +kernel) ⟨Nat.le_of_ble_eq_true rfl, Nat.le_of_ble_eq_true rfl⟩, rfl, hts (.instanceMethod yX5_init) (by decide +kernel)⟩ (preSZ [.ref q0] hN hK (hP.sub (ws' := nZ0 q0) [16] rfl) (hD.sub (ws' := nZ0 q0) [16] (by decide) rfl)) rfl rfl hl.1 rfl (lv_room (Nat.le_of_ble_eq_true rfl)) dL_build_4 ⟨Nat.le_of_ble_eq_true rfl, Nat.le_of_ble_eq_true rfl⟩) hP hD hS hA rfl (wr := (xw a cI cJ ho ke hc tr fo fr st co ro cA cD su jA jD)) rfl (by decide) (by decide) (fun u H locs hw hP hD hS => ?_)
  obtain ⟨c, r⟩ := u
  replace hw : c 0 = q0 := hw
  rw [← hw]
  replace hP : va_P D vwCl ((xw a cI cJ ho ke hc tr fo fr st co ro cA cD su jA jD ++ z4 c cM 4 4 4 r) ++ zpl cI 4 4 r (fun _ _ => 0) (fun _ _ => 0) (fun _ _ => 0)) H := by rw [List.append_assoc]; exact hP
  replace hD : va_D A ((xw a cI cJ ho ke hc tr fo fr st co ro cA cD su jA jD ++ z4 c cM 4 4 4 r) ++ zpl cI 4 4 r (fun _ _ => 0) (fun _ _ => 0) (fun _ _ => 0)) := by rw [List.append_assoc]; exact hD
  refine lv_astore_n (lv' := [(2, .ref (c 0)), (0, .ref (a 15)), (1, .ref b0)]) hx hb dL_build_7 rfl hl (by decide) rfl (fun ls hl => ?_)
  refine W.widen (k := 22) (n := 134) (by decide) (by decide) ?_
  refine bL_build hlt N b0 L xs a c r (o := o) (fun jA jD c r kc ks hkc hks Hq locs ls hP hD hS => ?_) hM 22 134 (by omega) (by omega) hx hb hml hown hts hlocks hTX hX hbl hbA hN hK hP hD hS hA (lv_sub hl [1, 2, 0] rfl)
  refine W.widen (k := 55518) (n := 363910) hkc hks ?_
  subst hQ hAe
  exact W.aret hx hb hr (Or.inl ⟨_, rfl⟩) (Or.inr ⟨_, rfl⟩) (fun t ht hW => ⟨⟨(jA, jD, c, r), c 0, rfl, trivial, rfl, by rw [ht]; exact hP, hD⟩, hS.F ht⟩) hS.2.2 dL_build_97
