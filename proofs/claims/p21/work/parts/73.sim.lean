def mX5_with_9 (N : Nat) (na0 : Nat) (fa0 : RowI) (p2 : Int32) : Nat → RowI → Nat → Int32 → Option (Nat × RowI)
  | 0 => fun _ _ _ => none
  | n + 1 => fun fL2 nL2 v3 => (if (nI na0) ≤ v3 then
  (if bad (nI na0) nL2 then none else
  some (nL2, (upd fL2 (nI na0).toNatClampNeg p2)))
  else
  (if bad v3 na0 then none else
  (if bad v3 nL2 then none else
  (mX5_with_9 N na0 fa0 p2 n (upd fL2 v3.toNatClampNeg (fa0 v3.toNatClampNeg)) nL2 (v3 + 1)))))
def mX5_with (N : Nat) (na0 : Nat) (fa0 : RowI) (p2 : Int32) : Option (Nat × RowI) :=
  (if 7 ≤ na0 then none else
  (mX5_with_9 N na0 fa0 p2 N (fun _ => 0) (na0 + 1) (0 : Int32)))
abbrev rmX5_with : Room := { frames := 1, cells := 1, slots := 7, locals := 16 }
set_option maxHeartbeats 4000000 in
set_option maxRecDepth 100000 in
theorem kX5_with {l : Launch} {D : va_G} {cI cJ cB cM : ClassId} (N : Nat) (qa0 : Nat) {na0 : Nat} {fa0 : RowI} {p2 : Int32} {o : (Nat × RowI)} (hM : mX5_with N na0 fa0 p2 = some o) (sz : Nat) : Met l yX5_with wsX5_with rmX5_with (va_Pc [.ref qa0, .int p2] (PreZ D cI cJ cB cM [(qa0, .inl (cI, na0, .inl fa0))] sz)) (va_Qr (fun (_ : Unit) => True) (fun (u : Unit) b t => va_P D vwCl [(qa0, .inl (cI, na0, .inl fa0)), (b, .inl (cI, o.1, .inl o.2))] t.heap ∧ va_D (va_A [(qa0, .inl (cI, na0, .inl fa0))] sz) [(qa0, .inl (cI, na0, .inl fa0)), (b, .inl (cI, o.1, .inl o.2))]) (va_A [(qa0, .inl (cI, na0, .inl fa0))] sz)) 1 7 (va_A [(qa0, .inl (cI, na0, .inl fa0))] sz) := by
  refine xofZ (cc := cX5_with) (maxL := 4) (ret := (some (.array .int))) rfl (by decide) rfl ?_
  intro p e s m args below meth c0 ls Q A hQ hAe hx hb hr hml hown hts hlocks hnm hN hK Hq locs hP hD hS hA hl
  replace hown : s.vm.findClass RX5 = some m.cls := hown
  replace hl : lv_has ls 4 [(0, .ref qa0), (1, .int p2)] := hl
  have c9 : ∀ (n : Nat), ∀ (fL2 : RowI) (nL2 : Nat) (v3 : Int32), mX5_with_9 N na0 fa0 p2 n fL2 nL2 v3 = some o → ∀ (qL2 : Nat), ∀ (kc ks : Nat), kc + (0) ≤ 1 → ks + (0) ≤ 7 → ∀ (Hq : Heap) (locs : List Loc) (ls : Array Slot), va_P D vwCl [(qa0, .inl (cI, na0, .inl fa0)), (qL2, .inl (cI, nL2, .inl fL2))] Hq → va_D A [(qa0, .inl (cI, na0, .inl fa0)), (qL2, .inl (cI, nL2, .inl fL2))] → va_S A s.heap Hq locs → lv_has ls 4 [(0, .ref qa0), (1, .int p2), (2, .ref qL2), (3, .int v3)] → W p l e rmX5_with s m args below meth c0 Hq locs kc ks Q (F0 m 9 ls []) := by
    intro n
    induction n with
    | zero =>
      intro fL2 nL2 v3 hM
      rw [mX5_with_9] at hM
      cases hM
    | succ n ih =>
      intro fL2 nL2 v3 hM qL2 kc ks hkc hks Hq locs ls hP hD hS hl
      rw [mX5_with_9] at hM
      refine lv_iload_n hx hb dX5_with_9 rfl (lv_at hl 3 rfl) ?_
      refine lv_aload_n hx hb dX5_with_10 rfl (lv_at hl 0 rfl) ?_
      refine va_alen (D := D) (v := (nI na0)) hx hb hK hP 0 0 rfl rfl rfl dX5_with_11 ?_
      refine lv_icmp_ge (tgt := 27) hx hb dX5_with_12 (by decide) (fun hcc => ?_) (fun hcc => ?_)
      · replace hM := it_p hcc hM
        refine lv_aload_n hx hb dX5_with_27 rfl (lv_at hl 2 rfl) ?_
        refine lv_aload_n hx hb dX5_with_28 rfl (lv_at hl 0 rfl) ?_
        refine va_alen (D := D) (v := (nI na0)) hx hb hK hP 0 0 rfl rfl rfl dX5_with_29 ?_
        refine lv_iload_n hx hb dX5_with_30 rfl (lv_at hl 1 rfl) ?_
        obtain ⟨hb31, hM⟩ := it_x hM
        refine va_iast (D := D) hx hb hK hP hD hS 1 0 rfl rfl hb31 dX5_with_31 (fun Hq locs hP hD hS => ?_)
        replace hP : va_P D vwCl [(qa0, .inl (cI, na0, .inl fa0)), (qL2, .inl (cI, nL2, .inl (upd fL2 (nI na0).toNatClampNeg p2)))] Hq := hP
        replace hD : va_D A [(qa0, .inl (cI, na0, .inl fa0)), (qL2, .inl (cI, nL2, .inl (upd fL2 (nI na0).toNatClampNeg p2)))] := hD
        refine lv_aload_n hx hb dX5_with_32 rfl (lv_at hl 2 rfl) ?_
        obtain rfl := Option.some.inj hM
        refine W.widen (k := 1) (n := 7) (by omega) (by omega) ?_
        subst hQ hAe
        exact W.aret hx hb hr (Or.inr ⟨_, rfl⟩) (Or.inr ⟨_, rfl⟩) (fun t ht hW => ⟨⟨(), qL2, rfl, trivial, ⟨by rw [ht]; exact hP, hD⟩⟩, hS.F ht⟩) hS.2.2 dX5_with_33
      · replace hM := it_n hcc hM
        refine lv_aload_n hx hb dX5_with_15 rfl (lv_at hl 2 rfl) ?_
        refine lv_iload_n hx hb dX5_with_16 rfl (lv_at hl 3 rfl) ?_
        refine lv_aload_n hx hb dX5_with_17 rfl (lv_at hl 0 rfl) ?_
        refine lv_iload_n hx hb dX5_with_18 rfl (lv_at hl 3 rfl) ?_
        obtain ⟨hb19, hM⟩ := it_x hM
        refine va_iald (D := D) hx hb hK hP 0 0 rfl rfl hb19 dX5_with_19 ?_
        obtain ⟨hb20, hM⟩ := it_x hM
        refine va_iast (D := D) hx hb hK hP hD hS 1 0 rfl rfl hb20 dX5_with_20 (fun Hq locs hP hD hS => ?_)
        replace hP : va_P D vwCl [(qa0, .inl (cI, na0, .inl fa0)), (qL2, .inl (cI, nL2, .inl (upd fL2 v3.toNatClampNeg (fa0 v3.toNatClampNeg))))] Hq := hP
        replace hD : va_D A [(qa0, .inl (cI, na0, .inl fa0)), (qL2, .inl (cI, nL2, .inl (upd fL2 v3.toNatClampNeg (fa0 v3.toNatClampNeg))))] := hD
        refine lv_iinc (v := (v3 + 1)) (lv' := [(3, .int (v3 + 1)), (0, .ref qa0), (1, .int p2), (2, .ref qL2)]) hx hb dX5_with_21 hl (k := 3) rfl (by rfl) (by decide) rfl (fun ls hl => ?_)
        refine lv_goto (tgt := 9) hx hb dX5_with_24 (by decide) ?_
        exact ih (upd fL2 v3.toNatClampNeg (fa0 v3.toNatClampNeg)) nL2 (v3 + 1) hM qL2 kc ks (by omega) (by omega) Hq locs ls hP hD hS (lv_sub hl [1, 2, 3, 0] rfl)
  rw [mX5_with] at hM
  refine lv_aload_n hx hb dX5_with_0 rfl (lv_at hl 0 rfl) ?_
  refine va_alen (D := D) (v := (nI na0)) hx hb hK hP 0 0 rfl rfl rfl dX5_with_1 ?_
  refine lv_iconst (v := 1) hx hb dX5_with_2 (by decide) ?_
  refine lv_iadd hx hb dX5_with_3 ?_
  obtain ⟨hg4, hM⟩ := it_x hM
  refine newIZ (D := D) (cI := cI) (cJ := cJ) (cB := cB) (cM := cM) hx hb (hts (.arrayClass .int) (by decide +kernel)) hK hP hD hS hA (na0 + 1) (new_n hg4 (by decide)).1 (new_n hg4 (by decide)).2 (new_b hg4 (by decide)) (by show _ ≤ 1; omega) (by show _ ≤ 7; omega) dX5_with_4 (fun q4 Hq hP hD hS => ?_)
  replace hP : va_P D vwCl [(qa0, .inl (cI, na0, .inl fa0)), (q4, .inl (cI, (na0 + 1), .inl (fun _ => 0)))] Hq := hP
  replace hD : va_D A [(qa0, .inl (cI, na0, .inl fa0)), (q4, .inl (cI, (na0 + 1), .inl (fun _ => 0)))] := hD
  refine W.widen (k := 1) (n := 7) (by omega) (by omega) ?_
  refine lv_astore_n (lv' := [(2, .ref q4), (0, .ref qa0), (1, .int p2)]) hx hb dX5_with_6 rfl hl (by decide) rfl (fun ls hl => ?_)
  refine lv_iconst (v := 0) hx hb dX5_with_7 (by decide) ?_
  refine lv_istore_n (lv' := [(3, .int (0 : Int32)), (2, .ref q4), (0, .ref qa0), (1, .int p2)]) hx hb dX5_with_8 rfl hl (by decide) rfl (fun ls hl => ?_)
  exact c9 N (fun _ => 0) (na0 + 1) (0 : Int32) hM q4 1 7 (by omega) (by omega) Hq locs ls hP hD hS (lv_sub hl [2, 3, 1, 0] rfl)
def mX5_isMade_17 (N : Nat) (R : RowI → Int32 → Int32 → Int32 → Option Int32) (fa3 : RowI) (p1 : Int32) (p2 : Int32) : Nat → Int32 → Option Int32
  | 0 => fun _ => none
  | n + 1 => fun v4 => (if (10 : Int32) ≤ v4 then
  some (0 : Int32)
  else
  (if p2 < v4 then
  some (0 : Int32)
  else
  (if bad v4 10 then none else
  (if (fa3 v4.toNatClampNeg) = 0 then
  ((R fa3 (p1 - (1 : Int32)) (p2 - v4) (v4 + (1 : Int32))).bind fun x49 =>
  (if x49 = 0 then
  (mX5_isMade_17 N R fa3 p1 p2 n (v4 + 1))
  else
  some (1 : Int32)))
  else
  (mX5_isMade_17 N R fa3 p1 p2 n (v4 + 1))))))
def mX5_isMade (N : Nat) : Nat → RowI → Int32 → Int32 → Int32 → Option Int32
  | 0 => fun _ _ _ _ => none
  | d + 1 => fun fa3 p1 p2 p3 => (if p1 = 0 then
  (if p2 = 0 then
  some (1 : Int32)
  else
  some (0 : Int32))
  else
  (mX5_isMade_17 N (mX5_isMade N d) fa3 p1 p2 N p3))
abbrev rmX5_isMade (d : Nat) : Room := { frames := 1 + d, cells := d * 0, slots := d * 0, locals := 16 + d * 24 }
set_option maxHeartbeats 4000000 in
set_option maxRecDepth 100000 in
theorem kX5_isMade {l : Launch} {D : va_G} {cI cJ cB cM : ClassId} (N : Nat) (qa3 : Nat) : ∀ (d : Nat) {fa3 : RowI} {p1 : Int32} {p2 : Int32} {p3 : Int32} {o : Int32} (hM : mX5_isMade N d fa3 p1 p2 p3 = some o) (sz : Nat), Met l yX5_isMade wsX5_isMade (rmX5_isMade d) (va_Pc [.int p1, .int p2, .int p3, .ref qa3] (PreZ D cI cJ cB cM [(qa3, .inl (cB, 10, .inl fa3))] sz)) (va_Qi (fun (r0 : Int32) (u : Unit) => r0 = o ∧ bz r0) (aft D [(qa3, .inl (cB, 10, .inl fa3))] sz (fun (u : Unit) => [(qa3, .inl (cB, 10, .inl fa3))])) (va_A [(qa3, .inl (cB, 10, .inl fa3))] sz)) 0 0 (va_A [(qa3, .inl (cB, 10, .inl fa3))] sz) := by
  intro d
  induction d with
  | zero =>
    intro fa3 p1 p2 p3 o hM sz
    rw [mX5_isMade] at hM
    cases hM
  | succ d ihd =>
    intro fa3 p1 p2 p3 o hM sz
    refine xofZ (cc := cX5_isMade) (maxL := 5) (ret := (some .boolean)) rfl (by decide) rfl ?_
    intro p e s m args below meth c0 ls Q A hQ hAe hx hb hr hml hown hts hlocks hnm hN hK Hq locs hP hD hS hA hl
    replace hown : s.vm.findClass RX5 = some m.cls := hown
    replace hl : lv_has ls 5 [(0, .int p1), (1, .int p2), (2, .int p3), (3, .ref qa3)] := hl
    have c17 : ∀ (n : Nat), ∀ (v4 : Int32), mX5_isMade_17 N (mX5_isMade N d) fa3 p1 p2 n v4 = some o → ∀ (Hq : Heap) (locs : List Loc) (ls : Array Slot), va_P D vwCl [(qa3, .inl (cB, 10, .inl fa3))] Hq → va_D A [(qa3, .inl (cB, 10, .inl fa3))] → va_S A s.heap Hq locs → lv_has ls 5 [(0, .int p1), (1, .int p2), (3, .ref qa3), (4, .int v4)] → W p l e (rmX5_isMade (d + 1)) s m args below meth c0 Hq locs 0 0 Q (F0 m 17 ls []) := by
      intro n
      induction n with
      | zero =>
        intro v4 hM
        rw [mX5_isMade_17] at hM
        cases hM
      | succ n ih =>
        intro v4 hM Hq locs ls hP hD hS hl
        rw [mX5_isMade_17] at hM
        refine lv_iload hx hb dX5_isMade_17 (lv_at hl 3 rfl) ?_
        refine lv_bipush (v := 10) hx hb dX5_isMade_19 (by decide) ?_
        refine lv_icmp_ge (tgt := 63) hx hb dX5_isMade_21 (by decide) (fun hcc => ?_) (fun hcc => ?_)
        · replace hM := it_p hcc hM
          refine lv_iconst (v := 0) hx hb dX5_isMade_63 (by decide) ?_
          obtain rfl := Option.some.inj hM
          subst hQ hAe
          exact W.zret (ty := .boolean) (v := (0 : Int32)) hx hb hr (nb_z (Or.inl rfl)) (fun t ht hW => ⟨⟨(0 : Int32), (), rfl, ⟨rfl, Or.inl rfl⟩, ⟨by rw [ht]; exact hP, hD⟩⟩, hS.F ht⟩) hS.2.2 dX5_isMade_64
        · replace hM := it_n hcc hM
          refine lv_iload hx hb dX5_isMade_24 (lv_at hl 3 rfl) ?_
          refine lv_iload_n hx hb dX5_isMade_26 rfl (lv_at hl 1 rfl) ?_
          refine lv_icmp_gt (tgt := 63) hx hb dX5_isMade_27 (by decide) (fun hcc => ?_) (fun hcc => ?_)
          · replace hM := it_p hcc hM
            refine lv_iconst (v := 0) hx hb dX5_isMade_63 (by decide) ?_
            obtain rfl := Option.some.inj hM
            subst hQ hAe
            exact W.zret (ty := .boolean) (v := (0 : Int32)) hx hb hr (nb_z (Or.inl rfl)) (fun t ht hW => ⟨⟨(0 : Int32), (), rfl, ⟨rfl, Or.inl rfl⟩, ⟨by rw [ht]; exact hP, hD⟩⟩, hS.F ht⟩) hS.2.2 dX5_isMade_64
          · replace hM := it_n hcc hM
            refine lv_aload_n hx hb dX5_isMade_30 rfl (lv_at hl 2 rfl) ?_
            refine lv_iload hx hb dX5_isMade_31 (lv_at hl 3 rfl) ?_
            obtain ⟨hb33, hM⟩ := it_x hM
            refine va_zald (D := D) hx hb hK hP 0 2 rfl rfl hb33 dX5_isMade_33 ?_
            refine lv_if_ne (tgt := 57) hx hb dX5_isMade_34 (by decide) (fun hcc => ?_) (fun hcc => ?_)
            · replace hM := it_n hcc hM
              refine lv_iinc (v := (v4 + 1)) (lv' := [(4, .int (v4 + 1)), (0, .int p1), (1, .int p2), (3, .ref qa3)]) hx hb dX5_isMade_57 hl (k := 3) rfl (by rfl) (by decide) rfl (fun ls hl => ?_)
              refine lv_goto (tgt := 17) hx hb dX5_isMade_60 (by decide) ?_
              exact ih (v4 + 1) hM Hq locs ls hP hD hS (lv_sub hl [1, 2, 3, 0] rfl)
            · replace hM := it_p hcc hM
              refine lv_iload_n hx hb dX5_isMade_37 rfl (lv_at hl 0 rfl) ?_
              refine lv_iconst (v := 1) hx hb dX5_isMade_38 (by decide) ?_
              refine lv_isub hx hb dX5_isMade_39 ?_
              refine lv_iload_n hx hb dX5_isMade_40 rfl (lv_at hl 1 rfl) ?_
              refine lv_iload hx hb dX5_isMade_41 (lv_at hl 3 rfl) ?_
              refine lv_isub hx hb dX5_isMade_43 ?_
              refine lv_iload hx hb dX5_isMade_44 (lv_at hl 3 rfl) ?_
              refine lv_iconst (v := 1) hx hb dX5_isMade_46 (by decide) ?_
              refine lv_iadd hx hb dX5_isMade_47 ?_
              refine lv_aload_n hx hb dX5_isMade_48 rfl (lv_at hl 2 rfl) ?_
              obtain ⟨x49, hC, hM⟩ := bd_s hM
              refine cW_i (wn := fun (u : Unit) => [(qa3, .inl (cB, 10, .inl fa3))]) [0] [] (va_runS (As := [.int (p1 - (1 : Int32)), .int (p2 - v4), .int (v4 + (1 : Int32)), .ref qa3]) (rest := []) ⟨hx, hb, hml, hown, hts⟩ (ihd (fa3 := fa3) (p1 := (p1 - (1 : Int32))) (p2 := (p2 - v4)) (p3 := (v4 + (1 : Int32))) hC Hq.size) (va_cwS 4 hts gX5_isMade_X5_isMade rfl rfl rfl (by decide +kernel) ⟨by dsimp only [rmX5_isMade, rmX5_isMade]; omega, by dsimp only [rmX5_isMade, rmX5_isMade]; omega⟩) (preSZ [.int (p1 - (1 : Int32)), .int (p2 - v4), .int (v4 + (1 : Int32)), .ref qa3] hN hK (hP.sub (ws' := [(qa3, .inl (cB, 10, .inl fa3))]) [0] rfl) (hD.sub (ws' := [(qa3, .inl (cB, 10, .inl fa3))]) [0] (by decide) rfl)) rfl rfl hl.1 rfl (lv_room (Nat.le_of_ble_eq_true rfl)) dX5_isMade_49 ⟨Nat.zero_le _, Nat.zero_le _⟩) hP hD hS hA rfl (wr := ([] : va_W)) rfl (by decide) (by decide) (fun r0 u49 Hq locs hw hP hD hS => ?_)
              replace hP := hP.sub (ws' := [(qa3, .inl (cB, 10, .inl fa3))]) [0] rfl
              replace hD := hD.sub (ws' := [(qa3, .inl (cB, 10, .inl fa3))]) [0] (by decide) rfl
              obtain ⟨hw, hz49⟩ := hw
              rw [hw] at hz49
              rw [hw]
              refine lv_if_eq (tgt := 57) hx hb dX5_isMade_52 (by decide) (fun hcc => ?_) (fun hcc => ?_)
              · replace hM := it_p hcc hM
                refine lv_iinc (v := (v4 + 1)) (lv' := [(4, .int (v4 + 1)), (0, .int p1), (1, .int p2), (3, .ref qa3)]) hx hb dX5_isMade_57 hl (k := 3) rfl (by rfl) (by decide) rfl (fun ls hl => ?_)
                refine lv_goto (tgt := 17) hx hb dX5_isMade_60 (by decide) ?_
                exact ih (v4 + 1) hM Hq locs ls hP hD hS (lv_sub hl [1, 2, 3, 0] rfl)
              · replace hM := it_n hcc hM
                refine lv_iconst (v := 1) hx hb dX5_isMade_55 (by decide) ?_
                obtain rfl := Option.some.inj hM
                subst hQ hAe
                exact W.zret (ty := .boolean) (v := (1 : Int32)) hx hb hr (nb_z (Or.inr rfl)) (fun t ht hW => ⟨⟨(1 : Int32), (), rfl, ⟨rfl, Or.inr rfl⟩, ⟨by rw [ht]; exact hP, hD⟩⟩, hS.F ht⟩) hS.2.2 dX5_isMade_56
    rw [mX5_isMade] at hM
    refine lv_iload_n hx hb dX5_isMade_0 rfl (lv_at hl 0 rfl) ?_
    refine lv_if_ne (tgt := 14) hx hb dX5_isMade_1 (by decide) (fun hcc => ?_) (fun hcc => ?_)
    · replace hM := it_n hcc hM
      refine lv_iload_n hx hb dX5_isMade_14 rfl (lv_at hl 2 rfl) ?_
      refine lv_istore (lv' := [(4, .int p3), (0, .int p1), (1, .int p2), (2, .int p3), (3, .ref qa3)]) hx hb dX5_isMade_15 hl (by decide) rfl (fun ls hl => ?_)
      exact c17 N p3 hM Hq locs ls hP hD hS (lv_sub hl [1, 2, 4, 0] rfl)
    · replace hM := it_p hcc hM
      refine lv_iload_n hx hb dX5_isMade_4 rfl (lv_at hl 1 rfl) ?_
      refine lv_if_ne (tgt := 12) hx hb dX5_isMade_5 (by decide) (fun hcc => ?_) (fun hcc => ?_)
      · replace hM := it_n hcc hM
        refine lv_iconst (v := 0) hx hb dX5_isMade_12 (by decide) ?_
        obtain rfl := Option.some.inj hM
        subst hQ hAe
        exact W.zret (ty := .boolean) (v := (0 : Int32)) hx hb hr (nb_z (Or.inl rfl)) (fun t ht hW => ⟨⟨(0 : Int32), (), rfl, ⟨rfl, Or.inl rfl⟩, ⟨by rw [ht]; exact hP, hD⟩⟩, hS.F ht⟩) hS.2.2 dX5_isMade_13
      · replace hM := it_p hcc hM
        refine lv_iconst (v := 1) hx hb dX5_isMade_8 (by decide) ?_
        refine lv_goto (tgt := 13) hx hb dX5_isMade_9 (by decide) ?_
        obtain rfl := Option.some.inj hM
        subst hQ hAe
        exact W.zret (ty := .boolean) (v := (1 : Int32)) hx hb hr (nb_z (Or.inr rfl)) (fun t ht hW => ⟨⟨(1 : Int32), (), rfl, ⟨rfl, Or.inr rfl⟩, ⟨by rw [ht]; exact hP, hD⟩⟩, hS.F ht⟩) hS.2.2 dX5_isMade_13
def mX5_at (N : Nat) (wI : Int32) (Wn : Nat) (Hn : Nat) (gS : RowR) (p1 : Int32) : Option Int32 :=
  (if wI = 0 then none else
  (if bad (p1 / wI) Hn then none else
  (if wI = 0 then none else
  (if bad (p1 - p1 / wI * wI) Wn then none else
  some (gS ((p1 / wI).toNatClampNeg) (p1 - p1 / wI * wI).toNatClampNeg)))))
abbrev rmX5_at : Room := { frames := 1, cells := 0, slots := 0, locals := 16 }
set_option maxHeartbeats 4000000 in
set_option maxRecDepth 100000 in
theorem kX5_at {l : Launch} {D : va_G} {cI cJ cB cM : ClassId} (N : Nat) (c : Nat → Nat) (r : Nat → Nat → Nat) {wI : Int32} {hI : Int32} {Wn : Nat} {Hn : Nat} {gS : RowR} {gA : RowR} {gD : RowR} {p1 : Int32} {o : Int32} (hM : mX5_at N wI Wn Hn gS p1 = some o) (sz : Nat) : Met l yX5_at wsX5_at rmX5_at (va_Pc [.ref (c 0), .int p1] (PreZ D cI cJ cB cM ((z4 c cM wI hI Hn r) ++ (zpl cI Wn Hn r gS gA gD)) sz)) (va_Qi (fun (r0 : Int32) (u : Unit) => r0 = o) (aft D ((z4 c cM wI hI Hn r) ++ (zpl cI Wn Hn r gS gA gD)) sz (fun (u : Unit) => ((z4 c cM wI hI Hn r) ++ (zpl cI Wn Hn r gS gA gD)))) (va_A ((z4 c cM wI hI Hn r) ++ (zpl cI Wn Hn r gS gA gD)) sz)) 0 0 (va_A ((z4 c cM wI hI Hn r) ++ (zpl cI Wn Hn r gS gA gD)) sz) := by
  refine xofZ (cc := cX5_at) (maxL := 2) (ret := (some .int)) rfl (by decide) rfl ?_
  intro p e s m args below meth c0 ls Q A hQ hAe hx hb hr hml hown hts hlocks hnm hN hK Hq locs hP hD hS hA hl
  replace hown : s.vm.findClass RX5 = some m.cls := hown
  replace hl : lv_has ls 2 [(0, .ref (c 0)), (1, .int p1)] := hl
  have iX5 : ∀ w ∈ wsX50, w ∈ wsX5_at := by decide +kernel
  have f18 := hts (.fieldLink RX5 18 "CryptSumsLaw$Sim" "stones" "[[I") (by decide +kernel)
  have f7 := hts (.fieldLink RX5 7 "CryptSumsLaw$Sim" "w" "I") (by decide +kernel)
  rw [mX5_at] at hM
  refine lv_aload_n hx hb dX5_at_0 rfl (lv_at hl 0 rfl) ?_
  refine va_get (D := D) (ci := 5) (v := .ref (c 1)) (C := RX5) (T := TX5) (N := 8) hx hb hts iX5 hown hK hP 0 rfl rfl 2 (by decide) f18 (fun _ h9 => h9) rfl dX5_at_1 ?_
  refine lv_iload_n hx hb dX5_at_4 rfl (lv_at hl 1 rfl) ?_
  refine lv_aload_n hx hb dX5_at_5 rfl (lv_at hl 0 rfl) ?_
  refine va_get (D := D) (ci := 5) (v := .int wI) (C := RX5) (T := TX5) (N := 8) hx hb hts iX5 hown hK hP 0 rfl rfl 0 (by decide) f7 (fun _ h9 => h9) rfl dX5_at_6 ?_
  obtain ⟨hz9, hM⟩ := it_x hM
  refine lv_idiv hx hb dX5_at_9 hz9 ?_
  obtain ⟨hb10, hM⟩ := it_x hM
  refine z_aald (D := D) hx hb hK hP 1 rfl hb10 dX5_at_10 ?_
  refine lv_iload_n hx hb dX5_at_11 rfl (lv_at hl 1 rfl) ?_
  refine lv_aload_n hx hb dX5_at_12 rfl (lv_at hl 0 rfl) ?_
  refine va_get (D := D) (ci := 5) (v := .int wI) (C := RX5) (T := TX5) (N := 8) hx hb hts iX5 hown hK hP 0 rfl rfl 0 (by decide) f7 (fun _ h9 => h9) rfl dX5_at_13 ?_
  obtain ⟨hz16, hM⟩ := it_x hM
  refine lv_irem hx hb dX5_at_16 hz16 ?_
  obtain ⟨hb17, hM⟩ := it_x hM
  refine va_iald (D := D) hx hb hK hP _ 0 (row0 (z4 c cM wI hI Hn r) (lt_in hb10)) rfl hb17 dX5_at_17 ?_
  obtain rfl := Option.some.inj hM
  subst hQ hAe
  exact W.iret (v := (gS ((p1 / wI).toNatClampNeg) (p1 - p1 / wI * wI).toNatClampNeg)) hx hb hr (fun t ht hW => ⟨⟨(gS ((p1 / wI).toNatClampNeg) (p1 - p1 / wI * wI).toNatClampNeg), (), rfl, rfl, ⟨by rw [ht]; exact hP, hD⟩⟩, hS.F ht⟩) hS.2.2 dX5_at_18
def mX5_sumAt (N : Nat) (wI : Int32) (Wn : Nat) (Hn : Nat) (gA : RowR) (gD : RowR) (p1 : Int32) (p2 : Int32) : Option Int32 :=
  (if p2 = 0 then
  (if wI = 0 then none else
  (if bad (p1 / wI) Hn then none else
  (if wI = 0 then none else
  (if bad (p1 - p1 / wI * wI) Wn then none else
  some (gA ((p1 / wI).toNatClampNeg) (p1 - p1 / wI * wI).toNatClampNeg)))))
  else
  (if wI = 0 then none else
  (if bad (p1 / wI) Hn then none else
  (if wI = 0 then none else
  (if bad (p1 - p1 / wI * wI) Wn then none else
  some (gD ((p1 / wI).toNatClampNeg) (p1 - p1 / wI * wI).toNatClampNeg))))))
abbrev rmX5_sumAt : Room := { frames := 1, cells := 0, slots := 0, locals := 16 }
set_option maxHeartbeats 4000000 in
set_option maxRecDepth 100000 in
theorem kX5_sumAt {l : Launch} {D : va_G} {cI cJ cB cM : ClassId} (N : Nat) (c : Nat → Nat) (r : Nat → Nat → Nat) {wI : Int32} {hI : Int32} {Wn : Nat} {Hn : Nat} {gS : RowR} {gA : RowR} {gD : RowR} {p1 : Int32} {p2 : Int32} {o : Int32} (hM : mX5_sumAt N wI Wn Hn gA gD p1 p2 = some o) (sz : Nat) : Met l yX5_sumAt wsX5_sumAt rmX5_sumAt (va_Pc [.ref (c 0), .int p1, .int p2] (PreZ D cI cJ cB cM ((z4 c cM wI hI Hn r) ++ (zpl cI Wn Hn r gS gA gD)) sz)) (va_Qi (fun (r0 : Int32) (u : Unit) => r0 = o) (aft D ((z4 c cM wI hI Hn r) ++ (zpl cI Wn Hn r gS gA gD)) sz (fun (u : Unit) => ((z4 c cM wI hI Hn r) ++ (zpl cI Wn Hn r gS gA gD)))) (va_A ((z4 c cM wI hI Hn r) ++ (zpl cI Wn Hn r gS gA gD)) sz)) 0 0 (va_A ((z4 c cM wI hI Hn r) ++ (zpl cI Wn Hn r gS gA gD)) sz) := by
  refine xofZ (cc := cX5_sumAt) (maxL := 3) (ret := (some .int)) rfl (by decide) rfl ?_
  intro p e s m args below meth c0 ls Q A hQ hAe hx hb hr hml hown hts hlocks hnm hN hK Hq locs hP hD hS hA hl
  replace hown : s.vm.findClass RX5 = some m.cls := hown
  replace hl : lv_has ls 3 [(0, .ref (c 0)), (1, .int p1), (2, .int p2)] := hl
  have iX5 : ∀ w ∈ wsX50, w ∈ wsX5_sumAt := by decide +kernel
  have f21 := hts (.fieldLink RX5 21 "CryptSumsLaw$Sim" "across" "[[I") (by decide +kernel)
  have f24 := hts (.fieldLink RX5 24 "CryptSumsLaw$Sim" "down" "[[I") (by decide +kernel)
  have f7 := hts (.fieldLink RX5 7 "CryptSumsLaw$Sim" "w" "I") (by decide +kernel)
  rw [mX5_sumAt] at hM
  refine lv_iload_n hx hb dX5_sumAt_0 rfl (lv_at hl 2 rfl) ?_
  refine lv_if_eq (tgt := 11) hx hb dX5_sumAt_1 (by decide) (fun hcc => ?_) (fun hcc => ?_)
  · replace hM := it_p hcc hM
    refine lv_aload_n hx hb dX5_sumAt_11 rfl (lv_at hl 0 rfl) ?_
    refine va_get (D := D) (ci := 5) (v := .ref (c 2)) (C := RX5) (T := TX5) (N := 8) hx hb hts iX5 hown hK hP 0 rfl rfl 3 (by decide) f21 (fun _ h9 => h9) rfl dX5_sumAt_12 ?_
    refine lv_iload_n hx hb dX5_sumAt_15 rfl (lv_at hl 1 rfl) ?_
    refine lv_aload_n hx hb dX5_sumAt_16 rfl (lv_at hl 0 rfl) ?_
    refine va_get (D := D) (ci := 5) (v := .int wI) (C := RX5) (T := TX5) (N := 8) hx hb hts iX5 hown hK hP 0 rfl rfl 0 (by decide) f7 (fun _ h9 => h9) rfl dX5_sumAt_17 ?_
    obtain ⟨hz20, hM⟩ := it_x hM
    refine lv_idiv hx hb dX5_sumAt_20 hz20 ?_
    obtain ⟨hb21, hM⟩ := it_x hM
    refine z_aald (D := D) hx hb hK hP 2 rfl hb21 dX5_sumAt_21 ?_
    refine lv_iload_n hx hb dX5_sumAt_22 rfl (lv_at hl 1 rfl) ?_
    refine lv_aload_n hx hb dX5_sumAt_23 rfl (lv_at hl 0 rfl) ?_
    refine va_get (D := D) (ci := 5) (v := .int wI) (C := RX5) (T := TX5) (N := 8) hx hb hts iX5 hown hK hP 0 rfl rfl 0 (by decide) f7 (fun _ h9 => h9) rfl dX5_sumAt_24 ?_
    obtain ⟨hz27, hM⟩ := it_x hM
    refine lv_irem hx hb dX5_sumAt_27 hz27 ?_
    obtain ⟨hb28, hM⟩ := it_x hM
    refine va_iald (D := D) hx hb hK hP _ 0 (row1 (z4 c cM wI hI Hn r) (lt_in hb21)) rfl hb28 dX5_sumAt_28 ?_
    obtain rfl := Option.some.inj hM
    subst hQ hAe
    exact W.iret (v := (gA ((p1 / wI).toNatClampNeg) (p1 - p1 / wI * wI).toNatClampNeg)) hx hb hr (fun t ht hW => ⟨⟨(gA ((p1 / wI).toNatClampNeg) (p1 - p1 / wI * wI).toNatClampNeg), (), rfl, rfl, ⟨by rw [ht]; exact hP, hD⟩⟩, hS.F ht⟩) hS.2.2 dX5_sumAt_29
  · replace hM := it_n hcc hM
    refine lv_aload_n hx hb dX5_sumAt_4 rfl (lv_at hl 0 rfl) ?_
    refine va_get (D := D) (ci := 5) (v := .ref (c 3)) (C := RX5) (T := TX5) (N := 8) hx hb hts iX5 hown hK hP 0 rfl rfl 4 (by decide) f24 (fun _ h9 => h9) rfl dX5_sumAt_5 ?_
    refine lv_goto (tgt := 15) hx hb dX5_sumAt_8 (by decide) ?_
    refine lv_iload_n hx hb dX5_sumAt_15 rfl (lv_at hl 1 rfl) ?_
    refine lv_aload_n hx hb dX5_sumAt_16 rfl (lv_at hl 0 rfl) ?_
    refine va_get (D := D) (ci := 5) (v := .int wI) (C := RX5) (T := TX5) (N := 8) hx hb hts iX5 hown hK hP 0 rfl rfl 0 (by decide) f7 (fun _ h9 => h9) rfl dX5_sumAt_17 ?_
    obtain ⟨hz20, hM⟩ := it_x hM
    refine lv_idiv hx hb dX5_sumAt_20 hz20 ?_
    obtain ⟨hb21, hM⟩ := it_x hM
    refine z_aald (D := D) hx hb hK hP 3 rfl hb21 dX5_sumAt_21 ?_
    refine lv_iload_n hx hb dX5_sumAt_22 rfl (lv_at hl 1 rfl) ?_
    refine lv_aload_n hx hb dX5_sumAt_23 rfl (lv_at hl 0 rfl) ?_
    refine va_get (D := D) (ci := 5) (v := .int wI) (C := RX5) (T := TX5) (N := 8) hx hb hts iX5 hown hK hP 0 rfl rfl 0 (by decide) f7 (fun _ h9 => h9) rfl dX5_sumAt_24 ?_
    obtain ⟨hz27, hM⟩ := it_x hM
    refine lv_irem hx hb dX5_sumAt_27 hz27 ?_
    obtain ⟨hb28, hM⟩ := it_x hM
    refine va_iald (D := D) hx hb hK hP _ 0 (row2 (z4 c cM wI hI Hn r) (lt_in hb21)) rfl hb28 dX5_sumAt_28 ?_
    obtain rfl := Option.some.inj hM
    subst hQ hAe
    exact W.iret (v := (gD ((p1 / wI).toNatClampNeg) (p1 - p1 / wI * wI).toNatClampNeg)) hx hb hr (fun t ht hW => ⟨⟨(gD ((p1 / wI).toNatClampNeg) (p1 - p1 / wI * wI).toNatClampNeg), (), rfl, rfl, ⟨by rw [ht]; exact hP, hD⟩⟩, hS.F ht⟩) hS.2.2 dX5_sumAt_29
def mX5_corridor_121 (N : Nat) (wI : Int32) (hI : Int32) (Wn : Nat) (Hn : Nat) (gS : RowR) (p1 : Int32) (p2 : Int32) (p3 : Int32) (K8 : RowI → Nat → Int32 → Option (Nat × RowI)) (v5 : Int32) : Option (Nat × RowI) :=
  (K8 (fun _ => 0) 0 (v5 + 1))
def mX5_corridor_80 (N : Nat) (wI : Int32) (hI : Int32) (Wn : Nat) (Hn : Nat) (gS : RowR) (p1 : Int32) (p2 : Int32) (p3 : Int32) (K8 : RowI → Nat → Int32 → Option (Nat × RowI)) (fL4 : RowI) (nL4 : Nat) (v5 : Int32) (v6 : Int32) (s0 : Int32) : Option (Nat × RowI) :=
  (if v6 < 0 then
  (if p3 = 0 then
  (if v5 ≤ p1 then
  (mX5_corridor_121 N wI hI Wn Hn gS p1 p2 p3 K8 v5)
  else
  some (nL4, fL4))
  else
  (if v5 ≤ p2 then
  (mX5_corridor_121 N wI hI Wn Hn gS p1 p2 p3 K8 v5)
  else
  some (nL4, fL4)))
  else
  ((mX5_with N nL4 fL4 s0).bind fun x91 =>
  (K8 x91.2 x91.1 (v5 + 1))))
def mX5_corridor_53 (N : Nat) (wI : Int32) (hI : Int32) (Wn : Nat) (Hn : Nat) (gS : RowR) (p1 : Int32) (p2 : Int32) (p3 : Int32) (K8 : RowI → Nat → Int32 → Option (Nat × RowI)) (fL4 : RowI) (nL4 : Nat) (v5 : Int32) (s0 : Int32) : Option (Nat × RowI) :=
  (if p3 = 0 then
  (mX5_corridor_80 N wI hI Wn Hn gS p1 p2 p3 K8 fL4 nL4 v5 s0 ((wI * p2) + v5))
  else
  (mX5_corridor_80 N wI hI Wn Hn gS p1 p2 p3 K8 fL4 nL4 v5 s0 ((wI * v5) + p1)))
def mX5_corridor_25 (N : Nat) (wI : Int32) (hI : Int32) (Wn : Nat) (Hn : Nat) (gS : RowR) (p1 : Int32) (p2 : Int32) (p3 : Int32) (K8 : RowI → Nat → Int32 → Option (Nat × RowI)) (fL4 : RowI) (nL4 : Nat) (v5 : Int32) (s0 : Int32) (s1 : Int32) : Option (Nat × RowI) :=
  (if s0 ≤ s1 then
  some (nL4, fL4)
  else
  (if p3 = 0 then
  (if bad p2 Hn then none else
  (if bad v5 Wn then none else
  (mX5_corridor_53 N wI hI Wn Hn gS p1 p2 p3 K8 fL4 nL4 v5 (gS p2.toNatClampNeg v5.toNatClampNeg))))
  else
  (if bad v5 Hn then none else
  (if bad p1 Wn then none else
  (mX5_corridor_53 N wI hI Wn Hn gS p1 p2 p3 K8 fL4 nL4 v5 (gS v5.toNatClampNeg p1.toNatClampNeg))))))
def mX5_corridor_8 (N : Nat) (wI : Int32) (hI : Int32) (Wn : Nat) (Hn : Nat) (gS : RowR) (p1 : Int32) (p2 : Int32) (p3 : Int32) : Nat → RowI → Nat → Int32 → Option (Nat × RowI)
  | 0 => fun _ _ _ => none
  | n + 1 => fun fL4 nL4 v5 => (if p3 = 0 then
  (mX5_corridor_25 N wI hI Wn Hn gS p1 p2 p3 (mX5_corridor_8 N wI hI Wn Hn gS p1 p2 p3 n) fL4 nL4 v5 wI v5)
  else
  (mX5_corridor_25 N wI hI Wn Hn gS p1 p2 p3 (mX5_corridor_8 N wI hI Wn Hn gS p1 p2 p3 n) fL4 nL4 v5 hI v5))
def mX5_corridor (N : Nat) (wI : Int32) (hI : Int32) (Wn : Nat) (Hn : Nat) (gS : RowR) (p1 : Int32) (p2 : Int32) (p3 : Int32) : Option (Nat × RowI) :=
  (mX5_corridor_8 N wI hI Wn Hn gS p1 p2 p3 7 (fun _ => 0) 0 (0 : Int32))
abbrev rmX5_corridor : Room := { frames := 2, cells := 8, slots := 49, locals := 39 }
set_option maxHeartbeats 4000000 in
set_option maxRecDepth 100000 in
theorem kX5_corridor {l : Launch} {D : va_G} {cI cJ cB cM : ClassId} (N : Nat) (c : Nat → Nat) (r : Nat → Nat → Nat) {wI : Int32} {hI : Int32} {Wn : Nat} {Hn : Nat} {gS : RowR} {gA : RowR} {gD : RowR} {p1 : Int32} {p2 : Int32} {p3 : Int32} {o : (Nat × RowI)} (hM : mX5_corridor N wI hI Wn Hn gS p1 p2 p3 = some o) (sz : Nat) : Met l yX5_corridor wsX5_corridor rmX5_corridor (va_Pc [.ref (c 0), .int p1, .int p2, .int p3] (PreZ D cI cJ cB cM ((z4 c cM wI hI Hn r) ++ (zpl cI Wn Hn r gS gA gD)) sz)) (va_Qr (fun (_ : Unit) => True) (fun (u : Unit) b t => va_P D vwCl ((z4 c cM wI hI Hn r ++ [(b, .inl (cI, o.1, .inl o.2))]) ++ (zpl cI Wn Hn r gS gA gD)) t.heap ∧ va_D (va_A ((z4 c cM wI hI Hn r) ++ (zpl cI Wn Hn r gS gA gD)) sz) ((z4 c cM wI hI Hn r ++ [(b, .inl (cI, o.1, .inl o.2))]) ++ (zpl cI Wn Hn r gS gA gD))) (va_A ((z4 c cM wI hI Hn r) ++ (zpl cI Wn Hn r gS gA gD)) sz)) 8 49 (va_A ((z4 c cM wI hI Hn r) ++ (zpl cI Wn Hn r gS gA gD)) sz) := by
  refine xofZ (cc := cX5_corridor) (maxL := 8) (ret := (some (.array .int))) rfl (by decide) rfl ?_
  intro p e s m args below meth c0 ls Q A hQ hAe hx hb hr hml hown hts hlocks hnm hN hK Hq locs hP hD hS hA hl
  replace hown : s.vm.findClass RX5 = some m.cls := hown
  replace hl : lv_has ls 8 [(0, .ref (c 0)), (1, .int p1), (2, .int p2), (3, .int p3)] := hl
  have iX5 : ∀ w ∈ wsX50, w ∈ wsX5_corridor := by decide +kernel
  have f13 := hts (.fieldLink RX5 13 "CryptSumsLaw$Sim" "h" "I") (by decide +kernel)
  have f18 := hts (.fieldLink RX5 18 "CryptSumsLaw$Sim" "stones" "[[I") (by decide +kernel)
  have f7 := hts (.fieldLink RX5 7 "CryptSumsLaw$Sim" "w" "I") (by decide +kernel)
  have c121 : ∀ (K8 : RowI → Nat → Int32 → Option (Nat × RowI)) (nK8 nS8 : Nat) (hK8 : ∀ (fL4 : RowI) (nL4 : Nat) (v5 : Int32), K8 fL4 nL4 v5 = some o → ∀ (qL4 : Nat), ∀ (kc ks : Nat), kc + (nK8) ≤ 8 → ks + (nS8) ≤ 49 → ∀ (Hq : Heap) (locs : List Loc) (ls : Array Slot), va_P D vwCl ((z4 c cM wI hI Hn r ++ [(qL4, .inl (cI, nL4, .inl fL4))]) ++ (zpl cI Wn Hn r gS gA gD)) Hq → va_D A ((z4 c cM wI hI Hn r ++ [(qL4, .inl (cI, nL4, .inl fL4))]) ++ (zpl cI Wn Hn r gS gA gD)) → va_S A s.heap Hq locs → lv_has ls 8 [(0, .ref (c 0)), (1, .int p1), (2, .int p2), (3, .int p3), (4, .ref qL4), (5, .int v5)] → W p l e rmX5_corridor s m args below meth c0 Hq locs kc ks Q (F0 m 8 ls [])) , 0 ≤ nK8 → 0 ≤ nS8 → ∀ (v5 : Int32), mX5_corridor_121 N wI hI Wn Hn gS p1 p2 p3 K8 v5 = some o → ∀ (kc ks : Nat), kc + (1 + nK8) ≤ 8 → ks + (nS8) ≤ 49 → ∀ (Hq : Heap) (locs : List Loc) (ls : Array Slot), va_P D vwCl ((z4 c cM wI hI Hn r) ++ (zpl cI Wn Hn r gS gA gD)) Hq → va_D A ((z4 c cM wI hI Hn r) ++ (zpl cI Wn Hn r gS gA gD)) → va_S A s.heap Hq locs → lv_has ls 8 [(0, .ref (c 0)), (1, .int p1), (2, .int p2), (3, .int p3), (5, .int v5)] → W p l e rmX5_corridor s m args below meth c0 Hq locs kc ks Q (F0 m 121 ls []) := by
      intro K8 nK8 nS8 hK8 hp0 hp1 v5 hM kc ks hkc hks Hq locs ls hP hD hS hl
      rw [mX5_corridor_121] at hM
      refine lv_iconst (v := 0) hx hb dX5_corridor_121 (by decide) ?_
      refine newIZ (D := D) (cI := cI) (cJ := cJ) (cB := cB) (cM := cM) hx hb (hts (.arrayClass .int) (by decide +kernel)) hK hP hD hS hA 0 (by decide) (by decide) (by decide) (by show _ ≤ 8; omega) (by show _ ≤ 49; omega) dX5_corridor_122 (fun q122 Hq hP hD hS => ?_)
      replace hP := va_P.swap hP
      replace hD := va_D.swap hD
      replace hP : va_P D vwCl ((z4 c cM wI hI Hn r ++ [(q122, .inl (cI, 0, .inl (fun _ => 0)))]) ++ (zpl cI Wn Hn r gS gA gD)) Hq := hP
      replace hD : va_D A ((z4 c cM wI hI Hn r ++ [(q122, .inl (cI, 0, .inl (fun _ => 0)))]) ++ (zpl cI Wn Hn r gS gA gD)) := hD
      refine W.widen (k := kc + 1) (n := ks) (by omega) (by omega) ?_
      refine lv_astore (lv' := [(4, .ref q122), (0, .ref (c 0)), (1, .int p1), (2, .int p2), (3, .int p3), (5, .int v5)]) hx hb dX5_corridor_124 hl (by decide) rfl (fun ls hl => ?_)
      refine lv_iinc (v := (v5 + 1)) (lv' := [(5, .int (v5 + 1)), (4, .ref q122), (0, .ref (c 0)), (1, .int p1), (2, .int p2), (3, .int p3)]) hx hb dX5_corridor_126 hl (k := 5) rfl (by rfl) (by decide) rfl (fun ls hl => ?_)
      refine lv_goto (tgt := 8) hx hb dX5_corridor_129 (by decide) ?_
      exact hK8 (fun _ => 0) 0 (v5 + 1) hM q122 (kc + 1) ks (by omega) (by omega) Hq locs ls hP hD hS (lv_sub hl [2, 3, 4, 5, 1, 0] rfl)
  have c80 : ∀ (K8 : RowI → Nat → Int32 → Option (Nat × RowI)) (nK8 nS8 : Nat) (hK8 : ∀ (fL4 : RowI) (nL4 : Nat) (v5 : Int32), K8 fL4 nL4 v5 = some o → ∀ (qL4 : Nat), ∀ (kc ks : Nat), kc + (nK8) ≤ 8 → ks + (nS8) ≤ 49 → ∀ (Hq : Heap) (locs : List Loc) (ls : Array Slot), va_P D vwCl ((z4 c cM wI hI Hn r ++ [(qL4, .inl (cI, nL4, .inl fL4))]) ++ (zpl cI Wn Hn r gS gA gD)) Hq → va_D A ((z4 c cM wI hI Hn r ++ [(qL4, .inl (cI, nL4, .inl fL4))]) ++ (zpl cI Wn Hn r gS gA gD)) → va_S A s.heap Hq locs → lv_has ls 8 [(0, .ref (c 0)), (1, .int p1), (2, .int p2), (3, .int p3), (4, .ref qL4), (5, .int v5)] → W p l e rmX5_corridor s m args below meth c0 Hq locs kc ks Q (F0 m 8 ls [])) , 0 ≤ nK8 → 0 ≤ nS8 → ∀ (fL4 : RowI) (nL4 : Nat) (v5 : Int32) (v6 : Int32) (s0 : Int32), mX5_corridor_80 N wI hI Wn Hn gS p1 p2 p3 K8 fL4 nL4 v5 v6 s0 = some o → ∀ (qL4 : Nat), ∀ (kc ks : Nat), kc + (1 + nK8) ≤ 8 → ks + (7 + nS8) ≤ 49 → ∀ (Hq : Heap) (locs : List Loc) (ls : Array Slot), va_P D vwCl ((z4 c cM wI hI Hn r ++ [(qL4, .inl (cI, nL4, .inl fL4))]) ++ (zpl cI Wn Hn r gS gA gD)) Hq → va_D A ((z4 c cM wI hI Hn r ++ [(qL4, .inl (cI, nL4, .inl fL4))]) ++ (zpl cI Wn Hn r gS gA gD)) → va_S A s.heap Hq locs → lv_has ls 8 [(0, .ref (c 0)), (1, .int p1), (2, .int p2), (3, .int p3), (4, .ref qL4), (5, .int v5), (6, .int v6)] → W p l e rmX5_corridor s m args below meth c0 Hq locs kc ks Q (F0 m 80 ls [.int s0]) := by
      intro K8 nK8 nS8 hK8 hp0 hp1 fL4 nL4 v5 v6 s0 hM qL4 kc ks hkc hks Hq locs ls hP hD hS hl
      rw [mX5_corridor_80] at hM
      refine lv_istore (lv' := [(7, .int s0), (0, .ref (c 0)), (1, .int p1), (2, .int p2), (3, .int p3), (4, .ref qL4), (5, .int v5), (6, .int v6)]) hx hb dX5_corridor_80 hl (by decide) rfl (fun ls hl => ?_)
      refine lv_iload hx hb dX5_corridor_82 (lv_at hl 7 rfl) ?_
      refine lv_if_lt (tgt := 99) hx hb dX5_corridor_84 (by decide) (fun hcc => ?_) (fun hcc => ?_)
      · replace hM := it_p hcc hM
        refine lv_iload_n hx hb dX5_corridor_99 rfl (lv_at hl 4 rfl) ?_
        refine lv_if_eq (tgt := 112) hx hb dX5_corridor_100 (by decide) (fun hcc => ?_) (fun hcc => ?_)
        · replace hM := it_p hcc hM
          refine lv_iload hx hb dX5_corridor_112 (lv_at hl 6 rfl) ?_
          refine lv_iload_n hx hb dX5_corridor_114 rfl (lv_at hl 2 rfl) ?_
          refine lv_icmp_le (tgt := 121) hx hb dX5_corridor_115 (by decide) (fun hcc => ?_) (fun hcc => ?_)
          · replace hM := it_p hcc hM
            replace hP := va_P.part (cx := (z4 c cM wI hI Hn r)) hP [0, 1, 2, 3] rfl
            replace hD := va_D.part (cx := (z4 c cM wI hI Hn r)) hD [0, 1, 2, 3] (by decide) rfl
            exact c121 K8 nK8 nS8 hK8 (by omega) (by omega) v5 hM kc ks (by omega) (by omega) Hq locs ls hP hD hS (lv_sub hl [1, 2, 3, 4, 6] rfl)
          · replace hM := it_n hcc hM
            refine lv_goto (tgt := 132) hx hb dX5_corridor_118 (by decide) ?_
            refine lv_aload hx hb dX5_corridor_132 (lv_at hl 5 rfl) ?_
            obtain rfl := Option.some.inj hM
            refine W.widen (k := 8) (n := 49) (by omega) (by omega) ?_
            subst hQ hAe
            exact W.aret hx hb hr (Or.inr ⟨_, rfl⟩) (Or.inr ⟨_, rfl⟩) (fun t ht hW => ⟨⟨(), qL4, rfl, trivial, ⟨by rw [ht]; exact hP, hD⟩⟩, hS.F ht⟩) hS.2.2 dX5_corridor_134
        · replace hM := it_n hcc hM
          refine lv_iload hx hb dX5_corridor_103 (lv_at hl 6 rfl) ?_
          refine lv_iload_n hx hb dX5_corridor_105 rfl (lv_at hl 3 rfl) ?_
          refine lv_icmp_le (tgt := 121) hx hb dX5_corridor_106 (by decide) (fun hcc => ?_) (fun hcc => ?_)
          · replace hM := it_p hcc hM
            replace hP := va_P.part (cx := (z4 c cM wI hI Hn r)) hP [0, 1, 2, 3] rfl
            replace hD := va_D.part (cx := (z4 c cM wI hI Hn r)) hD [0, 1, 2, 3] (by decide) rfl
            exact c121 K8 nK8 nS8 hK8 (by omega) (by omega) v5 hM kc ks (by omega) (by omega) Hq locs ls hP hD hS (lv_sub hl [1, 2, 3, 4, 6] rfl)
          · replace hM := it_n hcc hM
            refine lv_goto (tgt := 132) hx hb dX5_corridor_109 (by decide) ?_
            refine lv_aload hx hb dX5_corridor_132 (lv_at hl 5 rfl) ?_
            obtain rfl := Option.some.inj hM
            refine W.widen (k := 8) (n := 49) (by omega) (by omega) ?_
            subst hQ hAe
            exact W.aret hx hb hr (Or.inr ⟨_, rfl⟩) (Or.inr ⟨_, rfl⟩) (fun t ht hW => ⟨⟨(), qL4, rfl, trivial, ⟨by rw [ht]; exact hP, hD⟩⟩, hS.F ht⟩) hS.2.2 dX5_corridor_134
      · replace hM := it_n hcc hM
        refine lv_aload hx hb dX5_corridor_87 (lv_at hl 5 rfl) ?_
        refine lv_iload hx hb dX5_corridor_89 (lv_at hl 0 rfl) ?_
        obtain ⟨x91, hC, hM⟩ := bd_s hM
        refine cQ_r (wn := fun (u : Unit) b => [(qL4, .inl (cI, nL4, .inl fL4)), (b, .inl (cI, x91.1, .inl x91.2))]) [4] [0, 1, 2, 3] (va_runS (As := [.ref qL4, .int s0]) (rest := []) ⟨hx, hb, hml, hown, hts⟩ (kX5_with (l := l) (D := D) (cI := cI) (cJ := cJ) (cB := cB) (cM := cM) N qL4 (na0 := nL4) (fa0 := fL4) (p2 := s0) hC Hq.size) (va_cwS 2 hts gX5_corridor_X5_with rfl rfl rfl (by decide +kernel) ⟨Nat.le_of_ble_eq_true rfl, Nat.le_of_ble_eq_true rfl⟩) (preSZ [.ref qL4, .int s0] hN hK (subQ (cx := [(qL4, .inl (cI, nL4, .inl fL4))]) hP [4] rfl) (subQD (cx := [(qL4, .inl (cI, nL4, .inl fL4))]) hD [4] (by decide) rfl)) rfl rfl hl.1 rfl (lv_room (Nat.le_of_ble_eq_true rfl)) dX5_corridor_91 ⟨by show _ + 1 ≤ 8; omega, by show _ + 7 ≤ 49; omega⟩) hP hD hS hA rfl (wr := (z4 c cM wI hI Hn r)) rfl (by decide) (by decide) (fun u91 q91 Hq locs hw hP hD hS => ?_)
        replace hP : va_P D vwCl ((z4 c cM wI hI Hn r ++ [(qL4, .inl (cI, nL4, .inl fL4)), (q91, .inl (cI, x91.1, .inl x91.2))]) ++ (zpl cI Wn Hn r gS gA gD)) Hq := va_P.part (cx := (z4 c cM wI hI Hn r ++ [(qL4, .inl (cI, nL4, .inl fL4)), (q91, .inl (cI, x91.1, .inl x91.2))])) (pl := (zpl cI Wn Hn r gS gA gD)) hP [0, 1, 2, 3, 4, 5] rfl
        replace hD : va_D A ((z4 c cM wI hI Hn r ++ [(qL4, .inl (cI, nL4, .inl fL4)), (q91, .inl (cI, x91.1, .inl x91.2))]) ++ (zpl cI Wn Hn r gS gA gD)) := va_D.part (cx := (z4 c cM wI hI Hn r ++ [(qL4, .inl (cI, nL4, .inl fL4)), (q91, .inl (cI, x91.1, .inl x91.2))])) (pl := (zpl cI Wn Hn r gS gA gD)) hD [0, 1, 2, 3, 4, 5] (by decide) rfl
        refine W.widen (k := kc + 1) (n := ks + 7) (by show _ + 1 ≤ _; omega) (by show _ + 7 ≤ _; omega) ?_
        refine lv_astore (lv' := [(4, .ref q91), (7, .int s0), (0, .ref (c 0)), (1, .int p1), (2, .int p2), (3, .int p3), (5, .int v5), (6, .int v6)]) hx hb dX5_corridor_94 hl (by decide) rfl (fun ls hl => ?_)
        replace hP := va_P.part (cx := (z4 c cM wI hI Hn r ++ [(q91, .inl (cI, x91.1, .inl x91.2))])) hP [0, 1, 2, 3, 5] rfl
        replace hD := va_D.part (cx := (z4 c cM wI hI Hn r ++ [(q91, .inl (cI, x91.1, .inl x91.2))])) hD [0, 1, 2, 3, 5] (by decide) rfl
        refine lv_goto (tgt := 126) hx hb dX5_corridor_96 (by decide) ?_
        refine lv_iinc (v := (v5 + 1)) (lv' := [(5, .int (v5 + 1)), (4, .ref q91), (7, .int s0), (0, .ref (c 0)), (1, .int p1), (2, .int p2), (3, .int p3), (6, .int v6)]) hx hb dX5_corridor_126 hl (k := 6) rfl (by rfl) (by decide) rfl (fun ls hl => ?_)
        refine lv_goto (tgt := 8) hx hb dX5_corridor_129 (by decide) ?_
        exact hK8 x91.2 x91.1 (v5 + 1) hM q91 (kc + 1) (ks + 7) (by omega) (by omega) Hq locs ls hP hD hS (lv_sub hl [3, 4, 5, 6, 1, 0] rfl)
  have c53 : ∀ (K8 : RowI → Nat → Int32 → Option (Nat × RowI)) (nK8 nS8 : Nat) (hK8 : ∀ (fL4 : RowI) (nL4 : Nat) (v5 : Int32), K8 fL4 nL4 v5 = some o → ∀ (qL4 : Nat), ∀ (kc ks : Nat), kc + (nK8) ≤ 8 → ks + (nS8) ≤ 49 → ∀ (Hq : Heap) (locs : List Loc) (ls : Array Slot), va_P D vwCl ((z4 c cM wI hI Hn r ++ [(qL4, .inl (cI, nL4, .inl fL4))]) ++ (zpl cI Wn Hn r gS gA gD)) Hq → va_D A ((z4 c cM wI hI Hn r ++ [(qL4, .inl (cI, nL4, .inl fL4))]) ++ (zpl cI Wn Hn r gS gA gD)) → va_S A s.heap Hq locs → lv_has ls 8 [(0, .ref (c 0)), (1, .int p1), (2, .int p2), (3, .int p3), (4, .ref qL4), (5, .int v5)] → W p l e rmX5_corridor s m args below meth c0 Hq locs kc ks Q (F0 m 8 ls [])) , 0 ≤ nK8 → 0 ≤ nS8 → ∀ (fL4 : RowI) (nL4 : Nat) (v5 : Int32) (s0 : Int32), mX5_corridor_53 N wI hI Wn Hn gS p1 p2 p3 K8 fL4 nL4 v5 s0 = some o → ∀ (qL4 : Nat), ∀ (kc ks : Nat), kc + (1 + nK8) ≤ 8 → ks + (7 + nS8) ≤ 49 → ∀ (Hq : Heap) (locs : List Loc) (ls : Array Slot), va_P D vwCl ((z4 c cM wI hI Hn r ++ [(qL4, .inl (cI, nL4, .inl fL4))]) ++ (zpl cI Wn Hn r gS gA gD)) Hq → va_D A ((z4 c cM wI hI Hn r ++ [(qL4, .inl (cI, nL4, .inl fL4))]) ++ (zpl cI Wn Hn r gS gA gD)) → va_S A s.heap Hq locs → lv_has ls 8 [(0, .ref (c 0)), (1, .int p1), (2, .int p2), (3, .int p3), (4, .ref qL4), (5, .int v5)] → W p l e rmX5_corridor s m args below meth c0 Hq locs kc ks Q (F0 m 53 ls [.int s0]) := by
      intro K8 nK8 nS8 hK8 hp0 hp1 fL4 nL4 v5 s0 hM qL4 kc ks hkc hks Hq locs ls hP hD hS hl
      rw [mX5_corridor_53] at hM
      refine lv_istore (lv' := [(6, .int s0), (0, .ref (c 0)), (1, .int p1), (2, .int p2), (3, .int p3), (4, .ref qL4), (5, .int v5)]) hx hb dX5_corridor_53 hl (by decide) rfl (fun ls hl => ?_)
      refine lv_iload_n hx hb dX5_corridor_55 rfl (lv_at hl 4 rfl) ?_
      refine lv_if_eq (tgt := 71) hx hb dX5_corridor_56 (by decide) (fun hcc => ?_) (fun hcc => ?_)
      · replace hM := it_p hcc hM
        refine lv_aload_n hx hb dX5_corridor_71 rfl (lv_at hl 1 rfl) ?_
        refine va_get (D := D) (ci := 5) (v := .int wI) (C := RX5) (T := TX5) (N := 8) hx hb hts iX5 hown hK hP 0 rfl rfl 0 (by decide) f7 (fun _ h9 => h9) rfl dX5_corridor_72 ?_
        refine lv_iload_n hx hb dX5_corridor_75 rfl (lv_at hl 3 rfl) ?_
        refine lv_imul hx hb dX5_corridor_76 ?_
        refine lv_iload hx hb dX5_corridor_77 (lv_at hl 6 rfl) ?_
        refine lv_iadd hx hb dX5_corridor_79 ?_
        exact c80 K8 nK8 nS8 hK8 (by omega) (by omega) fL4 nL4 v5 s0 ((wI * p2) + v5) hM qL4 kc ks (by omega) (by omega) Hq locs ls hP hD hS (lv_sub hl [1, 2, 3, 4, 5, 6, 0] rfl)
      · replace hM := it_n hcc hM
        refine lv_aload_n hx hb dX5_corridor_59 rfl (lv_at hl 1 rfl) ?_
        refine va_get (D := D) (ci := 5) (v := .int wI) (C := RX5) (T := TX5) (N := 8) hx hb hts iX5 hown hK hP 0 rfl rfl 0 (by decide) f7 (fun _ h9 => h9) rfl dX5_corridor_60 ?_
        refine lv_iload hx hb dX5_corridor_63 (lv_at hl 6 rfl) ?_
        refine lv_imul hx hb dX5_corridor_65 ?_
        refine lv_iload_n hx hb dX5_corridor_66 rfl (lv_at hl 2 rfl) ?_
        refine lv_iadd hx hb dX5_corridor_67 ?_
        refine lv_goto (tgt := 80) hx hb dX5_corridor_68 (by decide) ?_
        exact c80 K8 nK8 nS8 hK8 (by omega) (by omega) fL4 nL4 v5 s0 ((wI * v5) + p1) hM qL4 kc ks (by omega) (by omega) Hq locs ls hP hD hS (lv_sub hl [1, 2, 3, 4, 5, 6, 0] rfl)
  have c25 : ∀ (K8 : RowI → Nat → Int32 → Option (Nat × RowI)) (nK8 nS8 : Nat) (hK8 : ∀ (fL4 : RowI) (nL4 : Nat) (v5 : Int32), K8 fL4 nL4 v5 = some o → ∀ (qL4 : Nat), ∀ (kc ks : Nat), kc + (nK8) ≤ 8 → ks + (nS8) ≤ 49 → ∀ (Hq : Heap) (locs : List Loc) (ls : Array Slot), va_P D vwCl ((z4 c cM wI hI Hn r ++ [(qL4, .inl (cI, nL4, .inl fL4))]) ++ (zpl cI Wn Hn r gS gA gD)) Hq → va_D A ((z4 c cM wI hI Hn r ++ [(qL4, .inl (cI, nL4, .inl fL4))]) ++ (zpl cI Wn Hn r gS gA gD)) → va_S A s.heap Hq locs → lv_has ls 8 [(0, .ref (c 0)), (1, .int p1), (2, .int p2), (3, .int p3), (4, .ref qL4), (5, .int v5)] → W p l e rmX5_corridor s m args below meth c0 Hq locs kc ks Q (F0 m 8 ls [])) , 0 ≤ nK8 → 0 ≤ nS8 → ∀ (fL4 : RowI) (nL4 : Nat) (v5 : Int32) (s0 : Int32) (s1 : Int32), mX5_corridor_25 N wI hI Wn Hn gS p1 p2 p3 K8 fL4 nL4 v5 s0 s1 = some o → ∀ (qL4 : Nat), ∀ (kc ks : Nat), kc + (1 + nK8) ≤ 8 → ks + (7 + nS8) ≤ 49 → ∀ (Hq : Heap) (locs : List Loc) (ls : Array Slot), va_P D vwCl ((z4 c cM wI hI Hn r ++ [(qL4, .inl (cI, nL4, .inl fL4))]) ++ (zpl cI Wn Hn r gS gA gD)) Hq → va_D A ((z4 c cM wI hI Hn r ++ [(qL4, .inl (cI, nL4, .inl fL4))]) ++ (zpl cI Wn Hn r gS gA gD)) → va_S A s.heap Hq locs → lv_has ls 8 [(0, .ref (c 0)), (1, .int p1), (2, .int p2), (3, .int p3), (4, .ref qL4), (5, .int v5)] → W p l e rmX5_corridor s m args below meth c0 Hq locs kc ks Q (F0 m 25 ls [.int s0, .int s1]) := by
      intro K8 nK8 nS8 hK8 hp0 hp1 fL4 nL4 v5 s0 s1 hM qL4 kc ks hkc hks Hq locs ls hP hD hS hl
      rw [mX5_corridor_25] at hM
      refine lv_icmp_ge (tgt := 132) hx hb dX5_corridor_25 (by decide) (fun hcc => ?_) (fun hcc => ?_)
      · replace hM := it_p hcc hM
        refine lv_aload hx hb dX5_corridor_132 (lv_at hl 4 rfl) ?_
        obtain rfl := Option.some.inj hM
        refine W.widen (k := 8) (n := 49) (by omega) (by omega) ?_
        subst hQ hAe
        exact W.aret hx hb hr (Or.inr ⟨_, rfl⟩) (Or.inr ⟨_, rfl⟩) (fun t ht hW => ⟨⟨(), qL4, rfl, trivial, ⟨by rw [ht]; exact hP, hD⟩⟩, hS.F ht⟩) hS.2.2 dX5_corridor_134
      · replace hM := it_n hcc hM
        refine lv_iload_n hx hb dX5_corridor_28 rfl (lv_at hl 3 rfl) ?_
        refine lv_if_eq (tgt := 44) hx hb dX5_corridor_29 (by decide) (fun hcc => ?_) (fun hcc => ?_)
        · replace hM := it_p hcc hM
          refine lv_aload_n hx hb dX5_corridor_44 rfl (lv_at hl 0 rfl) ?_
          refine va_get (D := D) (ci := 5) (v := .ref (c 1)) (C := RX5) (T := TX5) (N := 8) hx hb hts iX5 hown hK hP 0 rfl rfl 2 (by decide) f18 (fun _ h9 => h9) rfl dX5_corridor_45 ?_
          refine lv_iload_n hx hb dX5_corridor_48 rfl (lv_at hl 2 rfl) ?_
          obtain ⟨hb49, hM⟩ := it_x hM
          refine z_aald (D := D) hx hb hK hP 1 rfl hb49 dX5_corridor_49 ?_
          refine lv_iload hx hb dX5_corridor_50 (lv_at hl 5 rfl) ?_
          obtain ⟨hb52, hM⟩ := it_x hM
          refine va_iald (D := D) hx hb hK hP _ 0 (row0 (z4 c cM wI hI Hn r ++ [(qL4, .inl (cI, nL4, .inl fL4))]) (lt_in hb49)) rfl hb52 dX5_corridor_52 ?_
          exact c53 K8 nK8 nS8 hK8 (by omega) (by omega) fL4 nL4 v5 (gS p2.toNatClampNeg v5.toNatClampNeg) hM qL4 kc ks (by omega) (by omega) Hq locs ls hP hD hS (lv_sub hl [0, 1, 2, 3, 4, 5] rfl)
        · replace hM := it_n hcc hM
          refine lv_aload_n hx hb dX5_corridor_32 rfl (lv_at hl 0 rfl) ?_
          refine va_get (D := D) (ci := 5) (v := .ref (c 1)) (C := RX5) (T := TX5) (N := 8) hx hb hts iX5 hown hK hP 0 rfl rfl 2 (by decide) f18 (fun _ h9 => h9) rfl dX5_corridor_33 ?_
          refine lv_iload hx hb dX5_corridor_36 (lv_at hl 5 rfl) ?_
          obtain ⟨hb38, hM⟩ := it_x hM
          refine z_aald (D := D) hx hb hK hP 1 rfl hb38 dX5_corridor_38 ?_
          refine lv_iload_n hx hb dX5_corridor_39 rfl (lv_at hl 1 rfl) ?_
          obtain ⟨hb40, hM⟩ := it_x hM
          refine va_iald (D := D) hx hb hK hP _ 0 (row0 (z4 c cM wI hI Hn r ++ [(qL4, .inl (cI, nL4, .inl fL4))]) (lt_in hb38)) rfl hb40 dX5_corridor_40 ?_
          refine lv_goto (tgt := 53) hx hb dX5_corridor_41 (by decide) ?_
          exact c53 K8 nK8 nS8 hK8 (by omega) (by omega) fL4 nL4 v5 (gS v5.toNatClampNeg p1.toNatClampNeg) hM qL4 kc ks (by omega) (by omega) Hq locs ls hP hD hS (lv_sub hl [0, 1, 2, 3, 4, 5] rfl)
  have c8 : ∀ (n : Nat), ∀ (fL4 : RowI) (nL4 : Nat) (v5 : Int32), mX5_corridor_8 N wI hI Wn Hn gS p1 p2 p3 n fL4 nL4 v5 = some o → ∀ (qL4 : Nat), ∀ (kc ks : Nat), kc + (n * 1) ≤ 8 → ks + (n * 7) ≤ 49 → ∀ (Hq : Heap) (locs : List Loc) (ls : Array Slot), va_P D vwCl ((z4 c cM wI hI Hn r ++ [(qL4, .inl (cI, nL4, .inl fL4))]) ++ (zpl cI Wn Hn r gS gA gD)) Hq → va_D A ((z4 c cM wI hI Hn r ++ [(qL4, .inl (cI, nL4, .inl fL4))]) ++ (zpl cI Wn Hn r gS gA gD)) → va_S A s.heap Hq locs → lv_has ls 8 [(0, .ref (c 0)), (1, .int p1), (2, .int p2), (3, .int p3), (4, .ref qL4), (5, .int v5)] → W p l e rmX5_corridor s m args below meth c0 Hq locs kc ks Q (F0 m 8 ls []) := by
    intro n
    induction n with
    | zero =>
      intro fL4 nL4 v5 hM
      rw [mX5_corridor_8] at hM
      cases hM
    | succ n ih =>
      intro fL4 nL4 v5 hM qL4 kc ks hkc hks Hq locs ls hP hD hS hl
      rw [mX5_corridor_8] at hM
      refine lv_iload hx hb dX5_corridor_8 (lv_at hl 5 rfl) ?_
      refine lv_iload_n hx hb dX5_corridor_10 rfl (lv_at hl 3 rfl) ?_
      refine lv_if_eq (tgt := 21) hx hb dX5_corridor_11 (by decide) (fun hcc => ?_) (fun hcc => ?_)
      · replace hM := it_p hcc hM
        refine lv_aload_n hx hb dX5_corridor_21 rfl (lv_at hl 0 rfl) ?_
        refine va_get (D := D) (ci := 5) (v := .int wI) (C := RX5) (T := TX5) (N := 8) hx hb hts iX5 hown hK hP 0 rfl rfl 0 (by decide) f7 (fun _ h9 => h9) rfl dX5_corridor_22 ?_
        exact c25 (mX5_corridor_8 N wI hI Wn Hn gS p1 p2 p3 n) (n * 1) (n * 7) ih (by omega) (by omega) fL4 nL4 v5 wI v5 hM qL4 kc ks (by omega) (by omega) Hq locs ls hP hD hS (lv_sub hl [0, 1, 2, 3, 4, 5] rfl)
      · replace hM := it_n hcc hM
        refine lv_aload_n hx hb dX5_corridor_14 rfl (lv_at hl 0 rfl) ?_
        refine va_get (D := D) (ci := 5) (v := .int hI) (C := RX5) (T := TX5) (N := 8) hx hb hts iX5 hown hK hP 0 rfl rfl 1 (by decide) f13 (fun _ h9 => h9) rfl dX5_corridor_15 ?_
        refine lv_goto (tgt := 25) hx hb dX5_corridor_18 (by decide) ?_
        exact c25 (mX5_corridor_8 N wI hI Wn Hn gS p1 p2 p3 n) (n * 1) (n * 7) ih (by omega) (by omega) fL4 nL4 v5 hI v5 hM qL4 kc ks (by omega) (by omega) Hq locs ls hP hD hS (lv_sub hl [0, 1, 2, 3, 4, 5] rfl)
  rw [mX5_corridor] at hM
  refine lv_iconst (v := 0) hx hb dX5_corridor_0 (by decide) ?_
  refine newIZ (D := D) (cI := cI) (cJ := cJ) (cB := cB) (cM := cM) hx hb (hts (.arrayClass .int) (by decide +kernel)) hK hP hD hS hA 0 (by decide) (by decide) (by decide) (by show _ ≤ 8; omega) (by show _ ≤ 49; omega) dX5_corridor_1 (fun q1 Hq hP hD hS => ?_)
  replace hP := va_P.swap hP
  replace hD := va_D.swap hD
  replace hP : va_P D vwCl ((z4 c cM wI hI Hn r ++ [(q1, .inl (cI, 0, .inl (fun _ => 0)))]) ++ (zpl cI Wn Hn r gS gA gD)) Hq := hP
  replace hD : va_D A ((z4 c cM wI hI Hn r ++ [(q1, .inl (cI, 0, .inl (fun _ => 0)))]) ++ (zpl cI Wn Hn r gS gA gD)) := hD
  refine W.widen (k := 1) (n := 0) (by omega) (by omega) ?_
  refine lv_astore (lv' := [(4, .ref q1), (0, .ref (c 0)), (1, .int p1), (2, .int p2), (3, .int p3)]) hx hb dX5_corridor_3 hl (by decide) rfl (fun ls hl => ?_)
  refine lv_iconst (v := 0) hx hb dX5_corridor_5 (by decide) ?_
  refine lv_istore (lv' := [(5, .int (0 : Int32)), (4, .ref q1), (0, .ref (c 0)), (1, .int p1), (2, .int p2), (3, .int p3)]) hx hb dX5_corridor_6 hl (by decide) rfl (fun ls hl => ?_)
  exact c8 7 (fun _ => 0) 0 (0 : Int32) hM q1 1 0 (by omega) (by omega) Hq locs ls hP hD hS (lv_sub hl [2, 3, 4, 5, 1, 0] rfl)
def mX5_isWell_77 (N : Nat) (wI : Int32) (Wn : Nat) (Hn : Nat) (gS : RowR) (gA : RowR) (gD : RowR) (na1 : Nat) (fa1 : RowI) (K41 : RowI → Int32 → Int32 → Int32 → Int32 → Int32 → Option Int32) (fL3 : RowI) (v4 : Int32) (v5 : Int32) (v6 : Int32) (v8 : Int32) (v9 : Int32) (v11 : Int32) : Option Int32 :=
  (if bad v11 10 then none else
  (if v11 = 0 then
  (K41 (upd fL3 v11.toNatClampNeg (vp_nar .boolean (1 : Int32))) (v4 + (1 : Int32)) (v5 - v11) v6 v8 (v9 + 1))
  else
  (K41 (upd fL3 v11.toNatClampNeg (vp_nar .boolean (1 : Int32))) (v4 + (0 : Int32)) (v5 - v11) v6 v8 (v9 + 1))))
def mX5_isWell_41 (N : Nat) (wI : Int32) (Wn : Nat) (Hn : Nat) (gS : RowR) (gA : RowR) (gD : RowR) (na1 : Nat) (fa1 : RowI) : Nat → RowI → Int32 → Int32 → Int32 → Int32 → Int32 → Option Int32
  | 0 => fun _ _ _ _ _ _ => none
  | n + 1 => fun fL3 v4 v5 v6 v8 v9 => (if v8 ≤ v9 then
  (if v6 = 0 then
  some (1 : Int32)
  else
  ((mX5_isMade N 11 fL3 v4 v5 (1 : Int32)).bind fun x121 =>
  (if x121 = 0 then
  some (0 : Int32)
  else
  some (1 : Int32))))
  else
  (if bad v9 na1 then none else
  ((mX5_at N wI Wn Hn gS (fa1 v9.toNatClampNeg)).bind fun x58 =>
  (if x58 ≤ 0 then
  (mX5_isWell_77 N wI Wn Hn gS gA gD na1 fa1 (mX5_isWell_41 N wI Wn Hn gS gA gD na1 fa1 n) fL3 v4 v5 v6 v8 v9 x58)
  else
  (if bad x58 10 then none else
  (if (fL3 x58.toNatClampNeg) = 0 then
  (mX5_isWell_77 N wI Wn Hn gS gA gD na1 fa1 (mX5_isWell_41 N wI Wn Hn gS gA gD na1 fa1 n) fL3 v4 v5 v6 v8 v9 x58)
  else
  some (0 : Int32)))))))
def mX5_isWell_28 (N : Nat) (wI : Int32) (Wn : Nat) (Hn : Nat) (gS : RowR) (gA : RowR) (gD : RowR) (na1 : Nat) (fa1 : RowI) (fL3 : RowI) (v4 : Int32) (v5 : Int32) (s0 : Int32) : Option Int32 :=
  (mX5_isWell_41 N wI Wn Hn gS gA gD na1 fa1 N fL3 v4 v5 s0 (nI na1) (0 : Int32))
def mX5_isWell (N : Nat) (wI : Int32) (Wn : Nat) (Hn : Nat) (gS : RowR) (gA : RowR) (gD : RowR) (na1 : Nat) (fa1 : RowI) (p2 : Int32) : Option Int32 :=
  (if bad (0 : Int32) na1 then none else
  ((mX5_sumAt N wI Wn Hn gA gD (fa1 (0 : Int32).toNatClampNeg) p2).bind fun x13 =>
  (if x13 ≤ 0 then
  (mX5_isWell_28 N wI Wn Hn gS gA gD na1 fa1 (fun _ => 0) (0 : Int32) x13 (0 : Int32))
  else
  (mX5_isWell_28 N wI Wn Hn gS gA gD na1 fa1 (fun _ => 0) (0 : Int32) x13 (1 : Int32)))))
abbrev rmX5_isWell : Room := { frames := 13, cells := 1, slots := 10, locals := 304 }
set_option maxHeartbeats 4000000 in
set_option maxRecDepth 100000 in
theorem kX5_isWell {l : Launch} {D : va_G} {cI cJ cB cM : ClassId} (N : Nat) (c : Nat → Nat) (r : Nat → Nat → Nat) (qa1 : Nat) {wI : Int32} {hI : Int32} {Wn : Nat} {Hn : Nat} {gS : RowR} {gA : RowR} {gD : RowR} {na1 : Nat} {fa1 : RowI} {p2 : Int32} {o : Int32} (hM : mX5_isWell N wI Wn Hn gS gA gD na1 fa1 p2 = some o) (sz : Nat) : Met l yX5_isWell wsX5_isWell rmX5_isWell (va_Pc [.ref (c 0), .ref qa1, .int p2] (PreZ D cI cJ cB cM ((z4 c cM wI hI Hn r ++ [(qa1, .inl (cI, na1, .inl fa1))]) ++ (zpl cI Wn Hn r gS gA gD)) sz)) (va_Qi (fun (r0 : Int32) (u : Unit) => r0 = o ∧ bz r0) (aft D ((z4 c cM wI hI Hn r ++ [(qa1, .inl (cI, na1, .inl fa1))]) ++ (zpl cI Wn Hn r gS gA gD)) sz (fun (u : Unit) => ((z4 c cM wI hI Hn r ++ [(qa1, .inl (cI, na1, .inl fa1))]) ++ (zpl cI Wn Hn r gS gA gD)))) (va_A ((z4 c cM wI hI Hn r ++ [(qa1, .inl (cI, na1, .inl fa1))]) ++ (zpl cI Wn Hn r gS gA gD)) sz)) 1 10 (va_A ((z4 c cM wI hI Hn r ++ [(qa1, .inl (cI, na1, .inl fa1))]) ++ (zpl cI Wn Hn r gS gA gD)) sz) := by
  refine xofZ (cc := cX5_isWell) (maxL := 12) (ret := (some .boolean)) rfl (by decide) rfl ?_
  intro p e s m args below meth c0 ls Q A hQ hAe hx hb hr hml hown hts hlocks hnm hN hK Hq locs hP hD hS hA hl
  replace hown : s.vm.findClass RX5 = some m.cls := hown
  replace hl : lv_has ls 12 [(0, .ref (c 0)), (1, .ref qa1), (2, .int p2)] := hl
  have c77 : ∀ (K41 : RowI → Int32 → Int32 → Int32 → Int32 → Int32 → Option Int32) (nK41 nS41 : Nat) (hK41 : ∀ (fL3 : RowI) (v4 : Int32) (v5 : Int32) (v6 : Int32) (v8 : Int32) (v9 : Int32), K41 fL3 v4 v5 v6 v8 v9 = some o → ∀ (qL3 : Nat), ∀ (kc ks : Nat), kc + (nK41) ≤ 1 → ks + (nS41) ≤ 10 → ∀ (Hq : Heap) (locs : List Loc) (ls : Array Slot), va_P D vwCl ((z4 c cM wI hI Hn r ++ [(qa1, .inl (cI, na1, .inl fa1)), (qL3, .inl (cB, 10, .inl fL3))]) ++ (zpl cI Wn Hn r gS gA gD)) Hq → va_D A ((z4 c cM wI hI Hn r ++ [(qa1, .inl (cI, na1, .inl fa1)), (qL3, .inl (cB, 10, .inl fL3))]) ++ (zpl cI Wn Hn r gS gA gD)) → va_S A s.heap Hq locs → lv_has ls 12 [(0, .ref (c 0)), (3, .ref qL3), (4, .int v4), (5, .int v5), (6, .int v6), (7, .ref qa1), (8, .int v8), (9, .int v9)] → W p l e rmX5_isWell s m args below meth c0 Hq locs kc ks Q (F0 m 41 ls [])) , 0 ≤ nK41 → 0 ≤ nS41 → ∀ (fL3 : RowI) (v4 : Int32) (v5 : Int32) (v6 : Int32) (v8 : Int32) (v9 : Int32) (v11 : Int32), mX5_isWell_77 N wI Wn Hn gS gA gD na1 fa1 K41 fL3 v4 v5 v6 v8 v9 v11 = some o → ∀ (qL3 : Nat), ∀ (kc ks : Nat), kc + (nK41) ≤ 1 → ks + (nS41) ≤ 10 → ∀ (Hq : Heap) (locs : List Loc) (ls : Array Slot), va_P D vwCl ((z4 c cM wI hI Hn r ++ [(qa1, .inl (cI, na1, .inl fa1)), (qL3, .inl (cB, 10, .inl fL3))]) ++ (zpl cI Wn Hn r gS gA gD)) Hq → va_D A ((z4 c cM wI hI Hn r ++ [(qa1, .inl (cI, na1, .inl fa1)), (qL3, .inl (cB, 10, .inl fL3))]) ++ (zpl cI Wn Hn r gS gA gD)) → va_S A s.heap Hq locs → lv_has ls 12 [(0, .ref (c 0)), (3, .ref qL3), (4, .int v4), (5, .int v5), (6, .int v6), (7, .ref qa1), (8, .int v8), (9, .int v9), (11, .int v11)] → W p l e rmX5_isWell s m args below meth c0 Hq locs kc ks Q (F0 m 77 ls []) := by
      intro K41 nK41 nS41 hK41 hp0 hp1 fL3 v4 v5 v6 v8 v9 v11 hM qL3 kc ks hkc hks Hq locs ls hP hD hS hl
      rw [mX5_isWell_77] at hM
      refine lv_aload_n hx hb dX5_isWell_77 rfl (lv_at hl 1 rfl) ?_
      refine lv_iload hx hb dX5_isWell_78 (lv_at hl 8 rfl) ?_
      refine lv_iconst (v := 1) hx hb dX5_isWell_80 (by decide) ?_
      obtain ⟨hb81, hM⟩ := it_x hM
      refine va_zast (D := D) hx hb hK hP hD hS 5 2 rfl rfl hb81 dX5_isWell_81 (fun Hq locs hP hD hS => ?_)
      replace hP : va_P D vwCl ((z4 c cM wI hI Hn r ++ [(qa1, .inl (cI, na1, .inl fa1)), (qL3, .inl (cB, 10, .inl (upd fL3 v11.toNatClampNeg (vp_nar .boolean (1 : Int32)))))]) ++ (zpl cI Wn Hn r gS gA gD)) Hq := hP
      replace hD : va_D A ((z4 c cM wI hI Hn r ++ [(qa1, .inl (cI, na1, .inl fa1)), (qL3, .inl (cB, 10, .inl (upd fL3 v11.toNatClampNeg (vp_nar .boolean (1 : Int32)))))]) ++ (zpl cI Wn Hn r gS gA gD)) := hD
      refine lv_iload hx hb dX5_isWell_82 (lv_at hl 3 rfl) ?_
      refine lv_iload hx hb dX5_isWell_84 (lv_at hl 8 rfl) ?_
      refine lv_isub hx hb dX5_isWell_86 ?_
      refine lv_istore (lv' := [(5, .int (v5 - v11)), (0, .ref (c 0)), (3, .ref qL3), (4, .int v4), (6, .int v6), (7, .ref qa1), (8, .int v8), (9, .int v9), (11, .int v11)]) hx hb dX5_isWell_87 hl (by decide) rfl (fun ls hl => ?_)
      refine lv_iload hx hb dX5_isWell_89 (lv_at hl 3 rfl) ?_
      refine lv_iload hx hb dX5_isWell_91 (lv_at hl 8 rfl) ?_
      refine lv_if_ne (tgt := 100) hx hb dX5_isWell_93 (by decide) (fun hcc => ?_) (fun hcc => ?_)
      · replace hM := it_n hcc hM
        refine lv_iconst (v := 0) hx hb dX5_isWell_100 (by decide) ?_
        refine lv_iadd hx hb dX5_isWell_101 ?_
        refine lv_istore (lv' := [(4, .int (v4 + (0 : Int32))), (5, .int (v5 - v11)), (0, .ref (c 0)), (3, .ref qL3), (6, .int v6), (7, .ref qa1), (8, .int v8), (9, .int v9), (11, .int v11)]) hx hb dX5_isWell_102 hl (by decide) rfl (fun ls hl => ?_)
        refine lv_iinc (v := (v9 + 1)) (lv' := [(9, .int (v9 + 1)), (4, .int (v4 + (0 : Int32))), (5, .int (v5 - v11)), (0, .ref (c 0)), (3, .ref qL3), (6, .int v6), (7, .ref qa1), (8, .int v8), (11, .int v11)]) hx hb dX5_isWell_104 hl (k := 7) rfl (by rfl) (by decide) rfl (fun ls hl => ?_)
        refine lv_goto (tgt := 41) hx hb dX5_isWell_107 (by decide) ?_
        exact hK41 (upd fL3 v11.toNatClampNeg (vp_nar .boolean (1 : Int32))) (v4 + (0 : Int32)) (v5 - v11) v6 v8 (v9 + 1) hM qL3 kc ks (by omega) (by omega) Hq locs ls hP hD hS (lv_sub hl [3, 4, 1, 2, 5, 6, 7, 0] rfl)
      · replace hM := it_p hcc hM
        refine lv_iconst (v := 1) hx hb dX5_isWell_96 (by decide) ?_
        refine lv_goto (tgt := 101) hx hb dX5_isWell_97 (by decide) ?_
        refine lv_iadd hx hb dX5_isWell_101 ?_
        refine lv_istore (lv' := [(4, .int (v4 + (1 : Int32))), (5, .int (v5 - v11)), (0, .ref (c 0)), (3, .ref qL3), (6, .int v6), (7, .ref qa1), (8, .int v8), (9, .int v9), (11, .int v11)]) hx hb dX5_isWell_102 hl (by decide) rfl (fun ls hl => ?_)
        refine lv_iinc (v := (v9 + 1)) (lv' := [(9, .int (v9 + 1)), (4, .int (v4 + (1 : Int32))), (5, .int (v5 - v11)), (0, .ref (c 0)), (3, .ref qL3), (6, .int v6), (7, .ref qa1), (8, .int v8), (11, .int v11)]) hx hb dX5_isWell_104 hl (k := 7) rfl (by rfl) (by decide) rfl (fun ls hl => ?_)
        refine lv_goto (tgt := 41) hx hb dX5_isWell_107 (by decide) ?_
        exact hK41 (upd fL3 v11.toNatClampNeg (vp_nar .boolean (1 : Int32))) (v4 + (1 : Int32)) (v5 - v11) v6 v8 (v9 + 1) hM qL3 kc ks (by omega) (by omega) Hq locs ls hP hD hS (lv_sub hl [3, 4, 1, 2, 5, 6, 7, 0] rfl)
  have c41 : ∀ (n : Nat), ∀ (fL3 : RowI) (v4 : Int32) (v5 : Int32) (v6 : Int32) (v8 : Int32) (v9 : Int32), mX5_isWell_41 N wI Wn Hn gS gA gD na1 fa1 n fL3 v4 v5 v6 v8 v9 = some o → ∀ (qL3 : Nat), ∀ (kc ks : Nat), kc + (0) ≤ 1 → ks + (0) ≤ 10 → ∀ (Hq : Heap) (locs : List Loc) (ls : Array Slot), va_P D vwCl ((z4 c cM wI hI Hn r ++ [(qa1, .inl (cI, na1, .inl fa1)), (qL3, .inl (cB, 10, .inl fL3))]) ++ (zpl cI Wn Hn r gS gA gD)) Hq → va_D A ((z4 c cM wI hI Hn r ++ [(qa1, .inl (cI, na1, .inl fa1)), (qL3, .inl (cB, 10, .inl fL3))]) ++ (zpl cI Wn Hn r gS gA gD)) → va_S A s.heap Hq locs → lv_has ls 12 [(0, .ref (c 0)), (3, .ref qL3), (4, .int v4), (5, .int v5), (6, .int v6), (7, .ref qa1), (8, .int v8), (9, .int v9)] → W p l e rmX5_isWell s m args below meth c0 Hq locs kc ks Q (F0 m 41 ls []) := by
    intro n
    induction n with
    | zero =>
      intro fL3 v4 v5 v6 v8 v9 hM
      rw [mX5_isWell_41] at hM
      cases hM
    | succ n ih =>
      intro fL3 v4 v5 v6 v8 v9 hM qL3 kc ks hkc hks Hq locs ls hP hD hS hl
      rw [mX5_isWell_41] at hM
      refine lv_iload hx hb dX5_isWell_41 (lv_at hl 7 rfl) ?_
      refine lv_iload hx hb dX5_isWell_43 (lv_at hl 6 rfl) ?_
      refine lv_icmp_ge (tgt := 110) hx hb dX5_isWell_45 (by decide) (fun hcc => ?_) (fun hcc => ?_)
      · replace hM := it_p hcc hM
        refine lv_iload hx hb dX5_isWell_110 (lv_at hl 4 rfl) ?_
        refine lv_if_eq (tgt := 127) hx hb dX5_isWell_112 (by decide) (fun hcc => ?_) (fun hcc => ?_)
        · replace hM := it_p hcc hM
          refine lv_iconst (v := 1) hx hb dX5_isWell_127 (by decide) ?_
          refine lv_goto (tgt := 132) hx hb dX5_isWell_128 (by decide) ?_
          obtain rfl := Option.some.inj hM
          replace hP := va_P.part (cx := (z4 c cM wI hI Hn r ++ [(qa1, .inl (cI, na1, .inl fa1))])) hP [0, 1, 2, 3, 4] rfl
          replace hD := va_D.part (cx := (z4 c cM wI hI Hn r ++ [(qa1, .inl (cI, na1, .inl fa1))])) hD [0, 1, 2, 3, 4] (by decide) rfl
          refine W.widen (k := 1) (n := 10) (by omega) (by omega) ?_
          subst hQ hAe
          exact W.zret (ty := .boolean) (v := (1 : Int32)) hx hb hr (nb_z (Or.inr rfl)) (fun t ht hW => ⟨⟨(1 : Int32), (), rfl, ⟨rfl, Or.inr rfl⟩, ⟨by rw [ht]; exact hP, hD⟩⟩, hS.F ht⟩) hS.2.2 dX5_isWell_132
        · replace hM := it_n hcc hM
          refine lv_iload hx hb dX5_isWell_115 (lv_at hl 2 rfl) ?_
          refine lv_iload hx hb dX5_isWell_117 (lv_at hl 3 rfl) ?_
          refine lv_iconst (v := 1) hx hb dX5_isWell_119 (by decide) ?_
          refine lv_aload_n hx hb dX5_isWell_120 rfl (lv_at hl 1 rfl) ?_
          obtain ⟨x121, hC, hM⟩ := bd_s hM
          refine cQ_i (wn := fun (u : Unit) => [(qL3, .inl (cB, 10, .inl fL3))]) [5] [0, 1, 2, 3, 4] (va_runS (As := [.int v4, .int v5, .int (1 : Int32), .ref qL3]) (rest := []) ⟨hx, hb, hml, hown, hts⟩ (kX5_isMade (l := l) (D := D) (cI := cI) (cJ := cJ) (cB := cB) (cM := cM) N qL3 11 (fa3 := fL3) (p1 := v4) (p2 := v5) (p3 := (1 : Int32)) hC Hq.size) (va_cwS 4 hts gX5_isWell_X5_isMade rfl rfl rfl (by decide +kernel) ⟨Nat.le_of_ble_eq_true rfl, Nat.le_of_ble_eq_true rfl⟩) (preSZ [.int v4, .int v5, .int (1 : Int32), .ref qL3] hN hK (subQ (cx := [(qL3, .inl (cB, 10, .inl fL3))]) hP [5] rfl) (subQD (cx := [(qL3, .inl (cB, 10, .inl fL3))]) hD [5] (by decide) rfl)) rfl rfl hl.1 rfl (lv_room (Nat.le_of_ble_eq_true rfl)) dX5_isWell_121 ⟨by show _ + 0 ≤ 1; omega, by show _ + 0 ≤ 10; omega⟩) hP hD hS hA rfl (wr := (z4 c cM wI hI Hn r ++ [(qa1, .inl (cI, na1, .inl fa1))])) rfl (by decide) (by decide) (fun r0 u121 Hq locs hw hP hD hS => ?_)
          replace hP : va_P D vwCl ((z4 c cM wI hI Hn r ++ [(qa1, .inl (cI, na1, .inl fa1)), (qL3, .inl (cB, 10, .inl fL3))]) ++ (zpl cI Wn Hn r gS gA gD)) Hq := va_P.part (cx := (z4 c cM wI hI Hn r ++ [(qa1, .inl (cI, na1, .inl fa1)), (qL3, .inl (cB, 10, .inl fL3))])) (pl := (zpl cI Wn Hn r gS gA gD)) hP [0, 1, 2, 3, 4, 5] rfl
          replace hD : va_D A ((z4 c cM wI hI Hn r ++ [(qa1, .inl (cI, na1, .inl fa1)), (qL3, .inl (cB, 10, .inl fL3))]) ++ (zpl cI Wn Hn r gS gA gD)) := va_D.part (cx := (z4 c cM wI hI Hn r ++ [(qa1, .inl (cI, na1, .inl fa1)), (qL3, .inl (cB, 10, .inl fL3))])) (pl := (zpl cI Wn Hn r gS gA gD)) hD [0, 1, 2, 3, 4, 5] (by decide) rfl
          obtain ⟨hw, hz121⟩ := hw
          rw [hw] at hz121
          rw [hw]
          refine lv_if_eq (tgt := 131) hx hb dX5_isWell_124 (by decide) (fun hcc => ?_) (fun hcc => ?_)
          · replace hM := it_p hcc hM
            refine lv_iconst (v := 0) hx hb dX5_isWell_131 (by decide) ?_
            obtain rfl := Option.some.inj hM
            replace hP := va_P.part (cx := (z4 c cM wI hI Hn r ++ [(qa1, .inl (cI, na1, .inl fa1))])) hP [0, 1, 2, 3, 4] rfl
            replace hD := va_D.part (cx := (z4 c cM wI hI Hn r ++ [(qa1, .inl (cI, na1, .inl fa1))])) hD [0, 1, 2, 3, 4] (by decide) rfl
            refine W.widen (k := 1) (n := 10) (by omega) (by omega) ?_
            subst hQ hAe
            exact W.zret (ty := .boolean) (v := (0 : Int32)) hx hb hr (nb_z (Or.inl rfl)) (fun t ht hW => ⟨⟨(0 : Int32), (), rfl, ⟨rfl, Or.inl rfl⟩, ⟨by rw [ht]; exact hP, hD⟩⟩, hS.F ht⟩) hS.2.2 dX5_isWell_132
          · replace hM := it_n hcc hM
            refine lv_iconst (v := 1) hx hb dX5_isWell_127 (by decide) ?_
            refine lv_goto (tgt := 132) hx hb dX5_isWell_128 (by decide) ?_
            obtain rfl := Option.some.inj hM
            replace hP := va_P.part (cx := (z4 c cM wI hI Hn r ++ [(qa1, .inl (cI, na1, .inl fa1))])) hP [0, 1, 2, 3, 4] rfl
            replace hD := va_D.part (cx := (z4 c cM wI hI Hn r ++ [(qa1, .inl (cI, na1, .inl fa1))])) hD [0, 1, 2, 3, 4] (by decide) rfl
            refine W.widen (k := 1) (n := 10) (by omega) (by omega) ?_
            subst hQ hAe
            exact W.zret (ty := .boolean) (v := (1 : Int32)) hx hb hr (nb_z (Or.inr rfl)) (fun t ht hW => ⟨⟨(1 : Int32), (), rfl, ⟨rfl, Or.inr rfl⟩, ⟨by rw [ht]; exact hP, hD⟩⟩, hS.F ht⟩) hS.2.2 dX5_isWell_132
      · replace hM := it_n hcc hM
        refine lv_aload hx hb dX5_isWell_48 (lv_at hl 5 rfl) ?_
        refine lv_iload hx hb dX5_isWell_50 (lv_at hl 7 rfl) ?_
        obtain ⟨hb52, hM⟩ := it_x hM
        refine va_iald (D := D) hx hb hK hP 4 0 rfl rfl hb52 dX5_isWell_52 ?_
        refine lv_istore (lv' := [(10, .int (fa1 v9.toNatClampNeg)), (0, .ref (c 0)), (3, .ref qL3), (4, .int v4), (5, .int v5), (6, .int v6), (7, .ref qa1), (8, .int v8), (9, .int v9)]) hx hb dX5_isWell_53 hl (by decide) rfl (fun ls hl => ?_)
        refine lv_aload_n hx hb dX5_isWell_55 rfl (lv_at hl 1 rfl) ?_
        refine lv_iload hx hb dX5_isWell_56 (lv_at hl 0 rfl) ?_
        obtain ⟨x58, hC, hM⟩ := bd_s hM
        refine cP_i (rx := fun (u : Unit) => (z4 c cM wI hI Hn r)) (pl1 := fun (u : Unit) => (zpl cI Wn Hn r gS gA gD)) [0, 1, 2, 3] [4, 5] (va_runV (As := [.int (fa1 v9.toNatClampNeg)]) (rest := []) ⟨hx, hb, hml, hown, hts⟩ (kX5_at (l := l) (D := D) (cI := cI) (cJ := cJ) (cB := cB) (cM := cM) N c r (wI := wI) (hI := hI) (Wn := Wn) (Hn := Hn) (gS := gS) (gA := gA) (gD := gD) (p1 := (fa1 v9.toNatClampNeg)) hC Hq.size) (cwV 1 hts gX5_isWell_X5_at rfl rfl rfl (by decide +kernel) ⟨Nat.le_of_ble_eq_true rfl, Nat.le_of_ble_eq_true rfl⟩) (preVZ [.int (fa1 v9.toNatClampNeg)] hN hK (va_P.part (cx := (z4 c cM wI hI Hn r)) hP [0, 1, 2, 3] rfl) (va_D.part (cx := (z4 c cM wI hI Hn r)) hD [0, 1, 2, 3] (by decide) rfl) (ci := 5) (q0 := 0) rfl rfl) rfl rfl hl.1 rfl (lv_room (Nat.le_of_ble_eq_true rfl)) dX5_isWell_58 ⟨by show _ + 0 ≤ 1; omega, by show _ + 0 ≤ 10; omega⟩) hP hD hS hA rfl (wr := ([(qa1, .inl (cI, na1, .inl fa1)), (qL3, .inl (cB, 10, .inl fL3))])) rfl (by decide) (by decide) (fun r0 u58 Hq locs hw hP hD hS => ?_)
        replace hP : va_P D vwCl ((z4 c cM wI hI Hn r ++ [(qa1, .inl (cI, na1, .inl fa1)), (qL3, .inl (cB, 10, .inl fL3))]) ++ (zpl cI Wn Hn r gS gA gD)) Hq := va_P.part (cx := (z4 c cM wI hI Hn r ++ [(qa1, .inl (cI, na1, .inl fa1)), (qL3, .inl (cB, 10, .inl fL3))])) (pl := (zpl cI Wn Hn r gS gA gD)) hP [2, 3, 4, 5, 0, 1] rfl
        replace hD : va_D A ((z4 c cM wI hI Hn r ++ [(qa1, .inl (cI, na1, .inl fa1)), (qL3, .inl (cB, 10, .inl fL3))]) ++ (zpl cI Wn Hn r gS gA gD)) := va_D.part (cx := (z4 c cM wI hI Hn r ++ [(qa1, .inl (cI, na1, .inl fa1)), (qL3, .inl (cB, 10, .inl fL3))])) (pl := (zpl cI Wn Hn r gS gA gD)) hD [2, 3, 4, 5, 0, 1] (by decide) rfl
        rw [hw]
        refine lv_istore (lv' := [(11, .int x58), (10, .int (fa1 v9.toNatClampNeg)), (0, .ref (c 0)), (3, .ref qL3), (4, .int v4), (5, .int v5), (6, .int v6), (7, .ref qa1), (8, .int v8), (9, .int v9)]) hx hb dX5_isWell_61 hl (by decide) rfl (fun ls hl => ?_)
        refine lv_iload hx hb dX5_isWell_63 (lv_at hl 0 rfl) ?_
        refine lv_if_le (tgt := 77) hx hb dX5_isWell_65 (by decide) (fun hcc => ?_) (fun hcc => ?_)
        · replace hM := it_p hcc hM
          exact c77 (mX5_isWell_41 N wI Wn Hn gS gA gD na1 fa1 n) 0 0 ih (by omega) (by omega) fL3 v4 v5 v6 v8 v9 x58 hM qL3 kc ks (by omega) (by omega) Hq locs ls hP hD hS (lv_sub hl [2, 3, 4, 5, 6, 7, 8, 9, 0] rfl)
        · replace hM := it_n hcc hM
          refine lv_aload_n hx hb dX5_isWell_68 rfl (lv_at hl 3 rfl) ?_
          refine lv_iload hx hb dX5_isWell_69 (lv_at hl 0 rfl) ?_
          obtain ⟨hb71, hM⟩ := it_x hM
          refine va_zald (D := D) hx hb hK hP 5 2 rfl rfl hb71 dX5_isWell_71 ?_
          refine lv_if_eq (tgt := 77) hx hb dX5_isWell_72 (by decide) (fun hcc => ?_) (fun hcc => ?_)
          · replace hM := it_p hcc hM
            exact c77 (mX5_isWell_41 N wI Wn Hn gS gA gD na1 fa1 n) 0 0 ih (by omega) (by omega) fL3 v4 v5 v6 v8 v9 x58 hM qL3 kc ks (by omega) (by omega) Hq locs ls hP hD hS (lv_sub hl [2, 3, 4, 5, 6, 7, 8, 9, 0] rfl)
          · replace hM := it_n hcc hM
            refine lv_iconst (v := 0) hx hb dX5_isWell_75 (by decide) ?_
            obtain rfl := Option.some.inj hM
            replace hP := va_P.part (cx := (z4 c cM wI hI Hn r ++ [(qa1, .inl (cI, na1, .inl fa1))])) hP [0, 1, 2, 3, 4] rfl
            replace hD := va_D.part (cx := (z4 c cM wI hI Hn r ++ [(qa1, .inl (cI, na1, .inl fa1))])) hD [0, 1, 2, 3, 4] (by decide) rfl
            refine W.widen (k := 1) (n := 10) (by omega) (by omega) ?_
            subst hQ hAe
            exact W.zret (ty := .boolean) (v := (0 : Int32)) hx hb hr (nb_z (Or.inl rfl)) (fun t ht hW => ⟨⟨(0 : Int32), (), rfl, ⟨rfl, Or.inl rfl⟩, ⟨by rw [ht]; exact hP, hD⟩⟩, hS.F ht⟩) hS.2.2 dX5_isWell_76
  have c28 : ∀ (fL3 : RowI) (v4 : Int32) (v5 : Int32) (s0 : Int32), mX5_isWell_28 N wI Wn Hn gS gA gD na1 fa1 fL3 v4 v5 s0 = some o → ∀ (qL3 : Nat), ∀ (kc ks : Nat), kc + (0) ≤ 1 → ks + (0) ≤ 10 → ∀ (Hq : Heap) (locs : List Loc) (ls : Array Slot), va_P D vwCl ((z4 c cM wI hI Hn r ++ [(qa1, .inl (cI, na1, .inl fa1)), (qL3, .inl (cB, 10, .inl fL3))]) ++ (zpl cI Wn Hn r gS gA gD)) Hq → va_D A ((z4 c cM wI hI Hn r ++ [(qa1, .inl (cI, na1, .inl fa1)), (qL3, .inl (cB, 10, .inl fL3))]) ++ (zpl cI Wn Hn r gS gA gD)) → va_S A s.heap Hq locs → lv_has ls 12 [(0, .ref (c 0)), (1, .ref qa1), (3, .ref qL3), (4, .int v4), (5, .int v5)] → W p l e rmX5_isWell s m args below meth c0 Hq locs kc ks Q (F0 m 28 ls [.int s0]) := by
      intro fL3 v4 v5 s0 hM qL3 kc ks hkc hks Hq locs ls hP hD hS hl
      rw [mX5_isWell_28] at hM
      refine lv_istore (lv' := [(6, .int s0), (0, .ref (c 0)), (1, .ref qa1), (3, .ref qL3), (4, .int v4), (5, .int v5)]) hx hb dX5_isWell_28 hl (by decide) rfl (fun ls hl => ?_)
      refine lv_aload_n hx hb dX5_isWell_30 rfl (lv_at hl 2 rfl) ?_
      refine lv_astore (lv' := [(7, .ref qa1), (6, .int s0), (0, .ref (c 0)), (1, .ref qa1), (3, .ref qL3), (4, .int v4), (5, .int v5)]) hx hb dX5_isWell_31 hl (by decide) rfl (fun ls hl => ?_)
      refine lv_aload hx hb dX5_isWell_33 (lv_at hl 0 rfl) ?_
      refine va_alen (D := D) (v := (nI na1)) hx hb hK hP 4 0 rfl rfl rfl dX5_isWell_35 ?_
      refine lv_istore (lv' := [(8, .int (nI na1)), (7, .ref qa1), (6, .int s0), (0, .ref (c 0)), (1, .ref qa1), (3, .ref qL3), (4, .int v4), (5, .int v5)]) hx hb dX5_isWell_36 hl (by decide) rfl (fun ls hl => ?_)
      refine lv_iconst (v := 0) hx hb dX5_isWell_38 (by decide) ?_
      refine lv_istore (lv' := [(9, .int (0 : Int32)), (8, .int (nI na1)), (7, .ref qa1), (6, .int s0), (0, .ref (c 0)), (1, .ref qa1), (3, .ref qL3), (4, .int v4), (5, .int v5)]) hx hb dX5_isWell_39 hl (by decide) rfl (fun ls hl => ?_)
      exact c41 N fL3 v4 v5 s0 (nI na1) (0 : Int32) hM qL3 kc ks (by omega) (by omega) Hq locs ls hP hD hS (lv_sub hl [4, 6, 7, 8, 3, 2, 1, 0] rfl)
  rw [mX5_isWell] at hM
  refine lv_bipush (v := 10) hx hb dX5_isWell_0 (by decide) ?_
  refine newBZ (D := D) (cI := cI) (cJ := cJ) (cB := cB) (cM := cM) hx hb (hts (.arrayClass .boolean) (by decide +kernel)) hK hP hD hS hA 10 (by decide) (by decide) (by decide) (by show _ ≤ 1; omega) (by show _ ≤ 10; omega) dX5_isWell_2 (fun q2 Hq hP hD hS => ?_)
  replace hP := va_P.swap hP
  replace hD := va_D.swap hD
  replace hP : va_P D vwCl ((z4 c cM wI hI Hn r ++ [(qa1, .inl (cI, na1, .inl fa1)), (q2, .inl (cB, 10, .inl (fun _ => 0)))]) ++ (zpl cI Wn Hn r gS gA gD)) Hq := hP
  replace hD : va_D A ((z4 c cM wI hI Hn r ++ [(qa1, .inl (cI, na1, .inl fa1)), (q2, .inl (cB, 10, .inl (fun _ => 0)))]) ++ (zpl cI Wn Hn r gS gA gD)) := hD
  refine W.widen (k := 1) (n := 10) (by omega) (by omega) ?_
  refine lv_astore_n (lv' := [(3, .ref q2), (0, .ref (c 0)), (1, .ref qa1), (2, .int p2)]) hx hb dX5_isWell_4 rfl hl (by decide) rfl (fun ls hl => ?_)
  refine lv_iconst (v := 0) hx hb dX5_isWell_5 (by decide) ?_
  refine lv_istore (lv' := [(4, .int (0 : Int32)), (3, .ref q2), (0, .ref (c 0)), (1, .ref qa1), (2, .int p2)]) hx hb dX5_isWell_6 hl (by decide) rfl (fun ls hl => ?_)
  refine lv_aload_n hx hb dX5_isWell_8 rfl (lv_at hl 2 rfl) ?_
  refine lv_aload_n hx hb dX5_isWell_9 rfl (lv_at hl 3 rfl) ?_
  refine lv_iconst (v := 0) hx hb dX5_isWell_10 (by decide) ?_
  obtain ⟨hb11, hM⟩ := it_x hM
  refine va_iald (D := D) hx hb hK hP 4 0 rfl rfl hb11 dX5_isWell_11 ?_
  refine lv_iload_n hx hb dX5_isWell_12 rfl (lv_at hl 4 rfl) ?_
  obtain ⟨x13, hC, hM⟩ := bd_s hM
  refine cP_i (rx := fun (u : Unit) => (z4 c cM wI hI Hn r)) (pl1 := fun (u : Unit) => (zpl cI Wn Hn r gS gA gD)) [0, 1, 2, 3] [4, 5] (va_runV (As := [.int (fa1 (0 : Int32).toNatClampNeg), .int p2]) (rest := []) ⟨hx, hb, hml, hown, hts⟩ (kX5_sumAt (l := l) (D := D) (cI := cI) (cJ := cJ) (cB := cB) (cM := cM) N c r (wI := wI) (hI := hI) (Wn := Wn) (Hn := Hn) (gS := gS) (gA := gA) (gD := gD) (p1 := (fa1 (0 : Int32).toNatClampNeg)) (p2 := p2) hC Hq.size) (cwV 2 hts gX5_isWell_X5_sumAt rfl rfl rfl (by decide +kernel) ⟨Nat.le_of_ble_eq_true rfl, Nat.le_of_ble_eq_true rfl⟩) (preVZ [.int (fa1 (0 : Int32).toNatClampNeg), .int p2] hN hK (va_P.part (cx := (z4 c cM wI hI Hn r)) hP [0, 1, 2, 3] rfl) (va_D.part (cx := (z4 c cM wI hI Hn r)) hD [0, 1, 2, 3] (by decide) rfl) (ci := 5) (q0 := 0) rfl rfl) rfl rfl hl.1 rfl (lv_room (Nat.le_of_ble_eq_true rfl)) dX5_isWell_13 ⟨by show _ + 0 ≤ 1; omega, by show _ + 0 ≤ 10; omega⟩) hP hD hS hA rfl (wr := ([(qa1, .inl (cI, na1, .inl fa1)), (q2, .inl (cB, 10, .inl (fun _ => 0)))])) rfl (by decide) (by decide) (fun r0 u13 Hq locs hw hP hD hS => ?_)
  replace hP : va_P D vwCl ((z4 c cM wI hI Hn r ++ [(qa1, .inl (cI, na1, .inl fa1)), (q2, .inl (cB, 10, .inl (fun _ => 0)))]) ++ (zpl cI Wn Hn r gS gA gD)) Hq := va_P.part (cx := (z4 c cM wI hI Hn r ++ [(qa1, .inl (cI, na1, .inl fa1)), (q2, .inl (cB, 10, .inl (fun _ => 0)))])) (pl := (zpl cI Wn Hn r gS gA gD)) hP [2, 3, 4, 5, 0, 1] rfl
  replace hD : va_D A ((z4 c cM wI hI Hn r ++ [(qa1, .inl (cI, na1, .inl fa1)), (q2, .inl (cB, 10, .inl (fun _ => 0)))]) ++ (zpl cI Wn Hn r gS gA gD)) := va_D.part (cx := (z4 c cM wI hI Hn r ++ [(qa1, .inl (cI, na1, .inl fa1)), (q2, .inl (cB, 10, .inl (fun _ => 0)))])) (pl := (zpl cI Wn Hn r gS gA gD)) hD [2, 3, 4, 5, 0, 1] (by decide) rfl
  rw [hw]
  refine lv_istore (lv' := [(5, .int x13), (4, .int (0 : Int32)), (3, .ref q2), (0, .ref (c 0)), (1, .ref qa1), (2, .int p2)]) hx hb dX5_isWell_16 hl (by decide) rfl (fun ls hl => ?_)
  refine lv_iload hx hb dX5_isWell_18 (lv_at hl 0 rfl) ?_
  refine lv_if_le (tgt := 27) hx hb dX5_isWell_20 (by decide) (fun hcc => ?_) (fun hcc => ?_)
  · replace hM := it_p hcc hM
    refine lv_iconst (v := 0) hx hb dX5_isWell_27 (by decide) ?_
    exact c28 (fun _ => 0) (0 : Int32) x13 (0 : Int32) hM q2 1 10 (by omega) (by omega) Hq locs ls hP hD hS (lv_sub hl [3, 4, 2, 1, 0] rfl)
  · replace hM := it_n hcc hM
    refine lv_iconst (v := 1) hx hb dX5_isWell_23 (by decide) ?_
    refine lv_goto (tgt := 28) hx hb dX5_isWell_24 (by decide) ?_
    exact c28 (fun _ => 0) (0 : Int32) x13 (1 : Int32) hM q2 1 10 (by omega) (by omega) Hq locs ls hP hD hS (lv_sub hl [3, 4, 2, 1, 0] rfl)
def mX5_isWell_ (N : Nat) (wI : Int32) (hI : Int32) (Wn : Nat) (Hn : Nat) (gS : RowR) (gA : RowR) (gD : RowR) (p1 : Int32) (p2 : Int32) : Option Int32 :=
  ((mX5_corridor N wI hI Wn Hn gS p1 p2 (0 : Int32)).bind fun x5 =>
  ((mX5_isWell N wI Wn Hn gS gA gD x5.1 x5.2 (0 : Int32)).bind fun x9 =>
  (if x9 = 0 then
  some (0 : Int32)
  else
  ((mX5_corridor N wI hI Wn Hn gS p1 p2 (1 : Int32)).bind fun x20 =>
  ((mX5_isWell N wI Wn Hn gS gA gD x20.1 x20.2 (1 : Int32)).bind fun x24 =>
  (if x24 = 0 then
  some (0 : Int32)
  else
  some (1 : Int32)))))))
abbrev rmX5_isWell_ : Room := { frames := 14, cells := 18, slots := 118, locals := 335 }
set_option maxHeartbeats 4000000 in
set_option maxRecDepth 100000 in
theorem kX5_isWell_ {l : Launch} {D : va_G} {cI cJ cB cM : ClassId} (N : Nat) (c : Nat → Nat) (r : Nat → Nat → Nat) {wI : Int32} {hI : Int32} {Wn : Nat} {Hn : Nat} {gS : RowR} {gA : RowR} {gD : RowR} {p1 : Int32} {p2 : Int32} {o : Int32} (hM : mX5_isWell_ N wI hI Wn Hn gS gA gD p1 p2 = some o) (sz : Nat) : Met l yX5_isWell_ wsX5_isWell_ rmX5_isWell_ (va_Pc [.ref (c 0), .int p1, .int p2] (PreZ D cI cJ cB cM ((z4 c cM wI hI Hn r) ++ (zpl cI Wn Hn r gS gA gD)) sz)) (va_Qi (fun (r0 : Int32) (u : Unit) => r0 = o ∧ bz r0) (aft D ((z4 c cM wI hI Hn r) ++ (zpl cI Wn Hn r gS gA gD)) sz (fun (u : Unit) => ((z4 c cM wI hI Hn r) ++ (zpl cI Wn Hn r gS gA gD)))) (va_A ((z4 c cM wI hI Hn r) ++ (zpl cI Wn Hn r gS gA gD)) sz)) 18 118 (va_A ((z4 c cM wI hI Hn r) ++ (zpl cI Wn Hn r gS gA gD)) sz) := by
  refine xofZ (cc := cX5_isWell_) (maxL := 3) (ret := (some .boolean)) rfl (by decide) rfl ?_
  intro p e s m args below meth c0 ls Q A hQ hAe hx hb hr hml hown hts hlocks hnm hN hK Hq locs hP hD hS hA hl
  replace hown : s.vm.findClass RX5 = some m.cls := hown
  replace hl : lv_has ls 3 [(0, .ref (c 0)), (1, .int p1), (2, .int p2)] := hl
  rw [mX5_isWell_] at hM
  refine lv_aload_n hx hb dX5_isWell__0 rfl (lv_at hl 0 rfl) ?_
  refine lv_aload_n hx hb dX5_isWell__1 rfl (lv_at hl 0 rfl) ?_
  refine lv_iload_n hx hb dX5_isWell__2 rfl (lv_at hl 1 rfl) ?_
  refine lv_iload_n hx hb dX5_isWell__3 rfl (lv_at hl 2 rfl) ?_
  refine lv_iconst (v := 0) hx hb dX5_isWell__4 (by decide) ?_
  obtain ⟨x5, hC, hM⟩ := bd_s hM
  refine cP_r (rx := fun (u : Unit) b => (z4 c cM wI hI Hn r ++ [(b, .inl (cI, x5.1, .inl x5.2))])) (pl1 := fun (u : Unit) b => (zpl cI Wn Hn r gS gA gD)) [0, 1, 2, 3] [] (va_runV (As := [.int p1, .int p2, .int (0 : Int32)]) (rest := [.ref (c 0)]) ⟨hx, hb, hml, hown, hts⟩ (kX5_corridor (l := l) (D := D) (cI := cI) (cJ := cJ) (cB := cB) (cM := cM) N c r (wI := wI) (hI := hI) (Wn := Wn) (Hn := Hn) (gS := gS) (gA := gA) (gD := gD) (p1 := p1) (p2 := p2) (p3 := (0 : Int32)) hC Hq.size) (cwV 3 hts gX5_isWell__X5_corridor rfl rfl rfl (by decide +kernel) ⟨Nat.le_of_ble_eq_true rfl, Nat.le_of_ble_eq_true rfl⟩) (preVZ [.int p1, .int p2, .int (0 : Int32)] hN hK (va_P.part (cx := (z4 c cM wI hI Hn r)) hP [0, 1, 2, 3] rfl) (va_D.part (cx := (z4 c cM wI hI Hn r)) hD [0, 1, 2, 3] (by decide) rfl) (ci := 5) (q0 := 0) rfl rfl) rfl rfl hl.1 rfl (lv_room (Nat.le_of_ble_eq_true rfl)) dX5_isWell__5 ⟨by show _ + 8 ≤ 18; omega, by show _ + 49 ≤ 118; omega⟩) hP hD hS hA rfl (wr := ([] : va_W)) rfl (by decide) (by decide) (fun u5 q5 Hq locs hw hP hD hS => ?_)
  replace hP : va_P D vwCl ((z4 c cM wI hI Hn r ++ [(q5, .inl (cI, x5.1, .inl x5.2))]) ++ (zpl cI Wn Hn r gS gA gD)) Hq := va_P.part (cx := (z4 c cM wI hI Hn r ++ [(q5, .inl (cI, x5.1, .inl x5.2))])) (pl := (zpl cI Wn Hn r gS gA gD)) hP [0, 1, 2, 3, 4] rfl
  replace hD : va_D A ((z4 c cM wI hI Hn r ++ [(q5, .inl (cI, x5.1, .inl x5.2))]) ++ (zpl cI Wn Hn r gS gA gD)) := va_D.part (cx := (z4 c cM wI hI Hn r ++ [(q5, .inl (cI, x5.1, .inl x5.2))])) (pl := (zpl cI Wn Hn r gS gA gD)) hD [0, 1, 2, 3, 4] (by decide) rfl
  refine W.widen (k := 8) (n := 49) (by show _ + 8 ≤ _; omega) (by show _ + 49 ≤ _; omega) ?_
  refine lv_iconst (v := 0) hx hb dX5_isWell__8 (by decide) ?_
  obtain ⟨x9, hC, hM⟩ := bd_s hM
  refine cP_i (rx := fun (u : Unit) => (z4 c cM wI hI Hn r ++ [(q5, .inl (cI, x5.1, .inl x5.2))])) (pl1 := fun (u : Unit) => (zpl cI Wn Hn r gS gA gD)) [0, 1, 2, 3, 4] [] (va_runV (As := [.ref q5, .int (0 : Int32)]) (rest := []) ⟨hx, hb, hml, hown, hts⟩ (kX5_isWell (l := l) (D := D) (cI := cI) (cJ := cJ) (cB := cB) (cM := cM) N c r q5 (wI := wI) (hI := hI) (Wn := Wn) (Hn := Hn) (gS := gS) (gA := gA) (gD := gD) (na1 := x5.1) (fa1 := x5.2) (p2 := (0 : Int32)) hC Hq.size) (cwV 2 hts gX5_isWell__X5_isWell rfl rfl rfl (by decide +kernel) ⟨Nat.le_of_ble_eq_true rfl, Nat.le_of_ble_eq_true rfl⟩) (preVZ [.ref q5, .int (0 : Int32)] hN hK (va_P.part (cx := (z4 c cM wI hI Hn r ++ [(q5, .inl (cI, x5.1, .inl x5.2))])) hP [0, 1, 2, 3, 4] rfl) (va_D.part (cx := (z4 c cM wI hI Hn r ++ [(q5, .inl (cI, x5.1, .inl x5.2))])) hD [0, 1, 2, 3, 4] (by decide) rfl) (ci := 5) (q0 := 0) rfl rfl) rfl rfl hl.1 rfl (lv_room (Nat.le_of_ble_eq_true rfl)) dX5_isWell__9 ⟨by show _ + 1 ≤ 18; omega, by show _ + 10 ≤ 118; omega⟩) hP hD hS hA rfl (wr := ([] : va_W)) rfl (by decide) (by decide) (fun r0 u9 Hq locs hw hP hD hS => ?_)
  replace hP : va_P D vwCl ((z4 c cM wI hI Hn r ++ [(q5, .inl (cI, x5.1, .inl x5.2))]) ++ (zpl cI Wn Hn r gS gA gD)) Hq := va_P.part (cx := (z4 c cM wI hI Hn r ++ [(q5, .inl (cI, x5.1, .inl x5.2))])) (pl := (zpl cI Wn Hn r gS gA gD)) hP [0, 1, 2, 3, 4] rfl
  replace hD : va_D A ((z4 c cM wI hI Hn r ++ [(q5, .inl (cI, x5.1, .inl x5.2))]) ++ (zpl cI Wn Hn r gS gA gD)) := va_D.part (cx := (z4 c cM wI hI Hn r ++ [(q5, .inl (cI, x5.1, .inl x5.2))])) (pl := (zpl cI Wn Hn r gS gA gD)) hD [0, 1, 2, 3, 4] (by decide) rfl
  obtain ⟨hw, hz9⟩ := hw
  rw [hw] at hz9
  rw [hw]
  refine W.widen (k := 9) (n := 59) (by show _ + 1 ≤ _; omega) (by show _ + 10 ≤ _; omega) ?_
  refine lv_if_eq (tgt := 34) hx hb dX5_isWell__12 (by decide) (fun hcc => ?_) (fun hcc => ?_)
  · replace hM := it_p hcc hM
    refine lv_iconst (v := 0) hx hb dX5_isWell__34 (by decide) ?_
    obtain rfl := Option.some.inj hM
    replace hP := va_P.part (cx := (z4 c cM wI hI Hn r)) hP [0, 1, 2, 3] rfl
    replace hD := va_D.part (cx := (z4 c cM wI hI Hn r)) hD [0, 1, 2, 3] (by decide) rfl
    refine W.widen (k := 18) (n := 118) (by omega) (by omega) ?_
    subst hQ hAe
    exact W.zret (ty := .boolean) (v := (0 : Int32)) hx hb hr (nb_z (Or.inl rfl)) (fun t ht hW => ⟨⟨(0 : Int32), (), rfl, ⟨rfl, Or.inl rfl⟩, ⟨by rw [ht]; exact hP, hD⟩⟩, hS.F ht⟩) hS.2.2 dX5_isWell__35
  · replace hM := it_n hcc hM
    refine lv_aload_n hx hb dX5_isWell__15 rfl (lv_at hl 0 rfl) ?_
    refine lv_aload_n hx hb dX5_isWell__16 rfl (lv_at hl 0 rfl) ?_
    refine lv_iload_n hx hb dX5_isWell__17 rfl (lv_at hl 1 rfl) ?_
    refine lv_iload_n hx hb dX5_isWell__18 rfl (lv_at hl 2 rfl) ?_
    refine lv_iconst (v := 1) hx hb dX5_isWell__19 (by decide) ?_
    obtain ⟨x20, hC, hM⟩ := bd_s hM
    refine cP_r (rx := fun (u : Unit) b => (z4 c cM wI hI Hn r ++ [(b, .inl (cI, x20.1, .inl x20.2))])) (pl1 := fun (u : Unit) b => (zpl cI Wn Hn r gS gA gD)) [0, 1, 2, 3] [4] (va_runV (As := [.int p1, .int p2, .int (1 : Int32)]) (rest := [.ref (c 0)]) ⟨hx, hb, hml, hown, hts⟩ (kX5_corridor (l := l) (D := D) (cI := cI) (cJ := cJ) (cB := cB) (cM := cM) N c r (wI := wI) (hI := hI) (Wn := Wn) (Hn := Hn) (gS := gS) (gA := gA) (gD := gD) (p1 := p1) (p2 := p2) (p3 := (1 : Int32)) hC Hq.size) (cwV 3 hts gX5_isWell__X5_corridor rfl rfl rfl (by decide +kernel) ⟨Nat.le_of_ble_eq_true rfl, Nat.le_of_ble_eq_true rfl⟩) (preVZ [.int p1, .int p2, .int (1 : Int32)] hN hK (va_P.part (cx := (z4 c cM wI hI Hn r)) hP [0, 1, 2, 3] rfl) (va_D.part (cx := (z4 c cM wI hI Hn r)) hD [0, 1, 2, 3] (by decide) rfl) (ci := 5) (q0 := 0) rfl rfl) rfl rfl hl.1 rfl (lv_room (Nat.le_of_ble_eq_true rfl)) dX5_isWell__20 ⟨by show _ + 8 ≤ 18; omega, by show _ + 49 ≤ 118; omega⟩) hP hD hS hA rfl (wr := ([(q5, .inl (cI, x5.1, .inl x5.2))])) rfl (by decide) (by decide) (fun u20 q20 Hq locs hw hP hD hS => ?_)
    replace hP : va_P D vwCl ((z4 c cM wI hI Hn r ++ [(q5, .inl (cI, x5.1, .inl x5.2)), (q20, .inl (cI, x20.1, .inl x20.2))]) ++ (zpl cI Wn Hn r gS gA gD)) Hq := va_P.part (cx := (z4 c cM wI hI Hn r ++ [(q5, .inl (cI, x5.1, .inl x5.2)), (q20, .inl (cI, x20.1, .inl x20.2))])) (pl := (zpl cI Wn Hn r gS gA gD)) hP [1, 2, 3, 4, 0, 5] rfl
    replace hD : va_D A ((z4 c cM wI hI Hn r ++ [(q5, .inl (cI, x5.1, .inl x5.2)), (q20, .inl (cI, x20.1, .inl x20.2))]) ++ (zpl cI Wn Hn r gS gA gD)) := va_D.part (cx := (z4 c cM wI hI Hn r ++ [(q5, .inl (cI, x5.1, .inl x5.2)), (q20, .inl (cI, x20.1, .inl x20.2))])) (pl := (zpl cI Wn Hn r gS gA gD)) hD [1, 2, 3, 4, 0, 5] (by decide) rfl
    refine W.widen (k := 17) (n := 108) (by show _ + 8 ≤ _; omega) (by show _ + 49 ≤ _; omega) ?_
    refine lv_iconst (v := 1) hx hb dX5_isWell__23 (by decide) ?_
    obtain ⟨x24, hC, hM⟩ := bd_s hM
    refine cP_i (rx := fun (u : Unit) => (z4 c cM wI hI Hn r ++ [(q20, .inl (cI, x20.1, .inl x20.2))])) (pl1 := fun (u : Unit) => (zpl cI Wn Hn r gS gA gD)) [0, 1, 2, 3, 5] [4] (va_runV (As := [.ref q20, .int (1 : Int32)]) (rest := []) ⟨hx, hb, hml, hown, hts⟩ (kX5_isWell (l := l) (D := D) (cI := cI) (cJ := cJ) (cB := cB) (cM := cM) N c r q20 (wI := wI) (hI := hI) (Wn := Wn) (Hn := Hn) (gS := gS) (gA := gA) (gD := gD) (na1 := x20.1) (fa1 := x20.2) (p2 := (1 : Int32)) hC Hq.size) (cwV 2 hts gX5_isWell__X5_isWell rfl rfl rfl (by decide +kernel) ⟨Nat.le_of_ble_eq_true rfl, Nat.le_of_ble_eq_true rfl⟩) (preVZ [.ref q20, .int (1 : Int32)] hN hK (va_P.part (cx := (z4 c cM wI hI Hn r ++ [(q20, .inl (cI, x20.1, .inl x20.2))])) hP [0, 1, 2, 3, 5] rfl) (va_D.part (cx := (z4 c cM wI hI Hn r ++ [(q20, .inl (cI, x20.1, .inl x20.2))])) hD [0, 1, 2, 3, 5] (by decide) rfl) (ci := 5) (q0 := 0) rfl rfl) rfl rfl hl.1 rfl (lv_room (Nat.le_of_ble_eq_true rfl)) dX5_isWell__24 ⟨by show _ + 1 ≤ 18; omega, by show _ + 10 ≤ 118; omega⟩) hP hD hS hA rfl (wr := ([(q5, .inl (cI, x5.1, .inl x5.2))])) rfl (by decide) (by decide) (fun r0 u24 Hq locs hw hP hD hS => ?_)
    replace hP : va_P D vwCl ((z4 c cM wI hI Hn r ++ [(q5, .inl (cI, x5.1, .inl x5.2)), (q20, .inl (cI, x20.1, .inl x20.2))]) ++ (zpl cI Wn Hn r gS gA gD)) Hq := va_P.part (cx := (z4 c cM wI hI Hn r ++ [(q5, .inl (cI, x5.1, .inl x5.2)), (q20, .inl (cI, x20.1, .inl x20.2))])) (pl := (zpl cI Wn Hn r gS gA gD)) hP [1, 2, 3, 4, 0, 5] rfl
    replace hD : va_D A ((z4 c cM wI hI Hn r ++ [(q5, .inl (cI, x5.1, .inl x5.2)), (q20, .inl (cI, x20.1, .inl x20.2))]) ++ (zpl cI Wn Hn r gS gA gD)) := va_D.part (cx := (z4 c cM wI hI Hn r ++ [(q5, .inl (cI, x5.1, .inl x5.2)), (q20, .inl (cI, x20.1, .inl x20.2))])) (pl := (zpl cI Wn Hn r gS gA gD)) hD [1, 2, 3, 4, 0, 5] (by decide) rfl
    obtain ⟨hw, hz24⟩ := hw
    rw [hw] at hz24
    rw [hw]
    refine W.widen (k := 18) (n := 118) (by show _ + 1 ≤ _; omega) (by show _ + 10 ≤ _; omega) ?_
    refine lv_if_eq (tgt := 34) hx hb dX5_isWell__27 (by decide) (fun hcc => ?_) (fun hcc => ?_)
    · replace hM := it_p hcc hM
      refine lv_iconst (v := 0) hx hb dX5_isWell__34 (by decide) ?_
      obtain rfl := Option.some.inj hM
      replace hP := va_P.part (cx := (z4 c cM wI hI Hn r)) hP [0, 1, 2, 3] rfl
      replace hD := va_D.part (cx := (z4 c cM wI hI Hn r)) hD [0, 1, 2, 3] (by decide) rfl
      refine W.widen (k := 18) (n := 118) (by omega) (by omega) ?_
      subst hQ hAe
      exact W.zret (ty := .boolean) (v := (0 : Int32)) hx hb hr (nb_z (Or.inl rfl)) (fun t ht hW => ⟨⟨(0 : Int32), (), rfl, ⟨rfl, Or.inl rfl⟩, ⟨by rw [ht]; exact hP, hD⟩⟩, hS.F ht⟩) hS.2.2 dX5_isWell__35
    · replace hM := it_n hcc hM
      refine lv_iconst (v := 1) hx hb dX5_isWell__30 (by decide) ?_
      refine lv_goto (tgt := 35) hx hb dX5_isWell__31 (by decide) ?_
      obtain rfl := Option.some.inj hM
      replace hP := va_P.part (cx := (z4 c cM wI hI Hn r)) hP [0, 1, 2, 3] rfl
      replace hD := va_D.part (cx := (z4 c cM wI hI Hn r)) hD [0, 1, 2, 3] (by decide) rfl
      refine W.widen (k := 18) (n := 118) (by omega) (by omega) ?_
      subst hQ hAe
      exact W.zret (ty := .boolean) (v := (1 : Int32)) hx hb hr (nb_z (Or.inr rfl)) (fun t ht hW => ⟨⟨(1 : Int32), (), rfl, ⟨rfl, Or.inr rfl⟩, ⟨by rw [ht]; exact hP, hD⟩⟩, hS.F ht⟩) hS.2.2 dX5_isWell__35
def mX5_can_19 (N : Nat) (wI : Int32) (hI : Int32) (Wn : Nat) (Hn : Nat) (gA : RowR) (gD : RowR) (p1 : Int32) (p2 : Int32) : Nat → Int32 → Int32 → RowR → Option (Int32 × RowR)
  | 0 => fun _ _ _ => none
  | n + 1 => fun v3 v4 gS' => (if v4 ≤ 0 then
  (if bad p2 Hn then none else
  (if bad p1 Wn then none else
  some (v3, (updR gS' p2.toNatClampNeg (upd (gS' p2.toNatClampNeg) p1.toNatClampNeg (0 : Int32))))))
  else
  (if bad p2 Hn then none else
  (if bad p1 Wn then none else
  ((mX5_isWell_ N wI hI Wn Hn (updR gS' p2.toNatClampNeg (upd (gS' p2.toNatClampNeg) p1.toNatClampNeg v4)) gA gD p1 p2).bind fun x37 =>
  (if x37 = 0 then
  (mX5_can_19 N wI hI Wn Hn gA gD p1 p2 n v3 (v4 + (-1)) (updR gS' p2.toNatClampNeg (upd (gS' p2.toNatClampNeg) p1.toNatClampNeg v4)))
  else
  (mX5_can_19 N wI hI Wn Hn gA gD p1 p2 n (v3 + ((1 : Int32) <<< (v4 &&& 31))) (v4 + (-1)) (updR gS' p2.toNatClampNeg (upd (gS' p2.toNatClampNeg) p1.toNatClampNeg v4))))))))
def mX5_can (N : Nat) (wI : Int32) (hI : Int32) (Wn : Nat) (Hn : Nat) (gS : RowR) (gA : RowR) (gD : RowR) (p1 : Int32) (p2 : Int32) : Option (Int32 × RowR) :=
  (if bad p2 Hn then none else
  (if bad p1 Wn then none else
  (if (gS p2.toNatClampNeg p1.toNatClampNeg) = 0 then
  (mX5_can_19 N wI hI Wn Hn gA gD p1 p2 10 (0 : Int32) (9 : Int32) gS)
  else
  some ((0 : Int32), gS))))
abbrev rmX5_can : Room := { frames := 15, cells := 180, slots := 1180, locals := 357 }
set_option maxHeartbeats 4000000 in
set_option maxRecDepth 100000 in
theorem kX5_can {l : Launch} {D : va_G} {cI cJ cB cM : ClassId} (N : Nat) (c : Nat → Nat) (r : Nat → Nat → Nat) {wI : Int32} {hI : Int32} {Wn : Nat} {Hn : Nat} {gS : RowR} {gA : RowR} {gD : RowR} {p1 : Int32} {p2 : Int32} {o : (Int32 × RowR)} (hM : mX5_can N wI hI Wn Hn gS gA gD p1 p2 = some o) (sz : Nat) : Met l yX5_can wsX5_can rmX5_can (va_Pc [.ref (c 0), .int p1, .int p2] (PreZ D cI cJ cB cM ((z4 c cM wI hI Hn r) ++ (zpl cI Wn Hn r gS gA gD)) sz)) (va_Qi (fun (r0 : Int32) (u : Unit) => r0 = o.1) (aft D ((z4 c cM wI hI Hn r) ++ (zpl cI Wn Hn r gS gA gD)) sz (fun (u : Unit) => ((z4 c cM wI hI Hn r) ++ (zpl cI Wn Hn r o.2 gA gD)))) (va_A ((z4 c cM wI hI Hn r) ++ (zpl cI Wn Hn r gS gA gD)) sz)) 180 1180 (va_A ((z4 c cM wI hI Hn r) ++ (zpl cI Wn Hn r gS gA gD)) sz) := by
  refine xofZ (cc := cX5_can) (maxL := 5) (ret := (some .int)) rfl (by decide) rfl ?_
  intro p e s m args below meth c0 ls Q A hQ hAe hx hb hr hml hown hts hlocks hnm hN hK Hq locs hP hD hS hA hl
  replace hown : s.vm.findClass RX5 = some m.cls := hown
  replace hl : lv_has ls 5 [(0, .ref (c 0)), (1, .int p1), (2, .int p2)] := hl
  have iX5 : ∀ w ∈ wsX50, w ∈ wsX5_can := by decide +kernel
  have f18 := hts (.fieldLink RX5 18 "CryptSumsLaw$Sim" "stones" "[[I") (by decide +kernel)
  have c19 : ∀ (n : Nat), ∀ (v3 : Int32) (v4 : Int32) (gS' : RowR), mX5_can_19 N wI hI Wn Hn gA gD p1 p2 n v3 v4 gS' = some o → ∀ (kc ks : Nat), kc + (n * 18) ≤ 180 → ks + (n * 118) ≤ 1180 → ∀ (Hq : Heap) (locs : List Loc) (ls : Array Slot), va_P D vwCl ((z4 c cM wI hI Hn r) ++ (zpl cI Wn Hn r gS' gA gD)) Hq → va_D A ((z4 c cM wI hI Hn r) ++ (zpl cI Wn Hn r gS' gA gD)) → va_S A s.heap Hq locs → lv_has ls 5 [(0, .ref (c 0)), (1, .int p1), (2, .int p2), (3, .int v3), (4, .int v4)] → W p l e rmX5_can s m args below meth c0 Hq locs kc ks Q (F0 m 19 ls []) := by
    intro n
    induction n with
    | zero =>
      intro v3 v4 gS' hM
      rw [mX5_can_19] at hM
      cases hM
    | succ n ih =>
      intro v3 v4 gS' hM kc ks hkc hks Hq locs ls hP hD hS hl
      rw [mX5_can_19] at hM
      refine lv_iload hx hb dX5_can_19 (lv_at hl 4 rfl) ?_
      refine lv_if_le (tgt := 56) hx hb dX5_can_21 (by decide) (fun hcc => ?_) (fun hcc => ?_)
      · replace hM := it_p hcc hM
        refine lv_aload_n hx hb dX5_can_56 rfl (lv_at hl 0 rfl) ?_
        refine va_get (D := D) (ci := 5) (v := .ref (c 1)) (C := RX5) (T := TX5) (N := 8) hx hb hts iX5 hown hK hP 0 rfl rfl 2 (by decide) f18 (fun _ h9 => h9) rfl dX5_can_57 ?_
        refine lv_iload_n hx hb dX5_can_60 rfl (lv_at hl 2 rfl) ?_
        obtain ⟨hb61, hM⟩ := it_x hM
        refine z_aald (D := D) hx hb hK hP 1 rfl hb61 dX5_can_61 ?_
        refine lv_iload_n hx hb dX5_can_62 rfl (lv_at hl 1 rfl) ?_
        refine lv_iconst (v := 0) hx hb dX5_can_63 (by decide) ?_
        obtain ⟨hb64, hM⟩ := it_x hM
        refine va_iast (D := D) hx hb hK hP hD hS _ 0 (row0 (z4 c cM wI hI Hn r) (lt_in hb61)) rfl hb64 dX5_can_64 (fun Hq locs hP hD hS => ?_)
        rw [set0 (z4 c cM wI hI Hn r) (lt_in hb61)] at hP hD
        refine lv_iload_n hx hb dX5_can_65 rfl (lv_at hl 3 rfl) ?_
        obtain rfl := Option.some.inj hM
        refine W.widen (k := 180) (n := 1180) (by omega) (by omega) ?_
        subst hQ hAe
        exact W.iret (v := v3) hx hb hr (fun t ht hW => ⟨⟨v3, (), rfl, rfl, ⟨by rw [ht]; exact hP, hD⟩⟩, hS.F ht⟩) hS.2.2 dX5_can_66
      · replace hM := it_n hcc hM
        refine lv_aload_n hx hb dX5_can_24 rfl (lv_at hl 0 rfl) ?_
        refine va_get (D := D) (ci := 5) (v := .ref (c 1)) (C := RX5) (T := TX5) (N := 8) hx hb hts iX5 hown hK hP 0 rfl rfl 2 (by decide) f18 (fun _ h9 => h9) rfl dX5_can_25 ?_
        refine lv_iload_n hx hb dX5_can_28 rfl (lv_at hl 2 rfl) ?_
        obtain ⟨hb29, hM⟩ := it_x hM
        refine z_aald (D := D) hx hb hK hP 1 rfl hb29 dX5_can_29 ?_
        refine lv_iload_n hx hb dX5_can_30 rfl (lv_at hl 1 rfl) ?_
        refine lv_iload hx hb dX5_can_31 (lv_at hl 4 rfl) ?_
        obtain ⟨hb33, hM⟩ := it_x hM
        refine va_iast (D := D) hx hb hK hP hD hS _ 0 (row0 (z4 c cM wI hI Hn r) (lt_in hb29)) rfl hb33 dX5_can_33 (fun Hq locs hP hD hS => ?_)
        rw [set0 (z4 c cM wI hI Hn r) (lt_in hb29)] at hP hD
        refine lv_aload_n hx hb dX5_can_34 rfl (lv_at hl 0 rfl) ?_
        refine lv_iload_n hx hb dX5_can_35 rfl (lv_at hl 1 rfl) ?_
        refine lv_iload_n hx hb dX5_can_36 rfl (lv_at hl 2 rfl) ?_
        obtain ⟨x37, hC, hM⟩ := bd_s hM
        refine cP_i (rx := fun (u : Unit) => (z4 c cM wI hI Hn r)) (pl1 := fun (u : Unit) => (zpl cI Wn Hn r (updR gS' p2.toNatClampNeg (upd (gS' p2.toNatClampNeg) p1.toNatClampNeg v4)) gA gD)) [0, 1, 2, 3] [] (va_runV (As := [.int p1, .int p2]) (rest := []) ⟨hx, hb, hml, hown, hts⟩ (kX5_isWell_ (l := l) (D := D) (cI := cI) (cJ := cJ) (cB := cB) (cM := cM) N c r (wI := wI) (hI := hI) (Wn := Wn) (Hn := Hn) (gS := (updR gS' p2.toNatClampNeg (upd (gS' p2.toNatClampNeg) p1.toNatClampNeg v4))) (gA := gA) (gD := gD) (p1 := p1) (p2 := p2) hC Hq.size) (cwV 2 hts gX5_can_X5_isWell_ rfl rfl rfl (by decide +kernel) ⟨Nat.le_of_ble_eq_true rfl, Nat.le_of_ble_eq_true rfl⟩) (preVZ [.int p1, .int p2] hN hK (va_P.part (cx := (z4 c cM wI hI Hn r)) hP [0, 1, 2, 3] rfl) (va_D.part (cx := (z4 c cM wI hI Hn r)) hD [0, 1, 2, 3] (by decide) rfl) (ci := 5) (q0 := 0) rfl rfl) rfl rfl hl.1 rfl (lv_room (Nat.le_of_ble_eq_true rfl)) dX5_can_37 ⟨by show _ + 18 ≤ 180; omega, by show _ + 118 ≤ 1180; omega⟩) hP hD hS hA rfl (wr := ([] : va_W)) rfl (by decide) (by decide) (fun r0 u37 Hq locs hw hP hD hS => ?_)
        replace hP : va_P D vwCl ((z4 c cM wI hI Hn r) ++ (zpl cI Wn Hn r (updR gS' p2.toNatClampNeg (upd (gS' p2.toNatClampNeg) p1.toNatClampNeg v4)) gA gD)) Hq := va_P.part (cx := (z4 c cM wI hI Hn r)) (pl := (zpl cI Wn Hn r (updR gS' p2.toNatClampNeg (upd (gS' p2.toNatClampNeg) p1.toNatClampNeg v4)) gA gD)) hP [0, 1, 2, 3] rfl
        replace hD : va_D A ((z4 c cM wI hI Hn r) ++ (zpl cI Wn Hn r (updR gS' p2.toNatClampNeg (upd (gS' p2.toNatClampNeg) p1.toNatClampNeg v4)) gA gD)) := va_D.part (cx := (z4 c cM wI hI Hn r)) (pl := (zpl cI Wn Hn r (updR gS' p2.toNatClampNeg (upd (gS' p2.toNatClampNeg) p1.toNatClampNeg v4)) gA gD)) hD [0, 1, 2, 3] (by decide) rfl
        obtain ⟨hw, hz37⟩ := hw
        rw [hw] at hz37
        rw [hw]
        refine W.widen (k := kc + 18) (n := ks + 118) (by show _ + 18 ≤ _; omega) (by show _ + 118 ≤ _; omega) ?_
        refine lv_if_eq (tgt := 50) hx hb dX5_can_40 (by decide) (fun hcc => ?_) (fun hcc => ?_)
        · replace hM := it_p hcc hM
          refine lv_iinc (v := (v4 + (-1))) (lv' := [(4, .int (v4 + (-1))), (0, .ref (c 0)), (1, .int p1), (2, .int p2), (3, .int v3)]) hx hb dX5_can_50 hl (k := 4) rfl (by rfl) (by decide) rfl (fun ls hl => ?_)
          refine lv_goto (tgt := 19) hx hb dX5_can_53 (by decide) ?_
          exact ih v3 (v4 + (-1)) (updR gS' p2.toNatClampNeg (upd (gS' p2.toNatClampNeg) p1.toNatClampNeg v4)) hM (kc + 18) (ks + 118) (by omega) (by omega) Hq locs ls hP hD hS (lv_sub hl [1, 2, 3, 4, 0] rfl)
        · replace hM := it_n hcc hM
          refine lv_iload_n hx hb dX5_can_43 rfl (lv_at hl 3 rfl) ?_
          refine lv_iconst (v := 1) hx hb dX5_can_44 (by decide) ?_
          refine lv_iload hx hb dX5_can_45 (lv_at hl 4 rfl) ?_
          refine lv_ishl hx hb dX5_can_47 ?_
          refine lv_iadd hx hb dX5_can_48 ?_
          refine lv_istore_n (lv' := [(3, .int (v3 + ((1 : Int32) <<< (v4 &&& 31)))), (0, .ref (c 0)), (1, .int p1), (2, .int p2), (4, .int v4)]) hx hb dX5_can_49 rfl hl (by decide) rfl (fun ls hl => ?_)
          refine lv_iinc (v := (v4 + (-1))) (lv' := [(4, .int (v4 + (-1))), (3, .int (v3 + ((1 : Int32) <<< (v4 &&& 31)))), (0, .ref (c 0)), (1, .int p1), (2, .int p2)]) hx hb dX5_can_50 hl (k := 4) rfl (by rfl) (by decide) rfl (fun ls hl => ?_)
          refine lv_goto (tgt := 19) hx hb dX5_can_53 (by decide) ?_
          exact ih (v3 + ((1 : Int32) <<< (v4 &&& 31))) (v4 + (-1)) (updR gS' p2.toNatClampNeg (upd (gS' p2.toNatClampNeg) p1.toNatClampNeg v4)) hM (kc + 18) (ks + 118) (by omega) (by omega) Hq locs ls hP hD hS (lv_sub hl [2, 3, 4, 1, 0] rfl)
  rw [mX5_can] at hM
  refine lv_iconst (v := 0) hx hb dX5_can_0 (by decide) ?_
  refine lv_istore_n (lv' := [(3, .int (0 : Int32)), (0, .ref (c 0)), (1, .int p1), (2, .int p2)]) hx hb dX5_can_1 rfl hl (by decide) rfl (fun ls hl => ?_)
  refine lv_aload_n hx hb dX5_can_2 rfl (lv_at hl 1 rfl) ?_
  refine va_get (D := D) (ci := 5) (v := .ref (c 1)) (C := RX5) (T := TX5) (N := 8) hx hb hts iX5 hown hK hP 0 rfl rfl 2 (by decide) f18 (fun _ h9 => h9) rfl dX5_can_3 ?_
  refine lv_iload_n hx hb dX5_can_6 rfl (lv_at hl 3 rfl) ?_
  obtain ⟨hb7, hM⟩ := it_x hM
  refine z_aald (D := D) hx hb hK hP 1 rfl hb7 dX5_can_7 ?_
  refine lv_iload_n hx hb dX5_can_8 rfl (lv_at hl 2 rfl) ?_
  obtain ⟨hb9, hM⟩ := it_x hM
  refine va_iald (D := D) hx hb hK hP _ 0 (row0 (z4 c cM wI hI Hn r) (lt_in hb7)) rfl hb9 dX5_can_9 ?_
  refine lv_if_eq (tgt := 15) hx hb dX5_can_10 (by decide) (fun hcc => ?_) (fun hcc => ?_)
  · replace hM := it_p hcc hM
    refine lv_bipush (v := 9) hx hb dX5_can_15 (by decide) ?_
    refine lv_istore (lv' := [(4, .int (9 : Int32)), (3, .int (0 : Int32)), (0, .ref (c 0)), (1, .int p1), (2, .int p2)]) hx hb dX5_can_17 hl (by decide) rfl (fun ls hl => ?_)
    exact c19 10 (0 : Int32) (9 : Int32) gS hM 0 0 (by omega) (by omega) Hq locs ls hP hD hS (lv_sub hl [2, 3, 4, 1, 0] rfl)
  · replace hM := it_n hcc hM
    refine lv_iconst (v := 0) hx hb dX5_can_13 (by decide) ?_
    obtain rfl := Option.some.inj hM
    refine W.widen (k := 180) (n := 1180) (by omega) (by omega) ?_
    subst hQ hAe
    exact W.iret (v := (0 : Int32)) hx hb hr (fun t ht hW => ⟨⟨(0 : Int32), (), rfl, rfl, ⟨by rw [ht]; exact hP, hD⟩⟩, hS.F ht⟩) hS.2.2 dX5_can_14
def mX5_force_45 (N : Nat) (R : Int32 → Int32 → Nat → Nat → RowR → RowR → RowR → Option (Int32 × RowR)) (wI : Int32) (hI : Int32) (Wn : Nat) (Hn : Nat) (gA : RowR) (gD : RowR) : Nat → Int32 → Int32 → Int32 → RowR → Option (Int32 × RowR)
  | 0 => fun _ _ _ _ => none
  | n + 1 => fun v1 v2 v3 gS' => (if (10 : Int32) ≤ v3 then
  ((R wI hI Wn Hn gS' gA gD).bind fun x85 =>
  some (((1 : Int32) + x85.1), x85.2))
  else
  (if v2 = ((1 : Int32) <<< (v3 &&& 31)) then
  (if wI = 0 then none else
  (if bad (v1 / wI) Hn then none else
  (if wI = 0 then none else
  (if bad (v1 - v1 / wI * wI) Wn then none else
  (mX5_force_45 N R wI hI Wn Hn gA gD n v1 v2 (v3 + 1) (updR gS' ((v1 / wI).toNatClampNeg) (upd (gS' ((v1 / wI).toNatClampNeg)) (v1 - v1 / wI * wI).toNatClampNeg v3)))))))
  else
  (mX5_force_45 N R wI hI Wn Hn gA gD n v1 v2 (v3 + 1) gS')))
def mX5_force_2 (N : Nat) (R : Int32 → Int32 → Nat → Nat → RowR → RowR → RowR → Option (Int32 × RowR)) (wI : Int32) (hI : Int32) (Wn : Nat) (Hn : Nat) (gA : RowR) (gD : RowR) : Nat → Int32 → RowR → Option (Int32 × RowR)
  | 0 => fun _ _ => none
  | n + 1 => fun v1 gS' => (if (wI * hI) ≤ v1 then
  some ((0 : Int32), gS')
  else
  (if wI = 0 then none else
  (if wI = 0 then none else
  ((mX5_can N wI hI Wn Hn gS' gA gD (v1 - v1 / wI * wI) (v1 / wI)).bind fun x28 =>
  ((mX5_many N x28.1).bind fun x33 =>
  (if x33 = (1 : Int32) then
  (mX5_force_45 N R wI hI Wn Hn gA gD N v1 x28.1 (1 : Int32) x28.2)
  else
  (mX5_force_2 N R wI hI Wn Hn gA gD n (v1 + 1) x28.2)))))))
def mX5_force (N : Nat) : Nat → Int32 → Int32 → Nat → Nat → RowR → RowR → RowR → Option (Int32 × RowR)
  | 0 => fun _ _ _ _ _ _ _ => none
  | d + 1 => fun wI hI Wn Hn gS gA gD => (mX5_force_2 N (mX5_force N d) wI hI Wn Hn gA gD 37 (0 : Int32) gS)
abbrev rmX5_force (d : Nat) : Room := { frames := 16 + d, cells := d * 6840, slots := d * 44840, locals := 381 + d * 23 }
set_option maxHeartbeats 4000000 in
set_option maxRecDepth 100000 in
theorem kX5_force {l : Launch} {D : va_G} {cI cJ cB cM : ClassId} (N : Nat) (c : Nat → Nat) (r : Nat → Nat → Nat) : ∀ (d : Nat) {wI : Int32} {hI : Int32} {Wn : Nat} {Hn : Nat} {gS : RowR} {gA : RowR} {gD : RowR} {o : (Int32 × RowR)} (hM : mX5_force N d wI hI Wn Hn gS gA gD = some o) (sz : Nat), Met l yX5_force wsX5_force (rmX5_force d) (va_Pc [.ref (c 0)] (PreZ D cI cJ cB cM ((z4 c cM wI hI Hn r) ++ (zpl cI Wn Hn r gS gA gD)) sz)) (va_Qi (fun (r0 : Int32) (u : Unit) => r0 = o.1) (aft D ((z4 c cM wI hI Hn r) ++ (zpl cI Wn Hn r gS gA gD)) sz (fun (u : Unit) => ((z4 c cM wI hI Hn r) ++ (zpl cI Wn Hn r o.2 gA gD)))) (va_A ((z4 c cM wI hI Hn r) ++ (zpl cI Wn Hn r gS gA gD)) sz)) (d * 6840) (d * 44840) (va_A ((z4 c cM wI hI Hn r) ++ (zpl cI Wn Hn r gS gA gD)) sz) := by
  intro d
  induction d with
  | zero =>
    intro wI hI Wn Hn gS gA gD o hM sz
    rw [mX5_force] at hM
    cases hM
  | succ d ihd =>
    intro wI hI Wn Hn gS gA gD o hM sz
    refine xofZ (cc := cX5_force) (maxL := 4) (ret := (some .int)) rfl (by decide) rfl ?_
    intro p e s m args below meth c0 ls Q A hQ hAe hx hb hr hml hown hts hlocks hnm hN hK Hq locs hP hD hS hA hl
    replace hown : s.vm.findClass RX5 = some m.cls := hown
    replace hl : lv_has ls 4 [(0, .ref (c 0))] := hl
    have iX5 : ∀ w ∈ wsX50, w ∈ wsX5_force := by decide +kernel
    have f13 := hts (.fieldLink RX5 13 "CryptSumsLaw$Sim" "h" "I") (by decide +kernel)
    have f18 := hts (.fieldLink RX5 18 "CryptSumsLaw$Sim" "stones" "[[I") (by decide +kernel)
    have f7 := hts (.fieldLink RX5 7 "CryptSumsLaw$Sim" "w" "I") (by decide +kernel)
    have c45 : ∀ (n : Nat), ∀ (v1 : Int32) (v2 : Int32) (v3 : Int32) (gS' : RowR), mX5_force_45 N (mX5_force N d) wI hI Wn Hn gA gD n v1 v2 v3 gS' = some o → ∀ (kc ks : Nat), kc + (d * 6840) ≤ (d + 1) * 6840 → ks + (d * 44840) ≤ (d + 1) * 44840 → ∀ (Hq : Heap) (locs : List Loc) (ls : Array Slot), va_P D vwCl ((z4 c cM wI hI Hn r) ++ (zpl cI Wn Hn r gS' gA gD)) Hq → va_D A ((z4 c cM wI hI Hn r) ++ (zpl cI Wn Hn r gS' gA gD)) → va_S A s.heap Hq locs → lv_has ls 4 [(0, .ref (c 0)), (1, .int v1), (2, .int v2), (3, .int v3)] → W p l e (rmX5_force (d + 1)) s m args below meth c0 Hq locs kc ks Q (F0 m 45 ls []) := by
      intro n
      induction n with
      | zero =>
        intro v1 v2 v3 gS' hM
        rw [mX5_force_45] at hM
        cases hM
      | succ n ih =>
        intro v1 v2 v3 gS' hM kc ks hkc hks Hq locs ls hP hD hS hl
        rw [mX5_force_45] at hM
        refine lv_iload_n hx hb dX5_force_45 rfl (lv_at hl 3 rfl) ?_
        refine lv_bipush (v := 10) hx hb dX5_force_46 (by decide) ?_
        refine lv_icmp_ge (tgt := 83) hx hb dX5_force_48 (by decide) (fun hcc => ?_) (fun hcc => ?_)
        · replace hM := it_p hcc hM
          refine lv_iconst (v := 1) hx hb dX5_force_83 (by decide) ?_
          refine lv_aload_n hx hb dX5_force_84 rfl (lv_at hl 0 rfl) ?_
          obtain ⟨x85, hC, hM⟩ := bd_s hM
          refine cP_i (rx := fun (u : Unit) => (z4 c cM wI hI Hn r)) (pl1 := fun (u : Unit) => (zpl cI Wn Hn r x85.2 gA gD)) [0, 1, 2, 3] [] (va_runV (As := []) (rest := [.int (1 : Int32)]) ⟨hx, hb, hml, hown, hts⟩ (ihd (wI := wI) (hI := hI) (Wn := Wn) (Hn := Hn) (gS := gS') (gA := gA) (gD := gD) hC Hq.size) (cwV 0 hts gX5_force_X5_force rfl rfl rfl (by decide +kernel) ⟨by dsimp only [rmX5_force, rmX5_force]; omega, by dsimp only [rmX5_force, rmX5_force]; omega⟩) (preVZ [] hN hK (va_P.part (cx := (z4 c cM wI hI Hn r)) hP [0, 1, 2, 3] rfl) (va_D.part (cx := (z4 c cM wI hI Hn r)) hD [0, 1, 2, 3] (by decide) rfl) (ci := 5) (q0 := 0) rfl rfl) rfl rfl hl.1 rfl (lv_room (Nat.le_of_ble_eq_true rfl)) dX5_force_85 ⟨by show _ ≤ (d + 1) * 6840; omega, by show _ ≤ (d + 1) * 44840; omega⟩) hP hD hS hA rfl (wr := ([] : va_W)) rfl (by decide) (by decide) (fun r0 u85 Hq locs hw hP hD hS => ?_)
          replace hP : va_P D vwCl ((z4 c cM wI hI Hn r) ++ (zpl cI Wn Hn r x85.2 gA gD)) Hq := va_P.part (cx := (z4 c cM wI hI Hn r)) (pl := (zpl cI Wn Hn r x85.2 gA gD)) hP [0, 1, 2, 3] rfl
          replace hD : va_D A ((z4 c cM wI hI Hn r) ++ (zpl cI Wn Hn r x85.2 gA gD)) := va_D.part (cx := (z4 c cM wI hI Hn r)) (pl := (zpl cI Wn Hn r x85.2 gA gD)) hD [0, 1, 2, 3] (by decide) rfl
          rw [hw]
          refine lv_iadd hx hb dX5_force_88 ?_
          obtain rfl := Option.some.inj hM
          refine W.widen (k := (d + 1) * 6840) (n := (d + 1) * 44840) (by omega) (by omega) ?_
          subst hQ hAe
          exact W.iret (v := ((1 : Int32) + x85.1)) hx hb hr (fun t ht hW => ⟨⟨((1 : Int32) + x85.1), (), rfl, rfl, ⟨by rw [ht]; exact hP, hD⟩⟩, hS.F ht⟩) hS.2.2 dX5_force_89
        · replace hM := it_n hcc hM
          refine lv_iload_n hx hb dX5_force_51 rfl (lv_at hl 2 rfl) ?_
          refine lv_iconst (v := 1) hx hb dX5_force_52 (by decide) ?_
          refine lv_iload_n hx hb dX5_force_53 rfl (lv_at hl 3 rfl) ?_
          refine lv_ishl hx hb dX5_force_54 ?_
          refine lv_icmp_ne (tgt := 77) hx hb dX5_force_55 (by decide) (fun hcc => ?_) (fun hcc => ?_)
          · replace hM := it_n hcc hM
            refine lv_iinc (v := (v3 + 1)) (lv' := [(3, .int (v3 + 1)), (0, .ref (c 0)), (1, .int v1), (2, .int v2)]) hx hb dX5_force_77 hl (k := 3) rfl (by rfl) (by decide) rfl (fun ls hl => ?_)
            refine lv_goto (tgt := 45) hx hb dX5_force_80 (by decide) ?_
            exact ih v1 v2 (v3 + 1) gS' hM kc ks (by omega) (by omega) Hq locs ls hP hD hS (lv_sub hl [1, 2, 3, 0] rfl)
          · replace hM := it_p hcc hM
            refine lv_aload_n hx hb dX5_force_58 rfl (lv_at hl 0 rfl) ?_
            refine va_get (D := D) (ci := 5) (v := .ref (c 1)) (C := RX5) (T := TX5) (N := 8) hx hb hts iX5 hown hK hP 0 rfl rfl 2 (by decide) f18 (fun _ h9 => h9) rfl dX5_force_59 ?_
            refine lv_iload_n hx hb dX5_force_62 rfl (lv_at hl 1 rfl) ?_
            refine lv_aload_n hx hb dX5_force_63 rfl (lv_at hl 0 rfl) ?_
            refine va_get (D := D) (ci := 5) (v := .int wI) (C := RX5) (T := TX5) (N := 8) hx hb hts iX5 hown hK hP 0 rfl rfl 0 (by decide) f7 (fun _ h9 => h9) rfl dX5_force_64 ?_
            obtain ⟨hz67, hM⟩ := it_x hM
            refine lv_idiv hx hb dX5_force_67 hz67 ?_
            obtain ⟨hb68, hM⟩ := it_x hM
            refine z_aald (D := D) hx hb hK hP 1 rfl hb68 dX5_force_68 ?_
            refine lv_iload_n hx hb dX5_force_69 rfl (lv_at hl 1 rfl) ?_
            refine lv_aload_n hx hb dX5_force_70 rfl (lv_at hl 0 rfl) ?_
            refine va_get (D := D) (ci := 5) (v := .int wI) (C := RX5) (T := TX5) (N := 8) hx hb hts iX5 hown hK hP 0 rfl rfl 0 (by decide) f7 (fun _ h9 => h9) rfl dX5_force_71 ?_
            obtain ⟨hz74, hM⟩ := it_x hM
            refine lv_irem hx hb dX5_force_74 hz74 ?_
            refine lv_iload_n hx hb dX5_force_75 rfl (lv_at hl 3 rfl) ?_
            obtain ⟨hb76, hM⟩ := it_x hM
            refine va_iast (D := D) hx hb hK hP hD hS _ 0 (row0 (z4 c cM wI hI Hn r) (lt_in hb68)) rfl hb76 dX5_force_76 (fun Hq locs hP hD hS => ?_)
            rw [set0 (z4 c cM wI hI Hn r) (lt_in hb68)] at hP hD
            refine lv_iinc (v := (v3 + 1)) (lv' := [(3, .int (v3 + 1)), (0, .ref (c 0)), (1, .int v1), (2, .int v2)]) hx hb dX5_force_77 hl (k := 3) rfl (by rfl) (by decide) rfl (fun ls hl => ?_)
            refine lv_goto (tgt := 45) hx hb dX5_force_80 (by decide) ?_
            exact ih v1 v2 (v3 + 1) (updR gS' ((v1 / wI).toNatClampNeg) (upd (gS' ((v1 / wI).toNatClampNeg)) (v1 - v1 / wI * wI).toNatClampNeg v3)) hM kc ks (by omega) (by omega) Hq locs ls hP hD hS (lv_sub hl [1, 2, 3, 0] rfl)
    have c2 : ∀ (n : Nat), ∀ (v1 : Int32) (gS' : RowR), mX5_force_2 N (mX5_force N d) wI hI Wn Hn gA gD n v1 gS' = some o → ∀ (kc ks : Nat), kc + (n * 180 + 180 + d * 6840) ≤ (d + 1) * 6840 → ks + (n * 1180 + 1180 + d * 44840) ≤ (d + 1) * 44840 → ∀ (Hq : Heap) (locs : List Loc) (ls : Array Slot), va_P D vwCl ((z4 c cM wI hI Hn r) ++ (zpl cI Wn Hn r gS' gA gD)) Hq → va_D A ((z4 c cM wI hI Hn r) ++ (zpl cI Wn Hn r gS' gA gD)) → va_S A s.heap Hq locs → lv_has ls 4 [(0, .ref (c 0)), (1, .int v1)] → W p l e (rmX5_force (d + 1)) s m args below meth c0 Hq locs kc ks Q (F0 m 2 ls []) := by
      intro n
      induction n with
      | zero =>
        intro v1 gS' hM
        rw [mX5_force_2] at hM
        cases hM
      | succ n ih =>
        intro v1 gS' hM kc ks hkc hks Hq locs ls hP hD hS hl
        rw [mX5_force_2] at hM
        refine lv_iload_n hx hb dX5_force_2 rfl (lv_at hl 1 rfl) ?_
        refine lv_aload_n hx hb dX5_force_3 rfl (lv_at hl 0 rfl) ?_
        refine va_get (D := D) (ci := 5) (v := .int wI) (C := RX5) (T := TX5) (N := 8) hx hb hts iX5 hown hK hP 0 rfl rfl 0 (by decide) f7 (fun _ h9 => h9) rfl dX5_force_4 ?_
        refine lv_aload_n hx hb dX5_force_7 rfl (lv_at hl 0 rfl) ?_
        refine va_get (D := D) (ci := 5) (v := .int hI) (C := RX5) (T := TX5) (N := 8) hx hb hts iX5 hown hK hP 0 rfl rfl 1 (by decide) f13 (fun _ h9 => h9) rfl dX5_force_8 ?_
        refine lv_imul hx hb dX5_force_11 ?_
        refine lv_icmp_ge (tgt := 96) hx hb dX5_force_12 (by decide) (fun hcc => ?_) (fun hcc => ?_)
        · replace hM := it_p hcc hM
          refine lv_iconst (v := 0) hx hb dX5_force_96 (by decide) ?_
          obtain rfl := Option.some.inj hM
          refine W.widen (k := (d + 1) * 6840) (n := (d + 1) * 44840) (by omega) (by omega) ?_
          subst hQ hAe
          exact W.iret (v := (0 : Int32)) hx hb hr (fun t ht hW => ⟨⟨(0 : Int32), (), rfl, rfl, ⟨by rw [ht]; exact hP, hD⟩⟩, hS.F ht⟩) hS.2.2 dX5_force_97
        · replace hM := it_n hcc hM
          refine lv_aload_n hx hb dX5_force_15 rfl (lv_at hl 0 rfl) ?_
          refine lv_iload_n hx hb dX5_force_16 rfl (lv_at hl 1 rfl) ?_
          refine lv_aload_n hx hb dX5_force_17 rfl (lv_at hl 0 rfl) ?_
          refine va_get (D := D) (ci := 5) (v := .int wI) (C := RX5) (T := TX5) (N := 8) hx hb hts iX5 hown hK hP 0 rfl rfl 0 (by decide) f7 (fun _ h9 => h9) rfl dX5_force_18 ?_
          obtain ⟨hz21, hM⟩ := it_x hM
          refine lv_irem hx hb dX5_force_21 hz21 ?_
          refine lv_iload_n hx hb dX5_force_22 rfl (lv_at hl 1 rfl) ?_
          refine lv_aload_n hx hb dX5_force_23 rfl (lv_at hl 0 rfl) ?_
          refine va_get (D := D) (ci := 5) (v := .int wI) (C := RX5) (T := TX5) (N := 8) hx hb hts iX5 hown hK hP 0 rfl rfl 0 (by decide) f7 (fun _ h9 => h9) rfl dX5_force_24 ?_
          obtain ⟨hz27, hM⟩ := it_x hM
          refine lv_idiv hx hb dX5_force_27 hz27 ?_
          obtain ⟨x28, hC, hM⟩ := bd_s hM
          refine cP_i (rx := fun (u : Unit) => (z4 c cM wI hI Hn r)) (pl1 := fun (u : Unit) => (zpl cI Wn Hn r x28.2 gA gD)) [0, 1, 2, 3] [] (va_runV (As := [.int (v1 - v1 / wI * wI), .int (v1 / wI)]) (rest := []) ⟨hx, hb, hml, hown, hts⟩ (kX5_can (l := l) (D := D) (cI := cI) (cJ := cJ) (cB := cB) (cM := cM) N c r (wI := wI) (hI := hI) (Wn := Wn) (Hn := Hn) (gS := gS') (gA := gA) (gD := gD) (p1 := (v1 - v1 / wI * wI)) (p2 := (v1 / wI)) hC Hq.size) (cwV 2 hts gX5_force_X5_can rfl rfl rfl (by decide +kernel) ⟨by dsimp only [rmX5_force, rmX5_can]; omega, by dsimp only [rmX5_force, rmX5_can]; omega⟩) (preVZ [.int (v1 - v1 / wI * wI), .int (v1 / wI)] hN hK (va_P.part (cx := (z4 c cM wI hI Hn r)) hP [0, 1, 2, 3] rfl) (va_D.part (cx := (z4 c cM wI hI Hn r)) hD [0, 1, 2, 3] (by decide) rfl) (ci := 5) (q0 := 0) rfl rfl) rfl rfl hl.1 rfl (lv_room (Nat.le_of_ble_eq_true rfl)) dX5_force_28 ⟨by show _ + 180 ≤ (d + 1) * 6840; omega, by show _ + 1180 ≤ (d + 1) * 44840; omega⟩) hP hD hS hA rfl (wr := ([] : va_W)) rfl (by decide) (by decide) (fun r0 u28 Hq locs hw hP hD hS => ?_)
          replace hP : va_P D vwCl ((z4 c cM wI hI Hn r) ++ (zpl cI Wn Hn r x28.2 gA gD)) Hq := va_P.part (cx := (z4 c cM wI hI Hn r)) (pl := (zpl cI Wn Hn r x28.2 gA gD)) hP [0, 1, 2, 3] rfl
          replace hD : va_D A ((z4 c cM wI hI Hn r) ++ (zpl cI Wn Hn r x28.2 gA gD)) := va_D.part (cx := (z4 c cM wI hI Hn r)) (pl := (zpl cI Wn Hn r x28.2 gA gD)) hD [0, 1, 2, 3] (by decide) rfl
          rw [hw]
          refine W.widen (k := kc + 180) (n := ks + 1180) (by show _ + 180 ≤ _; omega) (by show _ + 1180 ≤ _; omega) ?_
          refine lv_istore_n (lv' := [(2, .int x28.1), (0, .ref (c 0)), (1, .int v1)]) hx hb dX5_force_31 rfl hl (by decide) rfl (fun ls hl => ?_)
          refine lv_iload_n hx hb dX5_force_32 rfl (lv_at hl 0 rfl) ?_
          obtain ⟨x33, hC, hM⟩ := bd_s hM
          refine cR_i (va_runS (As := [.int x28.1]) (rest := []) ⟨hx, hb, hml, hown, hts⟩ (kX5_many (l := l) (D := D) (cI := cI) (cJ := cJ) N (p1 := x28.1) hC Hq.size) (va_cwS 1 hts gX5_force_X5_many rfl rfl rfl (by decide +kernel) ⟨by dsimp only [rmX5_force, rmX5_many]; omega, by dsimp only [rmX5_force, rmX5_many]; omega⟩) (preS [.int x28.1] hN.1 (KX hK) (hP.sub (ws' := zw) [] rfl) (hD.sub (ws' := zw) [] (by decide) rfl)) rfl rfl hl.1 rfl (lv_room (Nat.le_of_ble_eq_true rfl)) dX5_force_33 ⟨by show _ + 0 ≤ (d + 1) * 6840; omega, by show _ + 0 ≤ (d + 1) * 44840; omega⟩) hP hS (fun r0 u Hq locs hw hP hS => ?_)
          rw [hw]
          refine lv_iconst (v := 1) hx hb dX5_force_36 (by decide) ?_
          refine lv_icmp_eq (tgt := 43) hx hb dX5_force_37 (by decide) (fun hcc => ?_) (fun hcc => ?_)
          · replace hM := it_p hcc hM
            refine lv_iconst (v := 1) hx hb dX5_force_43 (by decide) ?_
            refine lv_istore_n (lv' := [(3, .int (1 : Int32)), (2, .int x28.1), (0, .ref (c 0)), (1, .int v1)]) hx hb dX5_force_44 rfl hl (by decide) rfl (fun ls hl => ?_)
            exact c45 N v1 x28.1 (1 : Int32) x28.2 hM (kc + 180) (ks + 1180) (by omega) (by omega) Hq locs ls hP hD hS (lv_sub hl [2, 3, 1, 0] rfl)
          · replace hM := it_n hcc hM
            refine lv_goto (tgt := 90) hx hb dX5_force_40 (by decide) ?_
            refine lv_iinc (v := (v1 + 1)) (lv' := [(1, .int (v1 + 1)), (2, .int x28.1), (0, .ref (c 0))]) hx hb dX5_force_90 hl (k := 2) rfl (by rfl) (by decide) rfl (fun ls hl => ?_)
            refine lv_goto (tgt := 2) hx hb dX5_force_93 (by decide) ?_
            exact ih (v1 + 1) x28.2 hM (kc + 180) (ks + 1180) (by omega) (by omega) Hq locs ls hP hD hS (lv_sub hl [2, 0] rfl)
    rw [mX5_force] at hM
    refine lv_iconst (v := 0) hx hb dX5_force_0 (by decide) ?_
    refine lv_istore_n (lv' := [(1, .int (0 : Int32)), (0, .ref (c 0))]) hx hb dX5_force_1 rfl hl (by decide) rfl (fun ls hl => ?_)
    exact c2 37 (0 : Int32) gS hM 0 0 (by omega) (by omega) Hq locs ls hP hD hS (lv_sub hl [1, 0] rfl)
