/-! the leaves that all others call: read, write (rows of 36), Integer.bitCount; Floor.corridors, which answers a cell -/
theorem in36 {i : Int32} (h0 : ¬ i < 0) (h1 : ¬ (36 : Int32) ≤ i) : vp_in i 36 := by
  rintro (h | h)
  · exact h0 h
  · apply h1
    have h2 : 0 ≤ i := Int32.not_lt.mp h0
    have h3 : (0 : Int32).toInt ≤ i.toInt := Int32.le_iff_toInt_le.mp h2
    have h3 : (0 : Int) ≤ i.toInt := h3
    have h4 : i.toNatClampNeg = i.toInt.toNat := rfl
    apply Int32.le_iff_toInt_le.mpr
    show (36 : Int) ≤ i.toInt
    omega
abbrev rmX4_read : Room := { frames := 0, cells := 0, slots := 0, locals := 0 }
set_option maxHeartbeats 4000000 in
set_option maxRecDepth 100000 in
theorem kX4_read {l : Launch} {D : va_G} {cI cJ : ClassId} (h0 : Nat) (f : RowI) (i : Int32) (sz : Nat) : Met l yX4_read wsX4_read rmX4_read (va_Pc [.ref h0, .int i] (Pre D cI cJ [(h0, .inl (cI, 36, .inl f))] sz)) (va_Qi (fun (r : Int32) (_ : Unit) => r = rd f i) (fun _ _ => True) (fun _ => False)) 0 0 (fun _ => False) := by
  refine xofR (cc := cX4_read) (maxL := 2) (ret := some .int) rfl (by decide) rfl ?_
  intro p e s m args below meth c ls Q A hQ hAe hx hb hr hml hown hts hlocks hN hK H locs hP hD hS hl
  replace hl : lv_has ls 2 [(0, .ref h0), (1, .int i)] := hl
  subst hQ hAe
  refine lv_iload_n hx hb dX4_read_0 rfl (lv_at hl 1 rfl) ?_
  refine lv_if_lt (tgt := 16) hx hb dX4_read_1 (by decide) (fun hc => ?_) (fun hc => ?_)
  · refine lv_iconst (v := 0) hx hb dX4_read_16 (by decide) ?_
    exact W.iret (v := 0) hx hb hr (fun t ht hW => ⟨⟨0, (), rfl, by rw [rd, if_pos hc], trivial⟩, hS.F ht⟩) hS.2.2 dX4_read_17
  · refine lv_iload_n hx hb dX4_read_4 rfl (lv_at hl 1 rfl) ?_
    refine lv_aload_n hx hb dX4_read_5 rfl (lv_at hl 0 rfl) ?_
    refine va_alen (D := D) (v := 36) hx hb hK hP 0 0 rfl rfl rfl dX4_read_6 ?_
    refine lv_icmp_ge (tgt := 16) hx hb dX4_read_7 (by decide) (fun hd => ?_) (fun hd => ?_)
    · refine lv_iconst (v := 0) hx hb dX4_read_16 (by decide) ?_
      exact W.iret (v := 0) hx hb hr (fun t ht hW => ⟨⟨0, (), rfl, by rw [rd, if_neg hc, if_pos hd], trivial⟩, hS.F ht⟩) hS.2.2 dX4_read_17
    · refine lv_aload_n hx hb dX4_read_10 rfl (lv_at hl 0 rfl) ?_
      refine lv_iload_n hx hb dX4_read_11 rfl (lv_at hl 1 rfl) ?_
      refine va_iald (D := D) hx hb hK hP 0 0 rfl rfl (in36 hc hd) dX4_read_12 ?_
      refine lv_goto (tgt := 17) hx hb dX4_read_13 (by decide) ?_
      exact W.iret (v := f i.toNatClampNeg) hx hb hr (fun t ht hW => ⟨⟨f i.toNatClampNeg, (), rfl, by rw [rd, if_neg hc, if_neg hd], trivial⟩, hS.F ht⟩) hS.2.2 dX4_read_17
abbrev rmX4_write : Room := { frames := 0, cells := 0, slots := 0, locals := 0 }
set_option maxHeartbeats 4000000 in
set_option maxRecDepth 100000 in
theorem kX4_write {l : Launch} {D : va_G} {cI cJ : ClassId} (h0 : Nat) (f : RowI) (i v : Int32) (sz : Nat) : Met l yX4_write wsX4_write rmX4_write (va_Pc [.ref h0, .int i, .int v] (Pre D cI cJ [(h0, .inl (cI, 36, .inl f))] sz)) (va_Qv (fun (_ : Unit) => True) (aft D [(h0, .inl (cI, 36, .inl f))] sz (fun _ => [(h0, .inl (cI, 36, .inl (wr f i v)))])) (va_A [(h0, .inl (cI, 36, .inl f))] sz)) 0 0 (va_A [(h0, .inl (cI, 36, .inl f))] sz) := by
  refine xofW (cc := cX4_write) (maxL := 3) (ret := none) rfl (by decide) rfl ?_
  intro p e s m args below meth c ls Q A hQ hAe hx hb hr hml hown hts hlocks hnm hN hK H locs hP hD hS hA hl
  replace hl : lv_has ls 3 [(0, .ref h0), (1, .int i), (2, .int v)] := hl
  refine lv_iload_n hx hb dX4_write_0 rfl (lv_at hl 1 rfl) ?_
  refine lv_if_lt (tgt := 14) hx hb dX4_write_1 (by decide) (fun hc => ?_) (fun hc => ?_)
  · subst hQ hAe
    have hw : wr f i v = f := by rw [wr, if_pos hc]
    exact W.vret hx hb hr (fun t ht hW => ⟨⟨(), rfl, trivial, ⟨by rw [ht, hw]; exact hP, by rw [hw]; exact hD⟩⟩, hS.F ht⟩) hS.2.2 dX4_write_14
  · refine lv_iload_n hx hb dX4_write_4 rfl (lv_at hl 1 rfl) ?_
    refine lv_aload_n hx hb dX4_write_5 rfl (lv_at hl 0 rfl) ?_
    refine va_alen (D := D) (v := 36) hx hb hK hP 0 0 rfl rfl rfl dX4_write_6 ?_
    refine lv_icmp_ge (tgt := 14) hx hb dX4_write_7 (by decide) (fun hd => ?_) (fun hd => ?_)
    · subst hQ hAe
      have hw : wr f i v = f := by rw [wr, if_neg hc, if_pos hd]
      exact W.vret hx hb hr (fun t ht hW => ⟨⟨(), rfl, trivial, ⟨by rw [ht, hw]; exact hP, by rw [hw]; exact hD⟩⟩, hS.F ht⟩) hS.2.2 dX4_write_14
    · have hw : wr f i v = upd f i.toNatClampNeg v := by rw [wr, if_neg hc, if_neg hd]
      refine lv_aload_n hx hb dX4_write_10 rfl (lv_at hl 0 rfl) ?_
      refine lv_iload_n hx hb dX4_write_11 rfl (lv_at hl 1 rfl) ?_
      refine lv_iload_n hx hb dX4_write_12 rfl (lv_at hl 2 rfl) ?_
      refine va_iast (D := D) hx hb hK hP hD hS 0 0 rfl rfl (in36 hc hd) dX4_write_13 (fun H locs hP hD hS => ?_)
      replace hP : va_P D vwCl [(h0, .inl (cI, 36, .inl (upd f i.toNatClampNeg v)))] H := hP
      replace hD : va_D A [(h0, .inl (cI, 36, .inl (upd f i.toNatClampNeg v)))] := hD
      subst hQ hAe
      exact W.vret hx hb hr (fun t ht hW => ⟨⟨(), rfl, trivial, ⟨by rw [ht, hw]; exact hP, by rw [hw]; exact hD⟩⟩, hS.F ht⟩) hS.2.2 dX4_write_14
abbrev rmJ6_bitCount : Room := { frames := 0, cells := 0, slots := 0, locals := 0 }
set_option maxHeartbeats 4000000 in
set_option maxRecDepth 100000 in
theorem kJ6_bitCount {l : Launch} {D : va_G} {cI cJ : ClassId} (x : Int32) (sz : Nat) : Met l yJ6_bitCount_0f7a4 wsJ6_bitCount_0f7a4 rmJ6_bitCount (va_Pc [.int x] (Pre D cI cJ zw sz)) (va_Qi (fun (r : Int32) (_ : Unit) => r = bc x) (fun _ _ => True) (fun _ => False)) 0 0 (fun _ => False) := by
  refine xofR (cc := cJ6_bitCount_0f7a4) (maxL := 1) (ret := some .int) rfl (by decide) rfl ?_
  intro p e s m args below meth c ls Q A hQ hAe hx hb hr hml hown hts hlocks hN hK H locs hP hD hS hl
  replace hown : s.vm.findClass RJ6 = some m.cls := hown
  replace hl : lv_has ls 1 [(0, .int x)] := hl
  subst hQ hAe
  have w5 := hts (.constant RJ6 265 (1431655765)) (by decide +kernel)
  have w6 := hts (.constant RJ6 266 (858993459)) (by decide +kernel)
  have w7 := hts (.constant RJ6 267 (252645135)) (by decide +kernel)
  refine lv_iload_n hx hb dJ6_bitCount_0f7a4_0 rfl (lv_at hl 0 rfl) ?_
  refine lv_iload_n hx hb dJ6_bitCount_0f7a4_1 rfl (lv_at hl 0 rfl) ?_
  refine lv_iconst (v := 1) hx hb dJ6_bitCount_0f7a4_2 (by decide) ?_
  refine lv_iushr (v := ushr x 1) hx hb dJ6_bitCount_0f7a4_3 rfl ?_
  refine lv_ldcw (v := 1431655765) hx hb hown w5 dJ6_bitCount_0f7a4_4 ?_
  refine lv_iand hx hb dJ6_bitCount_0f7a4_7 ?_
  refine lv_isub hx hb dJ6_bitCount_0f7a4_8 ?_
  refine lv_istore_n (lv' := [(0, .int (bc1 x))]) hx hb dJ6_bitCount_0f7a4_9 rfl hl (by decide) rfl (fun ls hl => ?_)
  generalize hy1 : bc1 x = y1 at hl
  refine lv_iload_n hx hb dJ6_bitCount_0f7a4_10 rfl (lv_at hl 0 rfl) ?_
  refine lv_ldcw (v := 858993459) hx hb hown w6 dJ6_bitCount_0f7a4_11 ?_
  refine lv_iand hx hb dJ6_bitCount_0f7a4_14 ?_
  refine lv_iload_n hx hb dJ6_bitCount_0f7a4_15 rfl (lv_at hl 0 rfl) ?_
  refine lv_iconst (v := 2) hx hb dJ6_bitCount_0f7a4_16 (by decide) ?_
  refine lv_iushr (v := ushr y1 2) hx hb dJ6_bitCount_0f7a4_17 rfl ?_
  refine lv_ldcw (v := 858993459) hx hb hown w6 dJ6_bitCount_0f7a4_18 ?_
  refine lv_iand hx hb dJ6_bitCount_0f7a4_21 ?_
  refine lv_iadd hx hb dJ6_bitCount_0f7a4_22 ?_
  refine lv_istore_n (lv' := [(0, .int (bc2 y1))]) hx hb dJ6_bitCount_0f7a4_23 rfl hl (by decide) rfl (fun ls hl => ?_)
  generalize hy2 : bc2 y1 = y2 at hl
  refine lv_iload_n hx hb dJ6_bitCount_0f7a4_24 rfl (lv_at hl 0 rfl) ?_
  refine lv_iload_n hx hb dJ6_bitCount_0f7a4_25 rfl (lv_at hl 0 rfl) ?_
  refine lv_iconst (v := 4) hx hb dJ6_bitCount_0f7a4_26 (by decide) ?_
  refine lv_iushr (v := ushr y2 4) hx hb dJ6_bitCount_0f7a4_27 rfl ?_
  refine lv_iadd hx hb dJ6_bitCount_0f7a4_28 ?_
  refine lv_ldcw (v := 252645135) hx hb hown w7 dJ6_bitCount_0f7a4_29 ?_
  refine lv_iand hx hb dJ6_bitCount_0f7a4_32 ?_
  refine lv_istore_n (lv' := [(0, .int (bc3 y2))]) hx hb dJ6_bitCount_0f7a4_33 rfl hl (by decide) rfl (fun ls hl => ?_)
  generalize hy3 : bc3 y2 = y3 at hl
  refine lv_iload_n hx hb dJ6_bitCount_0f7a4_34 rfl (lv_at hl 0 rfl) ?_
  refine lv_iload_n hx hb dJ6_bitCount_0f7a4_35 rfl (lv_at hl 0 rfl) ?_
  refine lv_bipush (v := 8) hx hb dJ6_bitCount_0f7a4_36 (by decide) ?_
  refine lv_iushr (v := ushr y3 8) hx hb dJ6_bitCount_0f7a4_38 rfl ?_
  refine lv_iadd hx hb dJ6_bitCount_0f7a4_39 ?_
  refine lv_istore_n (lv' := [(0, .int (bc4 y3))]) hx hb dJ6_bitCount_0f7a4_40 rfl hl (by decide) rfl (fun ls hl => ?_)
  generalize hy4 : bc4 y3 = y4 at hl
  refine lv_iload_n hx hb dJ6_bitCount_0f7a4_41 rfl (lv_at hl 0 rfl) ?_
  refine lv_iload_n hx hb dJ6_bitCount_0f7a4_42 rfl (lv_at hl 0 rfl) ?_
  refine lv_bipush (v := 16) hx hb dJ6_bitCount_0f7a4_43 (by decide) ?_
  refine lv_iushr (v := ushr y4 16) hx hb dJ6_bitCount_0f7a4_45 rfl ?_
  refine lv_iadd hx hb dJ6_bitCount_0f7a4_46 ?_
  refine lv_istore_n (lv' := [(0, .int (bc5 y4))]) hx hb dJ6_bitCount_0f7a4_47 rfl hl (by decide) rfl (fun ls hl => ?_)
  generalize hy5 : bc5 y4 = y5 at hl
  refine lv_iload_n hx hb dJ6_bitCount_0f7a4_48 rfl (lv_at hl 0 rfl) ?_
  refine lv_bipush (v := 63) hx hb dJ6_bitCount_0f7a4_49 (by decide) ?_
  refine lv_iand hx hb dJ6_bitCount_0f7a4_51 ?_
  exact W.iret (v := y5 &&& 63) hx hb hr (fun t ht hW => ⟨⟨y5 &&& 63, (), rfl, by rw [bc, hy1, hy2, hy3, hy4, hy5], trivial⟩, hS.F ht⟩) hS.2.2 dJ6_bitCount_0f7a4_52
