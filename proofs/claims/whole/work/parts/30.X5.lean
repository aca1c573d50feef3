def mJ6_numberOfTrailingZeros_62 (N : Nat) (v0 : Int32) (v1 : Int32) : Option Int32 :=
  (if v0 ≤ (4 : Int32) then
  some (v1 + (ushr v0 (1 : Int32)))
  else
  some ((v1 + 2) + (ushr (ushr v0 (2 : Int32)) (1 : Int32))))
def mJ6_numberOfTrailingZeros_49 (N : Nat) (v0 : Int32) (v1 : Int32) : Option Int32 :=
  (if v0 ≤ (16 : Int32) then
  (mJ6_numberOfTrailingZeros_62 N v0 v1)
  else
  (mJ6_numberOfTrailingZeros_62 N (ushr v0 (4 : Int32)) (v1 + 4)))
def mJ6_numberOfTrailingZeros_34 (N : Nat) (v0 : Int32) (v1 : Int32) : Option Int32 :=
  (if v0 ≤ (256 : Int32) then
  (mJ6_numberOfTrailingZeros_49 N v0 v1)
  else
  (mJ6_numberOfTrailingZeros_49 N (ushr v0 (8 : Int32)) (v1 + 8)))
def mJ6_numberOfTrailingZeros (N : Nat) (p1 : Int32) : Option Int32 :=
  (if 0 < ((p1 ^^^ (-1 : Int32)) &&& (p1 - (1 : Int32))) then
  (if ((p1 ^^^ (-1 : Int32)) &&& (p1 - (1 : Int32))) ≤ (65536 : Int32) then
  (mJ6_numberOfTrailingZeros_34 N ((p1 ^^^ (-1 : Int32)) &&& (p1 - (1 : Int32))) (1 : Int32))
  else
  (mJ6_numberOfTrailingZeros_34 N (ushr ((p1 ^^^ (-1 : Int32)) &&& (p1 - (1 : Int32))) (16 : Int32)) ((1 : Int32) + 16)))
  else
  some (((p1 ^^^ (-1 : Int32)) &&& (p1 - (1 : Int32))) &&& (32 : Int32)))
abbrev rmJ6_numberOfTrailingZeros : Room := { frames := 0, cells := 0, slots := 0, locals := 0 }
set_option maxHeartbeats 4000000 in
set_option maxRecDepth 100000 in
theorem kJ6_numberOfTrailingZeros {l : Launch} {D : va_G} {cI cJ : ClassId} (N : Nat) {p1 : Int32} {o : Int32} (hM : mJ6_numberOfTrailingZeros N p1 = some o) (sz : Nat) : Met l yJ6_numberOfTrailingZeros_0f7a4 wsJ6_numberOfTrailingZeros_0f7a4 rmJ6_numberOfTrailingZeros (va_Pc [.int p1] (Pre D cI cJ (zw) sz)) (va_Qi (fun (r : Int32) (_ : Unit) => r = o) (fun _ _ => True) (fun _ => False)) 0 0 (fun _ => False) := by
  refine xofR (cc := cJ6_numberOfTrailingZeros_0f7a4) (maxL := 2) (ret := (some .int)) rfl (by decide) rfl ?_
  intro p e s m args below meth c ls Q A hQ hAe hx hb hr hml hown hts hlocks hN hK H locs hP hD hS hl
  replace hown : s.vm.findClass RJ6 = some m.cls := hown
  replace hl : lv_has ls 2 [(0, .int p1)] := hl
  have c62 : ∀ (v0 : Int32) (v1 : Int32), mJ6_numberOfTrailingZeros_62 N v0 v1 = some o → ∀ (H : Heap) (locs : List Loc) (ls : Array Slot), va_P D vwCl (zw) H → va_S A s.heap H locs → lv_has ls 2 [(0, .int v0), (1, .int v1)] → W p l e rmJ6_numberOfTrailingZeros s m args below meth c H locs 0 0 Q (F0 m 62 ls []) := by
      intro  v0 v1 hM H locs ls hP hS hl
      rw [mJ6_numberOfTrailingZeros_62] at hM
      refine lv_iload_n hx hb dJ6_numberOfTrailingZeros_0f7a4_62 rfl (lv_at hl 0 rfl) ?_
      refine lv_iconst (v := 4) hx hb dJ6_numberOfTrailingZeros_0f7a4_63 (by decide) ?_
      refine lv_icmp_le (tgt := 74) hx hb dJ6_numberOfTrailingZeros_0f7a4_64 (by decide) (fun hcc => ?_) (fun hcc => ?_)
      · replace hM := it_p hcc hM
        refine lv_iload_n hx hb dJ6_numberOfTrailingZeros_0f7a4_74 rfl (lv_at hl 1 rfl) ?_
        refine lv_iload_n hx hb dJ6_numberOfTrailingZeros_0f7a4_75 rfl (lv_at hl 0 rfl) ?_
        refine lv_iconst (v := 1) hx hb dJ6_numberOfTrailingZeros_0f7a4_76 (by decide) ?_
        refine lv_iushr (v := (ushr v0 (1 : Int32))) hx hb dJ6_numberOfTrailingZeros_0f7a4_77 rfl ?_
        refine lv_iadd hx hb dJ6_numberOfTrailingZeros_0f7a4_78 ?_
        obtain rfl := Option.some.inj hM
        subst hQ hAe
        exact W.iret (v := (v1 + (ushr v0 (1 : Int32)))) hx hb hr (fun t ht hW => ⟨⟨(v1 + (ushr v0 (1 : Int32))), (), rfl, rfl, trivial⟩, hS.F ht⟩) hS.2.2 dJ6_numberOfTrailingZeros_0f7a4_79
      · replace hM := it_n hcc hM
        refine lv_iinc (v := (v1 + 2)) (lv' := [(1, .int (v1 + 2)), (0, .int v0)]) hx hb dJ6_numberOfTrailingZeros_0f7a4_67 hl (k := 1) rfl (by rfl) (by decide) rfl (fun ls hl => ?_)
        refine lv_iload_n hx hb dJ6_numberOfTrailingZeros_0f7a4_70 rfl (lv_at hl 1 rfl) ?_
        refine lv_iconst (v := 2) hx hb dJ6_numberOfTrailingZeros_0f7a4_71 (by decide) ?_
        refine lv_iushr (v := (ushr v0 (2 : Int32))) hx hb dJ6_numberOfTrailingZeros_0f7a4_72 rfl ?_
        refine lv_istore_n (lv' := [(0, .int (ushr v0 (2 : Int32))), (1, .int (v1 + 2))]) hx hb dJ6_numberOfTrailingZeros_0f7a4_73 rfl hl (by decide) rfl (fun ls hl => ?_)
        refine lv_iload_n hx hb dJ6_numberOfTrailingZeros_0f7a4_74 rfl (lv_at hl 1 rfl) ?_
        refine lv_iload_n hx hb dJ6_numberOfTrailingZeros_0f7a4_75 rfl (lv_at hl 0 rfl) ?_
        refine lv_iconst (v := 1) hx hb dJ6_numberOfTrailingZeros_0f7a4_76 (by decide) ?_
        refine lv_iushr (v := (ushr (ushr v0 (2 : Int32)) (1 : Int32))) hx hb dJ6_numberOfTrailingZeros_0f7a4_77 rfl ?_
        refine lv_iadd hx hb dJ6_numberOfTrailingZeros_0f7a4_78 ?_
        obtain rfl := Option.some.inj hM
        subst hQ hAe
        exact W.iret (v := ((v1 + 2) + (ushr (ushr v0 (2 : Int32)) (1 : Int32)))) hx hb hr (fun t ht hW => ⟨⟨((v1 + 2) + (ushr (ushr v0 (2 : Int32)) (1 : Int32))), (), rfl, rfl, trivial⟩, hS.F ht⟩) hS.2.2 dJ6_numberOfTrailingZeros_0f7a4_79
  have c49 : ∀ (v0 : Int32) (v1 : Int32), mJ6_numberOfTrailingZeros_49 N v0 v1 = some o → ∀ (H : Heap) (locs : List Loc) (ls : Array Slot), va_P D vwCl (zw) H → va_S A s.heap H locs → lv_has ls 2 [(0, .int v0), (1, .int v1)] → W p l e rmJ6_numberOfTrailingZeros s m args below meth c H locs 0 0 Q (F0 m 49 ls []) := by
      intro  v0 v1 hM H locs ls hP hS hl
      rw [mJ6_numberOfTrailingZeros_49] at hM
      refine lv_iload_n hx hb dJ6_numberOfTrailingZeros_0f7a4_49 rfl (lv_at hl 0 rfl) ?_
      refine lv_bipush (v := 16) hx hb dJ6_numberOfTrailingZeros_0f7a4_50 (by decide) ?_
      refine lv_icmp_le (tgt := 62) hx hb dJ6_numberOfTrailingZeros_0f7a4_52 (by decide) (fun hcc => ?_) (fun hcc => ?_)
      · replace hM := it_p hcc hM
        exact c62 v0 v1 hM H locs ls hP hS (lv_sub hl [0, 1] rfl)
      · replace hM := it_n hcc hM
        refine lv_iinc (v := (v1 + 4)) (lv' := [(1, .int (v1 + 4)), (0, .int v0)]) hx hb dJ6_numberOfTrailingZeros_0f7a4_55 hl (k := 1) rfl (by rfl) (by decide) rfl (fun ls hl => ?_)
        refine lv_iload_n hx hb dJ6_numberOfTrailingZeros_0f7a4_58 rfl (lv_at hl 1 rfl) ?_
        refine lv_iconst (v := 4) hx hb dJ6_numberOfTrailingZeros_0f7a4_59 (by decide) ?_
        refine lv_iushr (v := (ushr v0 (4 : Int32))) hx hb dJ6_numberOfTrailingZeros_0f7a4_60 rfl ?_
        refine lv_istore_n (lv' := [(0, .int (ushr v0 (4 : Int32))), (1, .int (v1 + 4))]) hx hb dJ6_numberOfTrailingZeros_0f7a4_61 rfl hl (by decide) rfl (fun ls hl => ?_)
        exact c62 (ushr v0 (4 : Int32)) (v1 + 4) hM H locs ls hP hS (lv_sub hl [0, 1] rfl)
  have c34 : ∀ (v0 : Int32) (v1 : Int32), mJ6_numberOfTrailingZeros_34 N v0 v1 = some o → ∀ (H : Heap) (locs : List Loc) (ls : Array Slot), va_P D vwCl (zw) H → va_S A s.heap H locs → lv_has ls 2 [(0, .int v0), (1, .int v1)] → W p l e rmJ6_numberOfTrailingZeros s m args below meth c H locs 0 0 Q (F0 m 34 ls []) := by
      intro  v0 v1 hM H locs ls hP hS hl
      rw [mJ6_numberOfTrailingZeros_34] at hM
      refine lv_iload_n hx hb dJ6_numberOfTrailingZeros_0f7a4_34 rfl (lv_at hl 0 rfl) ?_
      refine lv_sipush (v := 256) hx hb dJ6_numberOfTrailingZeros_0f7a4_35 (by decide) ?_
      refine lv_icmp_le (tgt := 49) hx hb dJ6_numberOfTrailingZeros_0f7a4_38 (by decide) (fun hcc => ?_) (fun hcc => ?_)
      · replace hM := it_p hcc hM
        exact c49 v0 v1 hM H locs ls hP hS (lv_sub hl [0, 1] rfl)
      · replace hM := it_n hcc hM
        refine lv_iinc (v := (v1 + 8)) (lv' := [(1, .int (v1 + 8)), (0, .int v0)]) hx hb dJ6_numberOfTrailingZeros_0f7a4_41 hl (k := 1) rfl (by rfl) (by decide) rfl (fun ls hl => ?_)
        refine lv_iload_n hx hb dJ6_numberOfTrailingZeros_0f7a4_44 rfl (lv_at hl 1 rfl) ?_
        refine lv_bipush (v := 8) hx hb dJ6_numberOfTrailingZeros_0f7a4_45 (by decide) ?_
        refine lv_iushr (v := (ushr v0 (8 : Int32))) hx hb dJ6_numberOfTrailingZeros_0f7a4_47 rfl ?_
        refine lv_istore_n (lv' := [(0, .int (ushr v0 (8 : Int32))), (1, .int (v1 + 8))]) hx hb dJ6_numberOfTrailingZeros_0f7a4_48 rfl hl (by decide) rfl (fun ls hl => ?_)
        exact c49 (ushr v0 (8 : Int32)) (v1 + 8) hM H locs ls hP hS (lv_sub hl [0, 1] rfl)
  rw [mJ6_numberOfTrailingZeros] at hM
  refine lv_iload_n hx hb dJ6_numberOfTrailingZeros_0f7a4_0 rfl (lv_at hl 0 rfl) ?_
  refine lv_iconst (v := -1) hx hb dJ6_numberOfTrailingZeros_0f7a4_1 (by decide) ?_
  refine lv_ixor hx hb dJ6_numberOfTrailingZeros_0f7a4_2 ?_
  refine lv_iload_n hx hb dJ6_numberOfTrailingZeros_0f7a4_3 rfl (lv_at hl 0 rfl) ?_
  refine lv_iconst (v := 1) hx hb dJ6_numberOfTrailingZeros_0f7a4_4 (by decide) ?_
  refine lv_isub hx hb dJ6_numberOfTrailingZeros_0f7a4_5 ?_
  refine lv_iand hx hb dJ6_numberOfTrailingZeros_0f7a4_6 ?_
  refine lv_istore_n (lv' := [(0, .int ((p1 ^^^ (-1 : Int32)) &&& (p1 - (1 : Int32))))]) hx hb dJ6_numberOfTrailingZeros_0f7a4_7 rfl hl (by decide) rfl (fun ls hl => ?_)
  refine lv_iload_n hx hb dJ6_numberOfTrailingZeros_0f7a4_8 rfl (lv_at hl 0 rfl) ?_
  refine lv_if_gt (tgt := 17) hx hb dJ6_numberOfTrailingZeros_0f7a4_9 (by decide) (fun hcc => ?_) (fun hcc => ?_)
  · replace hM := it_p hcc hM
    refine lv_iconst (v := 1) hx hb dJ6_numberOfTrailingZeros_0f7a4_17 (by decide) ?_
    refine lv_istore_n (lv' := [(1, .int (1 : Int32)), (0, .int ((p1 ^^^ (-1 : Int32)) &&& (p1 - (1 : Int32))))]) hx hb dJ6_numberOfTrailingZeros_0f7a4_18 rfl hl (by decide) rfl (fun ls hl => ?_)
    refine lv_iload_n hx hb dJ6_numberOfTrailingZeros_0f7a4_19 rfl (lv_at hl 1 rfl) ?_
    refine lv_ldcw (v := (65536 : Int32)) hx hb hown (hts (.constant RJ6 264 (65536)) (by decide +kernel)) dJ6_numberOfTrailingZeros_0f7a4_20 ?_
    refine lv_icmp_le (tgt := 34) hx hb dJ6_numberOfTrailingZeros_0f7a4_23 (by decide) (fun hcc => ?_) (fun hcc => ?_)
    · replace hM := it_p hcc hM
      exact c34 ((p1 ^^^ (-1 : Int32)) &&& (p1 - (1 : Int32))) (1 : Int32) hM H locs ls hP hS (lv_sub hl [1, 0] rfl)
    · replace hM := it_n hcc hM
      refine lv_iinc (v := ((1 : Int32) + 16)) (lv' := [(1, .int ((1 : Int32) + 16)), (0, .int ((p1 ^^^ (-1 : Int32)) &&& (p1 - (1 : Int32))))]) hx hb dJ6_numberOfTrailingZeros_0f7a4_26 hl (k := 0) rfl (by rfl) (by decide) rfl (fun ls hl => ?_)
      refine lv_iload_n hx hb dJ6_numberOfTrailingZeros_0f7a4_29 rfl (lv_at hl 1 rfl) ?_
      refine lv_bipush (v := 16) hx hb dJ6_numberOfTrailingZeros_0f7a4_30 (by decide) ?_
      refine lv_iushr (v := (ushr ((p1 ^^^ (-1 : Int32)) &&& (p1 - (1 : Int32))) (16 : Int32))) hx hb dJ6_numberOfTrailingZeros_0f7a4_32 rfl ?_
      refine lv_istore_n (lv' := [(0, .int (ushr ((p1 ^^^ (-1 : Int32)) &&& (p1 - (1 : Int32))) (16 : Int32))), (1, .int ((1 : Int32) + 16))]) hx hb dJ6_numberOfTrailingZeros_0f7a4_33 rfl hl (by decide) rfl (fun ls hl => ?_)
      exact c34 (ushr ((p1 ^^^ (-1 : Int32)) &&& (p1 - (1 : Int32))) (16 : Int32)) ((1 : Int32) + 16) hM H locs ls hP hS (lv_sub hl [0, 1] rfl)
  · replace hM := it_n hcc hM
    refine lv_iload_n hx hb dJ6_numberOfTrailingZeros_0f7a4_12 rfl (lv_at hl 0 rfl) ?_
    refine lv_bipush (v := 32) hx hb dJ6_numberOfTrailingZeros_0f7a4_13 (by decide) ?_
    refine lv_iand hx hb dJ6_numberOfTrailingZeros_0f7a4_15 ?_
    obtain rfl := Option.some.inj hM
    subst hQ hAe
    exact W.iret (v := (((p1 ^^^ (-1 : Int32)) &&& (p1 - (1 : Int32))) &&& (32 : Int32))) hx hb hr (fun t ht hW => ⟨⟨(((p1 ^^^ (-1 : Int32)) &&& (p1 - (1 : Int32))) &&& (32 : Int32)), (), rfl, rfl, trivial⟩, hS.F ht⟩) hS.2.2 dJ6_numberOfTrailingZeros_0f7a4_16
def mX5_thrown (N : Nat) (th : Int32) : Option Int32 :=
  some th
abbrev rmX5_thrown : Room := { frames := 0, cells := 0, slots := 0, locals := 0 }
set_option maxHeartbeats 4000000 in
set_option maxRecDepth 100000 in
theorem kX5_thrown {l : Launch} {D : va_G} {cI cJ : ClassId} (N : Nat) (b : Nat → Nat) {th : Int32} {w : Int32} {h : Int32} {ms : RowI} {mu : RowI} {mb : RowI} {me : RowI} {mf : RowI} {mt : Int32} {mv : Int32} {ml : Int32} {mk : RowI} {o : Int32} (hM : mX5_thrown N th = some o) (sz : Nat) : Met l yX5_thrown wsX5_thrown rmX5_thrown (va_Pc [.ref (b 0)] (Pre D cI cJ (mw b cI th w h ms mu mb me mf mt mv ml mk) sz)) (va_Qi (fun (r : Int32) (_ : Unit) => r = o) (fun _ _ => True) (fun _ => False)) 0 0 (fun _ => False) := by
  refine xofR (cc := cX5_thrown) (maxL := 1) (ret := (some .int)) rfl (by decide) rfl ?_
  intro p e s m args below meth c ls Q A hQ hAe hx hb hr hml hown hts hlocks hN hK H locs hP hD hS hl
  replace hown : s.vm.findClass RX5 = some m.cls := hown
  replace hl : lv_has ls 1 [(0, .ref (b 0))] := hl
  have iX5 : ∀ w ∈ wsX50, w ∈ wsX5_thrown := by decide +kernel
  have f47 := hts (.fieldLink RX5 47 "CryptSumsModel" "thrown" "I") (by decide +kernel)
  rw [mX5_thrown] at hM
  refine lv_aload_n hx hb dX5_thrown_0 rfl (lv_at hl 0 rfl) ?_
  refine va_get (D := D) (ci := 5) (v := .int th) (C := RX5) (T := TX5) (N := 12) hx hb hts iX5 hown hK hP 0 rfl rfl 0 (by decide) f47 (fun _ h9 => h9) rfl dX5_thrown_1 ?_
  obtain rfl := Option.some.inj hM
  subst hQ hAe
  exact W.iret (v := th) hx hb hr (fun t ht hW => ⟨⟨th, (), rfl, rfl, trivial⟩, hS.F ht⟩) hS.2.2 dX5_thrown_4
def mX5_no (N : Nat) (th : Int32) (p1 : Int32) : Option (Int32 × Int32) :=
  some ((0 : Int32), p1)
abbrev rmX5_no : Room := { frames := 0, cells := 0, slots := 0, locals := 0 }
set_option maxHeartbeats 4000000 in
set_option maxRecDepth 100000 in
theorem kX5_no {l : Launch} {D : va_G} {cI cJ : ClassId} (N : Nat) (b : Nat → Nat) {th : Int32} {w : Int32} {h : Int32} {ms : RowI} {mu : RowI} {mb : RowI} {me : RowI} {mf : RowI} {mt : Int32} {mv : Int32} {ml : Int32} {mk : RowI} {p1 : Int32} {o : (Int32 × Int32)} (hM : mX5_no N th p1 = some o) (sz : Nat) : Met l yX5_no wsX5_no rmX5_no (va_Pc [.ref (b 0), .int p1] (Pre D cI cJ (mw b cI th w h ms mu mb me mf mt mv ml mk) sz)) (va_Qi (fun (r : Int32) (_ : Unit) => r = o.1) (aft D (mw b cI th w h ms mu mb me mf mt mv ml mk) sz (fun (_ : Unit) => (mw b cI o.2 w h ms mu mb me mf mt mv ml mk))) (va_A (mw b cI th w h ms mu mb me mf mt mv ml mk) sz)) 0 0 (va_A (mw b cI th w h ms mu mb me mf mt mv ml mk) sz) := by
  refine xofW (cc := cX5_no) (maxL := 2) (ret := (some .int)) rfl (by decide) rfl ?_
  intro p e s m args below meth c ls Q A hQ hAe hx hb hr hml hown hts hlocks hnm hN hK H locs hP hD hS hA hl
  replace hown : s.vm.findClass RX5 = some m.cls := hown
  replace hl : lv_has ls 2 [(0, .ref (b 0)), (1, .int p1)] := hl
  have iX5 : ∀ w ∈ wsX50, w ∈ wsX5_no := by decide +kernel
  have f47 := hts (.fieldLink RX5 47 "CryptSumsModel" "thrown" "I") (by decide +kernel)
  rw [mX5_no] at hM
  refine lv_aload_n hx hb dX5_no_0 rfl (lv_at hl 0 rfl) ?_
  refine lv_iload_n hx hb dX5_no_1 rfl (lv_at hl 1 rfl) ?_
  refine va_put (D := D) (ci := 5) (v := .int p1) (ty := .int) (C := RX5) (T := TX5) (N := 12) hx hb hts iX5 tyX5 tyX5_ok nmX5 hown hK hP hD hS 0 rfl rfl 0 (by decide) f47 (fun _ h9 => h9) rfl (by decide +kernel) rfl rfl (Nat.le_of_ble_eq_true rfl) dX5_no_2 (fun H locs hP hD hS => ?_)
  replace hP : va_P D vwCl (mw b cI p1 w h ms mu mb me mf mt mv ml mk) H := hP
  replace hD : va_D A (mw b cI p1 w h ms mu mb me mf mt mv ml mk) := hD
  refine lv_iconst (v := 0) hx hb dX5_no_5 (by decide) ?_
  obtain rfl := Option.some.inj hM
  subst hQ hAe
  exact W.iret (v := (0 : Int32)) hx hb hr (fun t ht hW => ⟨⟨(0 : Int32), (), rfl, rfl, ⟨by rw [ht]; exact hP, hD⟩⟩, hS.F ht⟩) hS.2.2 dX5_no_6
def mX5_isIn (N : Nat) (p1 : Int32) (p2 : Int32) (p3 : Int32) : Option Int32 :=
  (if p1 < p2 then
  some (0 : Int32)
  else
  (if p3 < p1 then
  some (0 : Int32)
  else
  some (1 : Int32)))
abbrev rmX5_isIn : Room := { frames := 0, cells := 0, slots := 0, locals := 0 }
set_option maxHeartbeats 4000000 in
set_option maxRecDepth 100000 in
theorem kX5_isIn {l : Launch} {D : va_G} {cI cJ : ClassId} (N : Nat) {p1 : Int32} {p2 : Int32} {p3 : Int32} {o : Int32} (hM : mX5_isIn N p1 p2 p3 = some o) (sz : Nat) : Met l yX5_isIn wsX5_isIn rmX5_isIn (va_Pc [.int p1, .int p2, .int p3] (Pre D cI cJ (zw) sz)) (va_Qi (fun (r : Int32) (_ : Unit) => r = o ∧ bz r) (fun _ _ => True) (fun _ => False)) 0 0 (fun _ => False) := by
  refine xofR (cc := cX5_isIn) (maxL := 3) (ret := (some .boolean)) rfl (by decide) rfl ?_
  intro p e s m args below meth c ls Q A hQ hAe hx hb hr hml hown hts hlocks hN hK H locs hP hD hS hl
  replace hown : s.vm.findClass RX5 = some m.cls := hown
  replace hl : lv_has ls 3 [(0, .int p1), (1, .int p2), (2, .int p3)] := hl
  rw [mX5_isIn] at hM
  refine lv_iload_n hx hb dX5_isIn_0 rfl (lv_at hl 0 rfl) ?_
  refine lv_iload_n hx hb dX5_isIn_1 rfl (lv_at hl 1 rfl) ?_
  refine lv_icmp_lt (tgt := 14) hx hb dX5_isIn_2 (by decide) (fun hcc => ?_) (fun hcc => ?_)
  · replace hM := it_p hcc hM
    refine lv_iconst (v := 0) hx hb dX5_isIn_14 (by decide) ?_
    obtain rfl := Option.some.inj hM
    subst hQ hAe
    exact W.zret (ty := .boolean) (v := (0 : Int32)) hx hb hr (nb_z (Or.inl rfl)) (fun t ht hW => ⟨⟨(0 : Int32), (), rfl, ⟨rfl, Or.inl rfl⟩, trivial⟩, hS.F ht⟩) hS.2.2 dX5_isIn_15
  · replace hM := it_n hcc hM
    refine lv_iload_n hx hb dX5_isIn_5 rfl (lv_at hl 0 rfl) ?_
    refine lv_iload_n hx hb dX5_isIn_6 rfl (lv_at hl 2 rfl) ?_
    refine lv_icmp_gt (tgt := 14) hx hb dX5_isIn_7 (by decide) (fun hcc => ?_) (fun hcc => ?_)
    · replace hM := it_p hcc hM
      refine lv_iconst (v := 0) hx hb dX5_isIn_14 (by decide) ?_
      obtain rfl := Option.some.inj hM
      subst hQ hAe
      exact W.zret (ty := .boolean) (v := (0 : Int32)) hx hb hr (nb_z (Or.inl rfl)) (fun t ht hW => ⟨⟨(0 : Int32), (), rfl, ⟨rfl, Or.inl rfl⟩, trivial⟩, hS.F ht⟩) hS.2.2 dX5_isIn_15
    · replace hM := it_n hcc hM
      refine lv_iconst (v := 1) hx hb dX5_isIn_10 (by decide) ?_
      refine lv_goto (tgt := 15) hx hb dX5_isIn_11 (by decide) ?_
      obtain rfl := Option.some.inj hM
      subst hQ hAe
      exact W.zret (ty := .boolean) (v := (1 : Int32)) hx hb hr (nb_z (Or.inr rfl)) (fun t ht hW => ⟨⟨(1 : Int32), (), rfl, ⟨rfl, Or.inr rfl⟩, trivial⟩, hS.F ht⟩) hS.2.2 dX5_isIn_15
def mX5_isCell (N : Nat) (w : Int32) (h : Int32) (p1 : Int32) : Option Int32 :=
  ((mX5_isIn N p1 (0 : Int32) ((w * h) - (1 : Int32))).bind fun x13 =>
  some x13)
abbrev rmX5_isCell : Room := { frames := 1, cells := 0, slots := 0, locals := 22 }
set_option maxHeartbeats 4000000 in
set_option maxRecDepth 100000 in
theorem kX5_isCell {l : Launch} {D : va_G} {cI cJ : ClassId} (N : Nat) (b : Nat → Nat) {th : Int32} {w : Int32} {h : Int32} {ms : RowI} {mu : RowI} {mb : RowI} {me : RowI} {mf : RowI} {mt : Int32} {mv : Int32} {ml : Int32} {mk : RowI} {p1 : Int32} {o : Int32} (hM : mX5_isCell N w h p1 = some o) (sz : Nat) : Met l yX5_isCell wsX5_isCell rmX5_isCell (va_Pc [.ref (b 0), .int p1] (Pre D cI cJ (mw b cI th w h ms mu mb me mf mt mv ml mk) sz)) (va_Qi (fun (r : Int32) (_ : Unit) => r = o ∧ bz r) (fun _ _ => True) (fun _ => False)) 0 0 (fun _ => False) := by
  refine xofR (cc := cX5_isCell) (maxL := 2) (ret := (some .boolean)) rfl (by decide) rfl ?_
  intro p e s m args below meth c ls Q A hQ hAe hx hb hr hml hown hts hlocks hN hK H locs hP hD hS hl
  replace hown : s.vm.findClass RX5 = some m.cls := hown
  replace hl : lv_has ls 2 [(0, .ref (b 0)), (1, .int p1)] := hl
  have iX5 : ∀ w ∈ wsX50, w ∈ wsX5_isCell := by decide +kernel
  have f13 := hts (.fieldLink RX5 13 "CryptSumsModel" "h" "I") (by decide +kernel)
  have f7 := hts (.fieldLink RX5 7 "CryptSumsModel" "w" "I") (by decide +kernel)
  rw [mX5_isCell] at hM
  refine lv_iload_n hx hb dX5_isCell_0 rfl (lv_at hl 1 rfl) ?_
  refine lv_iconst (v := 0) hx hb dX5_isCell_1 (by decide) ?_
  refine lv_aload_n hx hb dX5_isCell_2 rfl (lv_at hl 0 rfl) ?_
  refine va_get (D := D) (ci := 5) (v := .int w) (C := RX5) (T := TX5) (N := 12) hx hb hts iX5 hown hK hP 0 rfl rfl 1 (by decide) f7 (fun _ h9 => h9) rfl dX5_isCell_3 ?_
  refine lv_aload_n hx hb dX5_isCell_6 rfl (lv_at hl 0 rfl) ?_
  refine va_get (D := D) (ci := 5) (v := .int h) (C := RX5) (T := TX5) (N := 12) hx hb hts iX5 hown hK hP 0 rfl rfl 2 (by decide) f13 (fun _ h9 => h9) rfl dX5_isCell_7 ?_
  refine lv_imul hx hb dX5_isCell_10 ?_
  refine lv_iconst (v := 1) hx hb dX5_isCell_11 (by decide) ?_
  refine lv_isub hx hb dX5_isCell_12 ?_
  obtain ⟨x13, hC, hM⟩ := bd_s hM
  refine cR_i (va_runS (As := [.int p1, .int (0 : Int32), .int ((w * h) - (1 : Int32))]) (rest := []) ⟨hx, hb, hml, hown, hts⟩ (kX5_isIn (l := l) (D := D) (cI := cI) (cJ := cJ) N (p1 := p1) (p2 := (0 : Int32)) (p3 := ((w * h) - (1 : Int32))) hC H.size) (va_cwS 3 hts gX5_isCell_X5_isIn rfl rfl rfl (by decide +kernel) ⟨Nat.le_of_ble_eq_true rfl, Nat.le_of_ble_eq_true rfl⟩) (preS [.int p1, .int (0 : Int32), .int ((w * h) - (1 : Int32))] hN hK (hP.sub (ws' := zw) [] rfl) (hD.sub (ws' := zw) [] (by decide) rfl)) rfl rfl hl.1 rfl (lv_room (Nat.le_of_ble_eq_true rfl)) dX5_isCell_13 ⟨Nat.le_of_ble_eq_true rfl, Nat.le_of_ble_eq_true rfl⟩) hP hS (fun r u H locs hw hP hS => ?_)
  obtain ⟨hw, hz13⟩ := hw
  rw [hw] at hz13
  rw [hw]
  obtain rfl := Option.some.inj hM
  subst hQ hAe
  exact W.zret (ty := .boolean) (v := x13) hx hb hr (nb_z (hz13)) (fun t ht hW => ⟨⟨x13, (), rfl, ⟨rfl, hz13⟩, trivial⟩, hS.F ht⟩) hS.2.2 dX5_isCell_16
def mX5_sumOf_4 (N : Nat) (p1 : Int32) : Nat → Int32 → Int32 → Option Int32
  | 0 => fun _ _ => none
  | n + 1 => fun v1 v2 => (if (9 : Int32) < v2 then
  some v1
  else
  (mX5_sumOf_4 N p1 n (v1 + (((p1 >>> (v2 &&& 31)) &&& (1 : Int32)) * v2)) (v2 + 1)))
def mX5_sumOf (N : Nat) (p1 : Int32) : Option Int32 :=
  (mX5_sumOf_4 N p1 N (0 : Int32) (1 : Int32))
abbrev rmX5_sumOf : Room := { frames := 0, cells := 0, slots := 0, locals := 0 }
set_option maxHeartbeats 4000000 in
set_option maxRecDepth 100000 in
theorem kX5_sumOf {l : Launch} {D : va_G} {cI cJ : ClassId} (N : Nat) {p1 : Int32} {o : Int32} (hM : mX5_sumOf N p1 = some o) (sz : Nat) : Met l yX5_sumOf wsX5_sumOf rmX5_sumOf (va_Pc [.int p1] (Pre D cI cJ (zw) sz)) (va_Qi (fun (r : Int32) (_ : Unit) => r = o) (fun _ _ => True) (fun _ => False)) 0 0 (fun _ => False) := by
  refine xofR (cc := cX5_sumOf) (maxL := 3) (ret := (some .int)) rfl (by decide) rfl ?_
  intro p e s m args below meth c ls Q A hQ hAe hx hb hr hml hown hts hlocks hN hK H locs hP hD hS hl
  replace hown : s.vm.findClass RX5 = some m.cls := hown
  replace hl : lv_has ls 3 [(0, .int p1)] := hl
  have c4 : ∀ (n : Nat), ∀ (v1 : Int32) (v2 : Int32), mX5_sumOf_4 N p1 n v1 v2 = some o → ∀ (H : Heap) (locs : List Loc) (ls : Array Slot), va_P D vwCl (zw) H → va_S A s.heap H locs → lv_has ls 3 [(0, .int p1), (1, .int v1), (2, .int v2)] → W p l e rmX5_sumOf s m args below meth c H locs 0 0 Q (F0 m 4 ls []) := by
    intro n
    induction n with
    | zero =>
      intro v1 v2 hM
      rw [mX5_sumOf_4] at hM
      cases hM
    | succ n ih =>
      intro v1 v2 hM H locs ls hP hS hl
      rw [mX5_sumOf_4] at hM
      refine lv_iload_n hx hb dX5_sumOf_4 rfl (lv_at hl 2 rfl) ?_
      refine lv_bipush (v := 9) hx hb dX5_sumOf_5 (by decide) ?_
      refine lv_icmp_gt (tgt := 26) hx hb dX5_sumOf_7 (by decide) (fun hcc => ?_) (fun hcc => ?_)
      · replace hM := it_p hcc hM
        refine lv_iload_n hx hb dX5_sumOf_26 rfl (lv_at hl 1 rfl) ?_
        obtain rfl := Option.some.inj hM
        subst hQ hAe
        exact W.iret (v := v1) hx hb hr (fun t ht hW => ⟨⟨v1, (), rfl, rfl, trivial⟩, hS.F ht⟩) hS.2.2 dX5_sumOf_27
      · replace hM := it_n hcc hM
        refine lv_iload_n hx hb dX5_sumOf_10 rfl (lv_at hl 1 rfl) ?_
        refine lv_iload_n hx hb dX5_sumOf_11 rfl (lv_at hl 0 rfl) ?_
        refine lv_iload_n hx hb dX5_sumOf_12 rfl (lv_at hl 2 rfl) ?_
        refine lv_ishr hx hb dX5_sumOf_13 ?_
        refine lv_iconst (v := 1) hx hb dX5_sumOf_14 (by decide) ?_
        refine lv_iand hx hb dX5_sumOf_15 ?_
        refine lv_iload_n hx hb dX5_sumOf_16 rfl (lv_at hl 2 rfl) ?_
        refine lv_imul hx hb dX5_sumOf_17 ?_
        refine lv_iadd hx hb dX5_sumOf_18 ?_
        refine lv_istore_n (lv' := [(1, .int (v1 + (((p1 >>> (v2 &&& 31)) &&& (1 : Int32)) * v2))), (0, .int p1), (2, .int v2)]) hx hb dX5_sumOf_19 rfl hl (by decide) rfl (fun ls hl => ?_)
        refine lv_iinc (v := (v2 + 1)) (lv' := [(2, .int (v2 + 1)), (1, .int (v1 + (((p1 >>> (v2 &&& 31)) &&& (1 : Int32)) * v2))), (0, .int p1)]) hx hb dX5_sumOf_20 hl (k := 2) rfl (by rfl) (by decide) rfl (fun ls hl => ?_)
        refine lv_goto (tgt := 4) hx hb dX5_sumOf_23 (by decide) ?_
        exact ih (v1 + (((p1 >>> (v2 &&& 31)) &&& (1 : Int32)) * v2)) (v2 + 1) hM H locs ls hP hS (lv_sub hl [2, 1, 0] rfl)
  rw [mX5_sumOf] at hM
  refine lv_iconst (v := 0) hx hb dX5_sumOf_0 (by decide) ?_
  refine lv_istore_n (lv' := [(1, .int (0 : Int32)), (0, .int p1)]) hx hb dX5_sumOf_1 rfl hl (by decide) rfl (fun ls hl => ?_)
  refine lv_iconst (v := 1) hx hb dX5_sumOf_2 (by decide) ?_
  refine lv_istore_n (lv' := [(2, .int (1 : Int32)), (1, .int (0 : Int32)), (0, .int p1)]) hx hb dX5_sumOf_3 rfl hl (by decide) rfl (fun ls hl => ?_)
  exact c4 N (0 : Int32) (1 : Int32) hM H locs ls hP hS (lv_sub hl [2, 1, 0] rfl)
def mX5_behind (N : Nat) (w : Int32) (h : Int32) (p1 : Int32) (p2 : Int32) : Option Int32 :=
  (if p2 = (1 : Int32) then
  (if (w * h) ≤ (p1 + w) then
  some (-1 : Int32)
  else
  some (p1 + w))
  else
  (if w = 0 then none else
  (if w ≤ ((p1 - p1 / w * w) + (1 : Int32)) then
  some (-1 : Int32)
  else
  some (p1 + (1 : Int32)))))
abbrev rmX5_behind : Room := { frames := 0, cells := 0, slots := 0, locals := 0 }
set_option maxHeartbeats 4000000 in
set_option maxRecDepth 100000 in
theorem kX5_behind {l : Launch} {D : va_G} {cI cJ : ClassId} (N : Nat) (b : Nat → Nat) {th : Int32} {w : Int32} {h : Int32} {ms : RowI} {mu : RowI} {mb : RowI} {me : RowI} {mf : RowI} {mt : Int32} {mv : Int32} {ml : Int32} {mk : RowI} {p1 : Int32} {p2 : Int32} {o : Int32} (hM : mX5_behind N w h p1 p2 = some o) (sz : Nat) : Met l yX5_behind wsX5_behind rmX5_behind (va_Pc [.ref (b 0), .int p1, .int p2] (Pre D cI cJ (mw b cI th w h ms mu mb me mf mt mv ml mk) sz)) (va_Qi (fun (r : Int32) (_ : Unit) => r = o) (fun _ _ => True) (fun _ => False)) 0 0 (fun _ => False) := by
  refine xofR (cc := cX5_behind) (maxL := 3) (ret := (some .int)) rfl (by decide) rfl ?_
  intro p e s m args below meth c ls Q A hQ hAe hx hb hr hml hown hts hlocks hN hK H locs hP hD hS hl
  replace hown : s.vm.findClass RX5 = some m.cls := hown
  replace hl : lv_has ls 3 [(0, .ref (b 0)), (1, .int p1), (2, .int p2)] := hl
  have iX5 : ∀ w ∈ wsX50, w ∈ wsX5_behind := by decide +kernel
  have f13 := hts (.fieldLink RX5 13 "CryptSumsModel" "h" "I") (by decide +kernel)
  have f7 := hts (.fieldLink RX5 7 "CryptSumsModel" "w" "I") (by decide +kernel)
  rw [mX5_behind] at hM
  refine lv_iload_n hx hb dX5_behind_0 rfl (lv_at hl 2 rfl) ?_
  refine lv_iconst (v := 1) hx hb dX5_behind_1 (by decide) ?_
  refine lv_icmp_ne (tgt := 34) hx hb dX5_behind_2 (by decide) (fun hcc => ?_) (fun hcc => ?_)
  · replace hM := it_n hcc hM
    refine lv_iload_n hx hb dX5_behind_34 rfl (lv_at hl 1 rfl) ?_
    refine lv_aload_n hx hb dX5_behind_35 rfl (lv_at hl 0 rfl) ?_
    refine va_get (D := D) (ci := 5) (v := .int w) (C := RX5) (T := TX5) (N := 12) hx hb hts iX5 hown hK hP 0 rfl rfl 1 (by decide) f7 (fun _ h9 => h9) rfl dX5_behind_36 ?_
    obtain ⟨hz39, hM⟩ := it_x hM
    refine lv_irem hx hb dX5_behind_39 hz39 ?_
    refine lv_iconst (v := 1) hx hb dX5_behind_40 (by decide) ?_
    refine lv_iadd hx hb dX5_behind_41 ?_
    refine lv_aload_n hx hb dX5_behind_42 rfl (lv_at hl 0 rfl) ?_
    refine va_get (D := D) (ci := 5) (v := .int w) (C := RX5) (T := TX5) (N := 12) hx hb hts iX5 hown hK hP 0 rfl rfl 1 (by decide) f7 (fun _ h9 => h9) rfl dX5_behind_43 ?_
    refine lv_icmp_ge (tgt := 55) hx hb dX5_behind_46 (by decide) (fun hcc => ?_) (fun hcc => ?_)
    · replace hM := it_p hcc hM
      refine lv_iconst (v := -1) hx hb dX5_behind_55 (by decide) ?_
      obtain rfl := Option.some.inj hM
      subst hQ hAe
      exact W.iret (v := (-1 : Int32)) hx hb hr (fun t ht hW => ⟨⟨(-1 : Int32), (), rfl, rfl, trivial⟩, hS.F ht⟩) hS.2.2 dX5_behind_56
    · replace hM := it_n hcc hM
      refine lv_iload_n hx hb dX5_behind_49 rfl (lv_at hl 1 rfl) ?_
      refine lv_iconst (v := 1) hx hb dX5_behind_50 (by decide) ?_
      refine lv_iadd hx hb dX5_behind_51 ?_
      refine lv_goto (tgt := 56) hx hb dX5_behind_52 (by decide) ?_
      obtain rfl := Option.some.inj hM
      subst hQ hAe
      exact W.iret (v := (p1 + (1 : Int32))) hx hb hr (fun t ht hW => ⟨⟨(p1 + (1 : Int32)), (), rfl, rfl, trivial⟩, hS.F ht⟩) hS.2.2 dX5_behind_56
  · replace hM := it_p hcc hM
    refine lv_iload_n hx hb dX5_behind_5 rfl (lv_at hl 1 rfl) ?_
    refine lv_aload_n hx hb dX5_behind_6 rfl (lv_at hl 0 rfl) ?_
    refine va_get (D := D) (ci := 5) (v := .int w) (C := RX5) (T := TX5) (N := 12) hx hb hts iX5 hown hK hP 0 rfl rfl 1 (by decide) f7 (fun _ h9 => h9) rfl dX5_behind_7 ?_
    refine lv_iadd hx hb dX5_behind_10 ?_
    refine lv_aload_n hx hb dX5_behind_11 rfl (lv_at hl 0 rfl) ?_
    refine va_get (D := D) (ci := 5) (v := .int w) (C := RX5) (T := TX5) (N := 12) hx hb hts iX5 hown hK hP 0 rfl rfl 1 (by decide) f7 (fun _ h9 => h9) rfl dX5_behind_12 ?_
    refine lv_aload_n hx hb dX5_behind_15 rfl (lv_at hl 0 rfl) ?_
    refine va_get (D := D) (ci := 5) (v := .int h) (C := RX5) (T := TX5) (N := 12) hx hb hts iX5 hown hK hP 0 rfl rfl 2 (by decide) f13 (fun _ h9 => h9) rfl dX5_behind_16 ?_
    refine lv_imul hx hb dX5_behind_19 ?_
    refine lv_icmp_ge (tgt := 32) hx hb dX5_behind_20 (by decide) (fun hcc => ?_) (fun hcc => ?_)
    · replace hM := it_p hcc hM
      refine lv_iconst (v := -1) hx hb dX5_behind_32 (by decide) ?_
      obtain rfl := Option.some.inj hM
      subst hQ hAe
      exact W.iret (v := (-1 : Int32)) hx hb hr (fun t ht hW => ⟨⟨(-1 : Int32), (), rfl, rfl, trivial⟩, hS.F ht⟩) hS.2.2 dX5_behind_33
    · replace hM := it_n hcc hM
      refine lv_iload_n hx hb dX5_behind_23 rfl (lv_at hl 1 rfl) ?_
      refine lv_aload_n hx hb dX5_behind_24 rfl (lv_at hl 0 rfl) ?_
      refine va_get (D := D) (ci := 5) (v := .int w) (C := RX5) (T := TX5) (N := 12) hx hb hts iX5 hown hK hP 0 rfl rfl 1 (by decide) f7 (fun _ h9 => h9) rfl dX5_behind_25 ?_
      refine lv_iadd hx hb dX5_behind_28 ?_
      refine lv_goto (tgt := 33) hx hb dX5_behind_29 (by decide) ?_
      obtain rfl := Option.some.inj hM
      subst hQ hAe
      exact W.iret (v := (p1 + w)) hx hb hr (fun t ht hW => ⟨⟨(p1 + w), (), rfl, rfl, trivial⟩, hS.F ht⟩) hS.2.2 dX5_behind_33
def mX5_link_52 (N : Nat) (w : Int32) (h : Int32) (ms : RowI) (K2 : Int32 → RowI → Option RowI) (K9 : Int32 → Int32 → RowI → Option RowI) (v1 : Int32) (v2 : Int32) (s0 : Int32) (mb' : RowI) : Option RowI :=
  (if s0 < 0 then
  (if bad (((36 : Int32) * v1) + v2) 72 then none else
  (K9 v1 (v2 + 1) (upd mb' (((36 : Int32) * v1) + v2).toNatClampNeg v2)))
  else
  (if bad s0 36 then none else
  (if (ms s0.toNatClampNeg) = (-1 : Int32) then
  (if bad (((36 : Int32) * v1) + v2) 72 then none else
  (K9 v1 (v2 + 1) (upd mb' (((36 : Int32) * v1) + v2).toNatClampNeg v2)))
  else
  (if bad (((36 : Int32) * v1) + s0) 72 then none else
  (if bad (((36 : Int32) * v1) + v2) 72 then none else
  (K9 v1 (v2 + 1) (upd mb' (((36 : Int32) * v1) + v2).toNatClampNeg (mb' (((36 : Int32) * v1) + s0).toNatClampNeg))))))))
def mX5_link_9 (N : Nat) (w : Int32) (h : Int32) (ms : RowI) (K2 : Int32 → RowI → Option RowI) : Nat → Int32 → Int32 → RowI → Option RowI
  | 0 => fun _ _ _ => none
  | n + 1 => fun v1 v2 mb' => (if (w * h) ≤ v2 then
  (K2 (v1 + 1) mb')
  else
  (if v1 = (1 : Int32) then
  (mX5_link_52 N w h ms K2 (mX5_link_9 N w h ms K2 n) v1 v2 (v2 - w) mb')
  else
  (if w = 0 then none else
  (if (v2 - v2 / w * w) = 0 then
  (mX5_link_52 N w h ms K2 (mX5_link_9 N w h ms K2 n) v1 v2 (-1 : Int32) mb')
  else
  (mX5_link_52 N w h ms K2 (mX5_link_9 N w h ms K2 n) v1 v2 (v2 - (1 : Int32)) mb')))))
def mX5_link_2 (N : Nat) (w : Int32) (h : Int32) (ms : RowI) : Nat → Int32 → RowI → Option RowI
  | 0 => fun _ _ => none
  | n + 1 => fun v1 mb' => (if (1 : Int32) < v1 then
  some mb'
  else
  (mX5_link_9 N w h ms (mX5_link_2 N w h ms n) N v1 (0 : Int32) mb'))
def mX5_link (N : Nat) (w : Int32) (h : Int32) (ms : RowI) (mb : RowI) : Option RowI :=
  (mX5_link_2 N w h ms N (0 : Int32) mb)
abbrev rmX5_link : Room := { frames := 0, cells := 0, slots := 0, locals := 0 }
set_option maxHeartbeats 4000000 in
set_option maxRecDepth 100000 in
theorem kX5_link {l : Launch} {D : va_G} {cI cJ : ClassId} (N : Nat) (b : Nat → Nat) {th : Int32} {w : Int32} {h : Int32} {ms : RowI} {mu : RowI} {mb : RowI} {me : RowI} {mf : RowI} {mt : Int32} {mv : Int32} {ml : Int32} {mk : RowI} {o : RowI} (hM : mX5_link N w h ms mb = some o) (sz : Nat) : Met l yX5_link wsX5_link rmX5_link (va_Pc [.ref (b 0)] (Pre D cI cJ (mw b cI th w h ms mu mb me mf mt mv ml mk) sz)) (va_Qv (fun (_ : Unit) => True) (aft D (mw b cI th w h ms mu mb me mf mt mv ml mk) sz (fun (_ : Unit) => (mw b cI th w h ms mu o me mf mt mv ml mk))) (va_A (mw b cI th w h ms mu mb me mf mt mv ml mk) sz)) 0 0 (va_A (mw b cI th w h ms mu mb me mf mt mv ml mk) sz) := by
  refine xofW (cc := cX5_link) (maxL := 4) (ret := none) rfl (by decide) rfl ?_
  intro p e s m args below meth c ls Q A hQ hAe hx hb hr hml hown hts hlocks hnm hN hK H locs hP hD hS hA hl
  replace hown : s.vm.findClass RX5 = some m.cls := hown
  replace hl : lv_has ls 4 [(0, .ref (b 0))] := hl
  have iX5 : ∀ w ∈ wsX50, w ∈ wsX5_link := by decide +kernel
  have f13 := hts (.fieldLink RX5 13 "CryptSumsModel" "h" "I") (by decide +kernel)
  have f16 := hts (.fieldLink RX5 16 "CryptSumsModel" "stones" "[I") (by decide +kernel)
  have f23 := hts (.fieldLink RX5 23 "CryptSumsModel" "begins" "[I") (by decide +kernel)
  have f7 := hts (.fieldLink RX5 7 "CryptSumsModel" "w" "I") (by decide +kernel)
  have c52 : ∀ (K2 : Int32 → RowI → Option RowI) (hK2 : ∀ (v1 : Int32) (mb' : RowI), K2 v1 mb' = some o → ∀ (H : Heap) (locs : List Loc) (ls : Array Slot), va_P D vwCl (mw b cI th w h ms mu mb' me mf mt mv ml mk) H → va_D A (mw b cI th w h ms mu mb' me mf mt mv ml mk) → va_S A s.heap H locs → lv_has ls 4 [(0, .ref (b 0)), (1, .int v1)] → W p l e rmX5_link s m args below meth c H locs 0 0 Q (F0 m 2 ls [])) (K9 : Int32 → Int32 → RowI → Option RowI) (hK9 : ∀ (v1 : Int32) (v2 : Int32) (mb' : RowI), K9 v1 v2 mb' = some o → ∀ (H : Heap) (locs : List Loc) (ls : Array Slot), va_P D vwCl (mw b cI th w h ms mu mb' me mf mt mv ml mk) H → va_D A (mw b cI th w h ms mu mb' me mf mt mv ml mk) → va_S A s.heap H locs → lv_has ls 4 [(0, .ref (b 0)), (1, .int v1), (2, .int v2)] → W p l e rmX5_link s m args below meth c H locs 0 0 Q (F0 m 9 ls [])) , ∀ (v1 : Int32) (v2 : Int32) (s0 : Int32) (mb' : RowI), mX5_link_52 N w h ms K2 K9 v1 v2 s0 mb' = some o → ∀ (H : Heap) (locs : List Loc) (ls : Array Slot), va_P D vwCl (mw b cI th w h ms mu mb' me mf mt mv ml mk) H → va_D A (mw b cI th w h ms mu mb' me mf mt mv ml mk) → va_S A s.heap H locs → lv_has ls 4 [(0, .ref (b 0)), (1, .int v1), (2, .int v2)] → W p l e rmX5_link s m args below meth c H locs 0 0 Q (F0 m 52 ls [.int s0]) := by
      intro K2 hK2 K9 hK9 v1 v2 s0 mb' hM H locs ls hP hD hS hl
      rw [mX5_link_52] at hM
      refine lv_istore_n (lv' := [(3, .int s0), (0, .ref (b 0)), (1, .int v1), (2, .int v2)]) hx hb dX5_link_52 rfl hl (by decide) rfl (fun ls hl => ?_)
      refine lv_aload_n hx hb dX5_link_53 rfl (lv_at hl 1 rfl) ?_
      refine va_get (D := D) (ci := 5) (v := .ref (b 3)) (C := RX5) (T := TX5) (N := 12) hx hb hts iX5 hown hK hP 0 rfl rfl 5 (by decide) f23 (fun _ h9 => h9) rfl dX5_link_54 ?_
      refine lv_bipush (v := 36) hx hb dX5_link_57 (by decide) ?_
      refine lv_iload_n hx hb dX5_link_59 rfl (lv_at hl 2 rfl) ?_
      refine lv_imul hx hb dX5_link_60 ?_
      refine lv_iload_n hx hb dX5_link_61 rfl (lv_at hl 3 rfl) ?_
      refine lv_iadd hx hb dX5_link_62 ?_
      refine lv_iload_n hx hb dX5_link_63 rfl (lv_at hl 0 rfl) ?_
      refine lv_if_lt (tgt := 77) hx hb dX5_link_64 (by decide) (fun hcc => ?_) (fun hcc => ?_)
      · replace hM := it_p hcc hM
        refine lv_iload_n hx hb dX5_link_77 rfl (lv_at hl 3 rfl) ?_
        refine lv_goto (tgt := 92) hx hb dX5_link_78 (by decide) ?_
        obtain ⟨hb92, hM⟩ := it_x hM
        refine va_iast (D := D) hx hb hK hP hD hS 3 0 rfl rfl hb92 dX5_link_92 (fun H locs hP hD hS => ?_)
        replace hP : va_P D vwCl (mw b cI th w h ms mu (upd mb' (((36 : Int32) * v1) + v2).toNatClampNeg v2) me mf mt mv ml mk) H := hP
        replace hD : va_D A (mw b cI th w h ms mu (upd mb' (((36 : Int32) * v1) + v2).toNatClampNeg v2) me mf mt mv ml mk) := hD
        refine lv_iinc (v := (v2 + 1)) (lv' := [(2, .int (v2 + 1)), (3, .int s0), (0, .ref (b 0)), (1, .int v1)]) hx hb dX5_link_93 hl (k := 3) rfl (by rfl) (by decide) rfl (fun ls hl => ?_)
        refine lv_goto (tgt := 9) hx hb dX5_link_96 (by decide) ?_
        exact hK9 v1 (v2 + 1) (upd mb' (((36 : Int32) * v1) + v2).toNatClampNeg v2) hM H locs ls hP hD hS (lv_sub hl [2, 3, 0] rfl)
      · replace hM := it_n hcc hM
        refine lv_aload_n hx hb dX5_link_67 rfl (lv_at hl 1 rfl) ?_
        refine va_get (D := D) (ci := 5) (v := .ref (b 1)) (C := RX5) (T := TX5) (N := 12) hx hb hts iX5 hown hK hP 0 rfl rfl 3 (by decide) f16 (fun _ h9 => h9) rfl dX5_link_68 ?_
        refine lv_iload_n hx hb dX5_link_71 rfl (lv_at hl 0 rfl) ?_
        obtain ⟨hb72, hM⟩ := it_x hM
        refine va_iald (D := D) hx hb hK hP 1 0 rfl rfl hb72 dX5_link_72 ?_
        refine lv_iconst (v := -1) hx hb dX5_link_73 (by decide) ?_
        refine lv_icmp_ne (tgt := 81) hx hb dX5_link_74 (by decide) (fun hcc => ?_) (fun hcc => ?_)
        · replace hM := it_n hcc hM
          refine lv_aload_n hx hb dX5_link_81 rfl (lv_at hl 1 rfl) ?_
          refine va_get (D := D) (ci := 5) (v := .ref (b 3)) (C := RX5) (T := TX5) (N := 12) hx hb hts iX5 hown hK hP 0 rfl rfl 5 (by decide) f23 (fun _ h9 => h9) rfl dX5_link_82 ?_
          refine lv_bipush (v := 36) hx hb dX5_link_85 (by decide) ?_
          refine lv_iload_n hx hb dX5_link_87 rfl (lv_at hl 2 rfl) ?_
          refine lv_imul hx hb dX5_link_88 ?_
          refine lv_iload_n hx hb dX5_link_89 rfl (lv_at hl 0 rfl) ?_
          refine lv_iadd hx hb dX5_link_90 ?_
          obtain ⟨hb91, hM⟩ := it_x hM
          refine va_iald (D := D) hx hb hK hP 3 0 rfl rfl hb91 dX5_link_91 ?_
          obtain ⟨hb92, hM⟩ := it_x hM
          refine va_iast (D := D) hx hb hK hP hD hS 3 0 rfl rfl hb92 dX5_link_92 (fun H locs hP hD hS => ?_)
          replace hP : va_P D vwCl (mw b cI th w h ms mu (upd mb' (((36 : Int32) * v1) + v2).toNatClampNeg (mb' (((36 : Int32) * v1) + s0).toNatClampNeg)) me mf mt mv ml mk) H := hP
          replace hD : va_D A (mw b cI th w h ms mu (upd mb' (((36 : Int32) * v1) + v2).toNatClampNeg (mb' (((36 : Int32) * v1) + s0).toNatClampNeg)) me mf mt mv ml mk) := hD
          refine lv_iinc (v := (v2 + 1)) (lv' := [(2, .int (v2 + 1)), (3, .int s0), (0, .ref (b 0)), (1, .int v1)]) hx hb dX5_link_93 hl (k := 3) rfl (by rfl) (by decide) rfl (fun ls hl => ?_)
          refine lv_goto (tgt := 9) hx hb dX5_link_96 (by decide) ?_
          exact hK9 v1 (v2 + 1) (upd mb' (((36 : Int32) * v1) + v2).toNatClampNeg (mb' (((36 : Int32) * v1) + s0).toNatClampNeg)) hM H locs ls hP hD hS (lv_sub hl [2, 3, 0] rfl)
        · replace hM := it_p hcc hM
          refine lv_iload_n hx hb dX5_link_77 rfl (lv_at hl 3 rfl) ?_
          refine lv_goto (tgt := 92) hx hb dX5_link_78 (by decide) ?_
          obtain ⟨hb92, hM⟩ := it_x hM
          refine va_iast (D := D) hx hb hK hP hD hS 3 0 rfl rfl hb92 dX5_link_92 (fun H locs hP hD hS => ?_)
          replace hP : va_P D vwCl (mw b cI th w h ms mu (upd mb' (((36 : Int32) * v1) + v2).toNatClampNeg v2) me mf mt mv ml mk) H := hP
          replace hD : va_D A (mw b cI th w h ms mu (upd mb' (((36 : Int32) * v1) + v2).toNatClampNeg v2) me mf mt mv ml mk) := hD
          refine lv_iinc (v := (v2 + 1)) (lv' := [(2, .int (v2 + 1)), (3, .int s0), (0, .ref (b 0)), (1, .int v1)]) hx hb dX5_link_93 hl (k := 3) rfl (by rfl) (by decide) rfl (fun ls hl => ?_)
          refine lv_goto (tgt := 9) hx hb dX5_link_96 (by decide) ?_
          exact hK9 v1 (v2 + 1) (upd mb' (((36 : Int32) * v1) + v2).toNatClampNeg v2) hM H locs ls hP hD hS (lv_sub hl [2, 3, 0] rfl)
  have c9 : ∀ (K2 : Int32 → RowI → Option RowI) (hK2 : ∀ (v1 : Int32) (mb' : RowI), K2 v1 mb' = some o → ∀ (H : Heap) (locs : List Loc) (ls : Array Slot), va_P D vwCl (mw b cI th w h ms mu mb' me mf mt mv ml mk) H → va_D A (mw b cI th w h ms mu mb' me mf mt mv ml mk) → va_S A s.heap H locs → lv_has ls 4 [(0, .ref (b 0)), (1, .int v1)] → W p l e rmX5_link s m args below meth c H locs 0 0 Q (F0 m 2 ls [])) (n : Nat), ∀ (v1 : Int32) (v2 : Int32) (mb' : RowI), mX5_link_9 N w h ms K2 n v1 v2 mb' = some o → ∀ (H : Heap) (locs : List Loc) (ls : Array Slot), va_P D vwCl (mw b cI th w h ms mu mb' me mf mt mv ml mk) H → va_D A (mw b cI th w h ms mu mb' me mf mt mv ml mk) → va_S A s.heap H locs → lv_has ls 4 [(0, .ref (b 0)), (1, .int v1), (2, .int v2)] → W p l e rmX5_link s m args below meth c H locs 0 0 Q (F0 m 9 ls []) := by
    intro K2 hK2 n
    induction n with
    | zero =>
      intro v1 v2 mb' hM
      rw [mX5_link_9] at hM
      cases hM
    | succ n ih =>
      intro v1 v2 mb' hM H locs ls hP hD hS hl
      rw [mX5_link_9] at hM
      refine lv_iload_n hx hb dX5_link_9 rfl (lv_at hl 2 rfl) ?_
      refine lv_aload_n hx hb dX5_link_10 rfl (lv_at hl 0 rfl) ?_
      refine va_get (D := D) (ci := 5) (v := .int w) (C := RX5) (T := TX5) (N := 12) hx hb hts iX5 hown hK hP 0 rfl rfl 1 (by decide) f7 (fun _ h9 => h9) rfl dX5_link_11 ?_
      refine lv_aload_n hx hb dX5_link_14 rfl (lv_at hl 0 rfl) ?_
      refine va_get (D := D) (ci := 5) (v := .int h) (C := RX5) (T := TX5) (N := 12) hx hb hts iX5 hown hK hP 0 rfl rfl 2 (by decide) f13 (fun _ h9 => h9) rfl dX5_link_15 ?_
      refine lv_imul hx hb dX5_link_18 ?_
      refine lv_icmp_ge (tgt := 99) hx hb dX5_link_19 (by decide) (fun hcc => ?_) (fun hcc => ?_)
      · replace hM := it_p hcc hM
        refine lv_iinc (v := (v1 + 1)) (lv' := [(1, .int (v1 + 1)), (0, .ref (b 0)), (2, .int v2)]) hx hb dX5_link_99 hl (k := 1) rfl (by rfl) (by decide) rfl (fun ls hl => ?_)
        refine lv_goto (tgt := 2) hx hb dX5_link_102 (by decide) ?_
        exact hK2 (v1 + 1) mb' hM H locs ls hP hD hS (lv_sub hl [1, 0] rfl)
      · replace hM := it_n hcc hM
        refine lv_iload_n hx hb dX5_link_22 rfl (lv_at hl 1 rfl) ?_
        refine lv_iconst (v := 1) hx hb dX5_link_23 (by decide) ?_
        refine lv_icmp_ne (tgt := 36) hx hb dX5_link_24 (by decide) (fun hcc => ?_) (fun hcc => ?_)
        · replace hM := it_n hcc hM
          refine lv_iload_n hx hb dX5_link_36 rfl (lv_at hl 2 rfl) ?_
          refine lv_aload_n hx hb dX5_link_37 rfl (lv_at hl 0 rfl) ?_
          refine va_get (D := D) (ci := 5) (v := .int w) (C := RX5) (T := TX5) (N := 12) hx hb hts iX5 hown hK hP 0 rfl rfl 1 (by decide) f7 (fun _ h9 => h9) rfl dX5_link_38 ?_
          obtain ⟨hz41, hM⟩ := it_x hM
          refine lv_irem hx hb dX5_link_41 hz41 ?_
          refine lv_if_ne (tgt := 49) hx hb dX5_link_42 (by decide) (fun hcc => ?_) (fun hcc => ?_)
          · replace hM := it_n hcc hM
            refine lv_iload_n hx hb dX5_link_49 rfl (lv_at hl 2 rfl) ?_
            refine lv_iconst (v := 1) hx hb dX5_link_50 (by decide) ?_
            refine lv_isub hx hb dX5_link_51 ?_
            exact c52 K2 hK2 (mX5_link_9 N w h ms K2 n) ih v1 v2 (v2 - (1 : Int32)) mb' hM H locs ls hP hD hS (lv_sub hl [0, 1, 2] rfl)
          · replace hM := it_p hcc hM
            refine lv_iconst (v := -1) hx hb dX5_link_45 (by decide) ?_
            refine lv_goto (tgt := 52) hx hb dX5_link_46 (by decide) ?_
            exact c52 K2 hK2 (mX5_link_9 N w h ms K2 n) ih v1 v2 (-1 : Int32) mb' hM H locs ls hP hD hS (lv_sub hl [0, 1, 2] rfl)
        · replace hM := it_p hcc hM
          refine lv_iload_n hx hb dX5_link_27 rfl (lv_at hl 2 rfl) ?_
          refine lv_aload_n hx hb dX5_link_28 rfl (lv_at hl 0 rfl) ?_
          refine va_get (D := D) (ci := 5) (v := .int w) (C := RX5) (T := TX5) (N := 12) hx hb hts iX5 hown hK hP 0 rfl rfl 1 (by decide) f7 (fun _ h9 => h9) rfl dX5_link_29 ?_
          refine lv_isub hx hb dX5_link_32 ?_
          refine lv_goto (tgt := 52) hx hb dX5_link_33 (by decide) ?_
          exact c52 K2 hK2 (mX5_link_9 N w h ms K2 n) ih v1 v2 (v2 - w) mb' hM H locs ls hP hD hS (lv_sub hl [0, 1, 2] rfl)
  have c2 : ∀ (n : Nat), ∀ (v1 : Int32) (mb' : RowI), mX5_link_2 N w h ms n v1 mb' = some o → ∀ (H : Heap) (locs : List Loc) (ls : Array Slot), va_P D vwCl (mw b cI th w h ms mu mb' me mf mt mv ml mk) H → va_D A (mw b cI th w h ms mu mb' me mf mt mv ml mk) → va_S A s.heap H locs → lv_has ls 4 [(0, .ref (b 0)), (1, .int v1)] → W p l e rmX5_link s m args below meth c H locs 0 0 Q (F0 m 2 ls []) := by
    intro n
    induction n with
    | zero =>
      intro v1 mb' hM
      rw [mX5_link_2] at hM
      cases hM
    | succ n ih =>
      intro v1 mb' hM H locs ls hP hD hS hl
      rw [mX5_link_2] at hM
      refine lv_iload_n hx hb dX5_link_2 rfl (lv_at hl 1 rfl) ?_
      refine lv_iconst (v := 1) hx hb dX5_link_3 (by decide) ?_
      refine lv_icmp_gt (tgt := 105) hx hb dX5_link_4 (by decide) (fun hcc => ?_) (fun hcc => ?_)
      · replace hM := it_p hcc hM
        obtain rfl := Option.some.inj hM
        subst hQ hAe
        exact W.vret hx hb hr (fun t ht hW => ⟨⟨(), rfl, trivial, ⟨by rw [ht]; exact hP, hD⟩⟩, hS.F ht⟩) hS.2.2 dX5_link_105
      · replace hM := it_n hcc hM
        refine lv_iconst (v := 0) hx hb dX5_link_7 (by decide) ?_
        refine lv_istore_n (lv' := [(2, .int (0 : Int32)), (0, .ref (b 0)), (1, .int v1)]) hx hb dX5_link_8 rfl hl (by decide) rfl (fun ls hl => ?_)
        exact c9 (mX5_link_2 N w h ms n) ih N v1 (0 : Int32) mb' hM H locs ls hP hD hS (lv_sub hl [1, 2, 0] rfl)
  rw [mX5_link] at hM
  refine lv_iconst (v := 0) hx hb dX5_link_0 (by decide) ?_
  refine lv_istore_n (lv' := [(1, .int (0 : Int32)), (0, .ref (b 0))]) hx hb dX5_link_1 rfl hl (by decide) rfl (fun ls hl => ?_)
  exact c2 N (0 : Int32) mb hM H locs ls hP hD hS (lv_sub hl [1, 0] rfl)
def mX5_beginOf (N : Nat) (mb : RowI) (p1 : Int32) (p2 : Int32) : Option Int32 :=
  (if bad (((36 : Int32) * p2) + p1) 72 then none else
  some (mb (((36 : Int32) * p2) + p1).toNatClampNeg))
abbrev rmX5_beginOf : Room := { frames := 0, cells := 0, slots := 0, locals := 0 }
set_option maxHeartbeats 4000000 in
set_option maxRecDepth 100000 in
theorem kX5_beginOf {l : Launch} {D : va_G} {cI cJ : ClassId} (N : Nat) (b : Nat → Nat) {th : Int32} {w : Int32} {h : Int32} {ms : RowI} {mu : RowI} {mb : RowI} {me : RowI} {mf : RowI} {mt : Int32} {mv : Int32} {ml : Int32} {mk : RowI} {p1 : Int32} {p2 : Int32} {o : Int32} (hM : mX5_beginOf N mb p1 p2 = some o) (sz : Nat) : Met l yX5_beginOf wsX5_beginOf rmX5_beginOf (va_Pc [.ref (b 0), .int p1, .int p2] (Pre D cI cJ (mw b cI th w h ms mu mb me mf mt mv ml mk) sz)) (va_Qi (fun (r : Int32) (_ : Unit) => r = o) (fun _ _ => True) (fun _ => False)) 0 0 (fun _ => False) := by
  refine xofR (cc := cX5_beginOf) (maxL := 3) (ret := (some .int)) rfl (by decide) rfl ?_
  intro p e s m args below meth c ls Q A hQ hAe hx hb hr hml hown hts hlocks hN hK H locs hP hD hS hl
  replace hown : s.vm.findClass RX5 = some m.cls := hown
  replace hl : lv_has ls 3 [(0, .ref (b 0)), (1, .int p1), (2, .int p2)] := hl
  have iX5 : ∀ w ∈ wsX50, w ∈ wsX5_beginOf := by decide +kernel
  have f23 := hts (.fieldLink RX5 23 "CryptSumsModel" "begins" "[I") (by decide +kernel)
  rw [mX5_beginOf] at hM
  refine lv_aload_n hx hb dX5_beginOf_0 rfl (lv_at hl 0 rfl) ?_
  refine va_get (D := D) (ci := 5) (v := .ref (b 3)) (C := RX5) (T := TX5) (N := 12) hx hb hts iX5 hown hK hP 0 rfl rfl 5 (by decide) f23 (fun _ h9 => h9) rfl dX5_beginOf_1 ?_
  refine lv_bipush (v := 36) hx hb dX5_beginOf_4 (by decide) ?_
  refine lv_iload_n hx hb dX5_beginOf_6 rfl (lv_at hl 2 rfl) ?_
  refine lv_imul hx hb dX5_beginOf_7 ?_
  refine lv_iload_n hx hb dX5_beginOf_8 rfl (lv_at hl 1 rfl) ?_
  refine lv_iadd hx hb dX5_beginOf_9 ?_
  obtain ⟨hb10, hM⟩ := it_x hM
  refine va_iald (D := D) hx hb hK hP 3 0 rfl rfl hb10 dX5_beginOf_10 ?_
  obtain rfl := Option.some.inj hM
  subst hQ hAe
  exact W.iret (v := (mb (((36 : Int32) * p2) + p1).toNatClampNeg)) hx hb hr (fun t ht hW => ⟨⟨(mb (((36 : Int32) * p2) + p1).toNatClampNeg), (), rfl, rfl, trivial⟩, hS.F ht⟩) hS.2.2 dX5_beginOf_11
def mX5_isOpen (N : Nat) (ms : RowI) (p1 : Int32) : Option Int32 :=
  (if p1 = (-1 : Int32) then
  some (0 : Int32)
  else
  (if bad p1 36 then none else
  (if (ms p1.toNatClampNeg) = (-1 : Int32) then
  some (0 : Int32)
  else
  some (1 : Int32))))
abbrev rmX5_isOpen : Room := { frames := 0, cells := 0, slots := 0, locals := 0 }
set_option maxHeartbeats 4000000 in
set_option maxRecDepth 100000 in
theorem kX5_isOpen {l : Launch} {D : va_G} {cI cJ : ClassId} (N : Nat) (b : Nat → Nat) {th : Int32} {w : Int32} {h : Int32} {ms : RowI} {mu : RowI} {mb : RowI} {me : RowI} {mf : RowI} {mt : Int32} {mv : Int32} {ml : Int32} {mk : RowI} {p1 : Int32} {o : Int32} (hM : mX5_isOpen N ms p1 = some o) (sz : Nat) : Met l yX5_isOpen wsX5_isOpen rmX5_isOpen (va_Pc [.ref (b 0), .int p1] (Pre D cI cJ (mw b cI th w h ms mu mb me mf mt mv ml mk) sz)) (va_Qi (fun (r : Int32) (_ : Unit) => r = o ∧ bz r) (fun _ _ => True) (fun _ => False)) 0 0 (fun _ => False) := by
  refine xofR (cc := cX5_isOpen) (maxL := 2) (ret := (some .boolean)) rfl (by decide) rfl ?_
  intro p e s m args below meth c ls Q A hQ hAe hx hb hr hml hown hts hlocks hN hK H locs hP hD hS hl
  replace hown : s.vm.findClass RX5 = some m.cls := hown
  replace hl : lv_has ls 2 [(0, .ref (b 0)), (1, .int p1)] := hl
  have iX5 : ∀ w ∈ wsX50, w ∈ wsX5_isOpen := by decide +kernel
  have f16 := hts (.fieldLink RX5 16 "CryptSumsModel" "stones" "[I") (by decide +kernel)
  rw [mX5_isOpen] at hM
  refine lv_iload_n hx hb dX5_isOpen_0 rfl (lv_at hl 1 rfl) ?_
  refine lv_iconst (v := -1) hx hb dX5_isOpen_1 (by decide) ?_
  refine lv_icmp_eq (tgt := 19) hx hb dX5_isOpen_2 (by decide) (fun hcc => ?_) (fun hcc => ?_)
  · replace hM := it_p hcc hM
    refine lv_iconst (v := 0) hx hb dX5_isOpen_19 (by decide) ?_
    obtain rfl := Option.some.inj hM
    subst hQ hAe
    exact W.zret (ty := .boolean) (v := (0 : Int32)) hx hb hr (nb_z (Or.inl rfl)) (fun t ht hW => ⟨⟨(0 : Int32), (), rfl, ⟨rfl, Or.inl rfl⟩, trivial⟩, hS.F ht⟩) hS.2.2 dX5_isOpen_20
  · replace hM := it_n hcc hM
    refine lv_aload_n hx hb dX5_isOpen_5 rfl (lv_at hl 0 rfl) ?_
    refine va_get (D := D) (ci := 5) (v := .ref (b 1)) (C := RX5) (T := TX5) (N := 12) hx hb hts iX5 hown hK hP 0 rfl rfl 3 (by decide) f16 (fun _ h9 => h9) rfl dX5_isOpen_6 ?_
    refine lv_iload_n hx hb dX5_isOpen_9 rfl (lv_at hl 1 rfl) ?_
    obtain ⟨hb10, hM⟩ := it_x hM
    refine va_iald (D := D) hx hb hK hP 1 0 rfl rfl hb10 dX5_isOpen_10 ?_
    refine lv_iconst (v := -1) hx hb dX5_isOpen_11 (by decide) ?_
    refine lv_icmp_eq (tgt := 19) hx hb dX5_isOpen_12 (by decide) (fun hcc => ?_) (fun hcc => ?_)
    · replace hM := it_p hcc hM
      refine lv_iconst (v := 0) hx hb dX5_isOpen_19 (by decide) ?_
      obtain rfl := Option.some.inj hM
      subst hQ hAe
      exact W.zret (ty := .boolean) (v := (0 : Int32)) hx hb hr (nb_z (Or.inl rfl)) (fun t ht hW => ⟨⟨(0 : Int32), (), rfl, ⟨rfl, Or.inl rfl⟩, trivial⟩, hS.F ht⟩) hS.2.2 dX5_isOpen_20
    · replace hM := it_n hcc hM
      refine lv_iconst (v := 1) hx hb dX5_isOpen_15 (by decide) ?_
      refine lv_goto (tgt := 20) hx hb dX5_isOpen_16 (by decide) ?_
      obtain rfl := Option.some.inj hM
      subst hQ hAe
      exact W.zret (ty := .boolean) (v := (1 : Int32)) hx hb hr (nb_z (Or.inr rfl)) (fun t ht hW => ⟨⟨(1 : Int32), (), rfl, ⟨rfl, Or.inr rfl⟩, trivial⟩, hS.F ht⟩) hS.2.2 dX5_isOpen_20
def mX5_isMade_17 (N : Nat) (me : RowI) (mf : RowI) (p3 : Int32) : Nat → Int32 → Int32 → Option Int32
  | 0 => fun _ _ => none
  | n + 1 => fun v4 v5 => (if bad (v4 + (1 : Int32)) 461 then none else
  (if (mf (v4 + (1 : Int32)).toNatClampNeg) ≤ v5 then
  some (0 : Int32)
  else
  (if bad v5 512 then none else
  (if ((me v5.toNatClampNeg) &&& p3) = 0 then
  some (1 : Int32)
  else
  (mX5_isMade_17 N me mf p3 n v4 (v5 + 1))))))
def mX5_isMade (N : Nat) (me : RowI) (mf : RowI) (p1 : Int32) (p2 : Int32) (p3 : Int32) : Option Int32 :=
  (if bad (((46 : Int32) * p1) + p2) 461 then none else
  (mX5_isMade_17 N me mf p3 N (((46 : Int32) * p1) + p2) (mf (((46 : Int32) * p1) + p2).toNatClampNeg)))
abbrev rmX5_isMade : Room := { frames := 0, cells := 0, slots := 0, locals := 0 }
set_option maxHeartbeats 4000000 in
set_option maxRecDepth 100000 in
theorem kX5_isMade {l : Launch} {D : va_G} {cI cJ : ClassId} (N : Nat) (b : Nat → Nat) {th : Int32} {w : Int32} {h : Int32} {ms : RowI} {mu : RowI} {mb : RowI} {me : RowI} {mf : RowI} {mt : Int32} {mv : Int32} {ml : Int32} {mk : RowI} {p1 : Int32} {p2 : Int32} {p3 : Int32} {o : Int32} (hM : mX5_isMade N me mf p1 p2 p3 = some o) (sz : Nat) : Met l yX5_isMade wsX5_isMade rmX5_isMade (va_Pc [.ref (b 0), .int p1, .int p2, .int p3] (Pre D cI cJ (mw b cI th w h ms mu mb me mf mt mv ml mk) sz)) (va_Qi (fun (r : Int32) (_ : Unit) => r = o ∧ bz r) (fun _ _ => True) (fun _ => False)) 0 0 (fun _ => False) := by
  refine xofR (cc := cX5_isMade) (maxL := 6) (ret := (some .boolean)) rfl (by decide) rfl ?_
  intro p e s m args below meth c ls Q A hQ hAe hx hb hr hml hown hts hlocks hN hK H locs hP hD hS hl
  replace hown : s.vm.findClass RX5 = some m.cls := hown
  replace hl : lv_has ls 6 [(0, .ref (b 0)), (1, .int p1), (2, .int p2), (3, .int p3)] := hl
  have iX5 : ∀ w ∈ wsX50, w ∈ wsX5_isMade := by decide +kernel
  have f26 := hts (.fieldLink RX5 26 "CryptSumsModel" "sets" "[I") (by decide +kernel)
  have f29 := hts (.fieldLink RX5 29 "CryptSumsModel" "first" "[I") (by decide +kernel)
  have c17 : ∀ (n : Nat), ∀ (v4 : Int32) (v5 : Int32), mX5_isMade_17 N me mf p3 n v4 v5 = some o → ∀ (H : Heap) (locs : List Loc) (ls : Array Slot), va_P D vwCl (mw b cI th w h ms mu mb me mf mt mv ml mk) H → va_S A s.heap H locs → lv_has ls 6 [(0, .ref (b 0)), (3, .int p3), (4, .int v4), (5, .int v5)] → W p l e rmX5_isMade s m args below meth c H locs 0 0 Q (F0 m 17 ls []) := by
    intro n
    induction n with
    | zero =>
      intro v4 v5 hM
      rw [mX5_isMade_17] at hM
      cases hM
    | succ n ih =>
      intro v4 v5 hM H locs ls hP hS hl
      rw [mX5_isMade_17] at hM
      refine lv_iload hx hb dX5_isMade_17 (lv_at hl 3 rfl) ?_
      refine lv_aload_n hx hb dX5_isMade_19 rfl (lv_at hl 0 rfl) ?_
      refine va_get (D := D) (ci := 5) (v := .ref (b 5)) (C := RX5) (T := TX5) (N := 12) hx hb hts iX5 hown hK hP 0 rfl rfl 7 (by decide) f29 (fun _ h9 => h9) rfl dX5_isMade_20 ?_
      refine lv_iload hx hb dX5_isMade_23 (lv_at hl 2 rfl) ?_
      refine lv_iconst (v := 1) hx hb dX5_isMade_25 (by decide) ?_
      refine lv_iadd hx hb dX5_isMade_26 ?_
      obtain ⟨hb27, hM⟩ := it_x hM
      refine va_iald (D := D) hx hb hK hP 5 0 rfl rfl hb27 dX5_isMade_27 ?_
      refine lv_icmp_ge (tgt := 51) hx hb dX5_isMade_28 (by decide) (fun hcc => ?_) (fun hcc => ?_)
      · replace hM := it_p hcc hM
        refine lv_iconst (v := 0) hx hb dX5_isMade_51 (by decide) ?_
        obtain rfl := Option.some.inj hM
        subst hQ hAe
        exact W.zret (ty := .boolean) (v := (0 : Int32)) hx hb hr (nb_z (Or.inl rfl)) (fun t ht hW => ⟨⟨(0 : Int32), (), rfl, ⟨rfl, Or.inl rfl⟩, trivial⟩, hS.F ht⟩) hS.2.2 dX5_isMade_52
      · replace hM := it_n hcc hM
        refine lv_aload_n hx hb dX5_isMade_31 rfl (lv_at hl 0 rfl) ?_
        refine va_get (D := D) (ci := 5) (v := .ref (b 4)) (C := RX5) (T := TX5) (N := 12) hx hb hts iX5 hown hK hP 0 rfl rfl 6 (by decide) f26 (fun _ h9 => h9) rfl dX5_isMade_32 ?_
        refine lv_iload hx hb dX5_isMade_35 (lv_at hl 3 rfl) ?_
        obtain ⟨hb37, hM⟩ := it_x hM
        refine va_iald (D := D) hx hb hK hP 4 0 rfl rfl hb37 dX5_isMade_37 ?_
        refine lv_iload_n hx hb dX5_isMade_38 rfl (lv_at hl 1 rfl) ?_
        refine lv_iand hx hb dX5_isMade_39 ?_
        refine lv_if_ne (tgt := 45) hx hb dX5_isMade_40 (by decide) (fun hcc => ?_) (fun hcc => ?_)
        · replace hM := it_n hcc hM
          refine lv_iinc (v := (v5 + 1)) (lv' := [(5, .int (v5 + 1)), (0, .ref (b 0)), (3, .int p3), (4, .int v4)]) hx hb dX5_isMade_45 hl (k := 3) rfl (by rfl) (by decide) rfl (fun ls hl => ?_)
          refine lv_goto (tgt := 17) hx hb dX5_isMade_48 (by decide) ?_
          exact ih v4 (v5 + 1) hM H locs ls hP hS (lv_sub hl [1, 2, 3, 0] rfl)
        · replace hM := it_p hcc hM
          refine lv_iconst (v := 1) hx hb dX5_isMade_43 (by decide) ?_
          obtain rfl := Option.some.inj hM
          subst hQ hAe
          exact W.zret (ty := .boolean) (v := (1 : Int32)) hx hb hr (nb_z (Or.inr rfl)) (fun t ht hW => ⟨⟨(1 : Int32), (), rfl, ⟨rfl, Or.inr rfl⟩, trivial⟩, hS.F ht⟩) hS.2.2 dX5_isMade_44
  rw [mX5_isMade] at hM
  refine lv_bipush (v := 46) hx hb dX5_isMade_0 (by decide) ?_
  refine lv_iload_n hx hb dX5_isMade_2 rfl (lv_at hl 1 rfl) ?_
  refine lv_imul hx hb dX5_isMade_3 ?_
  refine lv_iload_n hx hb dX5_isMade_4 rfl (lv_at hl 2 rfl) ?_
  refine lv_iadd hx hb dX5_isMade_5 ?_
  refine lv_istore (lv' := [(4, .int (((46 : Int32) * p1) + p2)), (0, .ref (b 0)), (1, .int p1), (2, .int p2), (3, .int p3)]) hx hb dX5_isMade_6 hl (by decide) rfl (fun ls hl => ?_)
  refine lv_aload_n hx hb dX5_isMade_8 rfl (lv_at hl 1 rfl) ?_
  refine va_get (D := D) (ci := 5) (v := .ref (b 5)) (C := RX5) (T := TX5) (N := 12) hx hb hts iX5 hown hK hP 0 rfl rfl 7 (by decide) f29 (fun _ h9 => h9) rfl dX5_isMade_9 ?_
  refine lv_iload hx hb dX5_isMade_12 (lv_at hl 0 rfl) ?_
  obtain ⟨hb14, hM⟩ := it_x hM
  refine va_iald (D := D) hx hb hK hP 5 0 rfl rfl hb14 dX5_isMade_14 ?_
  refine lv_istore (lv' := [(5, .int (mf (((46 : Int32) * p1) + p2).toNatClampNeg)), (4, .int (((46 : Int32) * p1) + p2)), (0, .ref (b 0)), (1, .int p1), (2, .int p2), (3, .int p3)]) hx hb dX5_isMade_15 hl (by decide) rfl (fun ls hl => ?_)
  exact c17 N (((46 : Int32) * p1) + p2) (mf (((46 : Int32) * p1) + p2).toNatClampNeg) hM H locs ls hP hS (lv_sub hl [2, 5, 1, 0] rfl)
def mX5_isWell_79 (N : Nat) (w : Int32) (h : Int32) (ms : RowI) (mu : RowI) (me : RowI) (mf : RowI) (p2 : Int32) (K16 : Int32 → Int32 → Int32 → Int32 → Option Int32) (v3 : Int32) (v4 : Int32) (v6 : Int32) (s0 : Int32) (s1 : Int32) : Option Int32 :=
  ((mX5_behind N w h v6 p2).bind fun x86 =>
  (K16 v3 v4 (s1 + s0) x86))
def mX5_isWell_48 (N : Nat) (w : Int32) (h : Int32) (ms : RowI) (mu : RowI) (me : RowI) (mf : RowI) (p2 : Int32) (K16 : Int32 → Int32 → Int32 → Int32 → Option Int32) (v3 : Int32) (v4 : Int32) (v5 : Int32) (v6 : Int32) (s0 : Int32) : Option Int32 :=
  (if (v4 &&& s0) = 0 then
  (if s0 = 0 then
  (mX5_isWell_79 N w h ms mu me mf p2 K16 v3 (v4 ||| s0) v6 (1 : Int32) v5)
  else
  (mX5_isWell_79 N w h ms mu me mf p2 K16 v3 (v4 ||| s0) v6 (0 : Int32) v5))
  else
  some (0 : Int32))
def mX5_isWell_16 (N : Nat) (w : Int32) (h : Int32) (ms : RowI) (mu : RowI) (me : RowI) (mf : RowI) (p2 : Int32) : Nat → Int32 → Int32 → Int32 → Int32 → Option Int32
  | 0 => fun _ _ _ _ => none
  | n + 1 => fun v3 v4 v5 v6 => ((mX5_isOpen N ms v6).bind fun x19 =>
  (if x19 = 0 then
  (if bad (((36 : Int32) * p2) + v3) 72 then none else
  ((mX5_sumOf N v4).bind fun x107 =>
  (if bad (((36 : Int32) * p2) + v3) 72 then none else
  (if (mu (((36 : Int32) * p2) + v3).toNatClampNeg) = 0 then
  some (1 : Int32)
  else
  (if ((mu (((36 : Int32) * p2) + v3).toNatClampNeg) - x107) < 0 then
  some (0 : Int32)
  else
  ((mX5_isMade N me mf v5 ((mu (((36 : Int32) * p2) + v3).toNatClampNeg) - x107) v4).bind fun x141 =>
  (if x141 = 0 then
  some (0 : Int32)
  else
  some (1 : Int32))))))))
  else
  (if bad v6 36 then none else
  (if (ms v6.toNatClampNeg) = 0 then
  (mX5_isWell_48 N w h ms mu me mf p2 (mX5_isWell_16 N w h ms mu me mf p2 n) v3 v4 v5 v6 (0 : Int32))
  else
  (if bad v6 36 then none else
  (mX5_isWell_48 N w h ms mu me mf p2 (mX5_isWell_16 N w h ms mu me mf p2 n) v3 v4 v5 v6 ((1 : Int32) <<< ((ms v6.toNatClampNeg) &&& 31))))))))
def mX5_isWell (N : Nat) (w : Int32) (h : Int32) (ms : RowI) (mu : RowI) (mb : RowI) (me : RowI) (mf : RowI) (p1 : Int32) (p2 : Int32) : Option Int32 :=
  ((mX5_beginOf N mb p1 p2).bind fun x3 =>
  (mX5_isWell_16 N w h ms mu me mf p2 N x3 (0 : Int32) (0 : Int32) x3))
abbrev rmX5_isWell : Room := { frames := 1, cells := 0, slots := 0, locals := 25 }
set_option maxHeartbeats 4000000 in
set_option maxRecDepth 100000 in
theorem kX5_isWell {l : Launch} {D : va_G} {cI cJ : ClassId} (N : Nat) (b : Nat → Nat) {th : Int32} {w : Int32} {h : Int32} {ms : RowI} {mu : RowI} {mb : RowI} {me : RowI} {mf : RowI} {mt : Int32} {mv : Int32} {ml : Int32} {mk : RowI} {p1 : Int32} {p2 : Int32} {o : Int32} (hM : mX5_isWell N w h ms mu mb me mf p1 p2 = some o) (sz : Nat) : Met l yX5_isWell wsX5_isWell rmX5_isWell (va_Pc [.ref (b 0), .int p1, .int p2] (Pre D cI cJ (mw b cI th w h ms mu mb me mf mt mv ml mk) sz)) (va_Qi (fun (r : Int32) (_ : Unit) => r = o ∧ bz r) (fun _ _ => True) (fun _ => False)) 0 0 (fun _ => False) := by
  refine xofR (cc := cX5_isWell) (maxL := 8) (ret := (some .boolean)) rfl (by decide) rfl ?_
  intro p e s m args below meth c ls Q A hQ hAe hx hb hr hml hown hts hlocks hN hK H locs hP hD hS hl
  replace hown : s.vm.findClass RX5 = some m.cls := hown
  replace hl : lv_has ls 8 [(0, .ref (b 0)), (1, .int p1), (2, .int p2)] := hl
  have iX5 : ∀ w ∈ wsX50, w ∈ wsX5_isWell := by decide +kernel
  have f16 := hts (.fieldLink RX5 16 "CryptSumsModel" "stones" "[I") (by decide +kernel)
  have f20 := hts (.fieldLink RX5 20 "CryptSumsModel" "sums" "[I") (by decide +kernel)
  have c79 : ∀ (K16 : Int32 → Int32 → Int32 → Int32 → Option Int32) (hK16 : ∀ (v3 : Int32) (v4 : Int32) (v5 : Int32) (v6 : Int32), K16 v3 v4 v5 v6 = some o → ∀ (H : Heap) (locs : List Loc) (ls : Array Slot), va_P D vwCl (mw b cI th w h ms mu mb me mf mt mv ml mk) H → va_S A s.heap H locs → lv_has ls 8 [(0, .ref (b 0)), (2, .int p2), (3, .int v3), (4, .int v4), (5, .int v5), (6, .int v6)] → W p l e rmX5_isWell s m args below meth c H locs 0 0 Q (F0 m 16 ls [])) , ∀ (v3 : Int32) (v4 : Int32) (v6 : Int32) (s0 : Int32) (s1 : Int32), mX5_isWell_79 N w h ms mu me mf p2 K16 v3 v4 v6 s0 s1 = some o → ∀ (H : Heap) (locs : List Loc) (ls : Array Slot), va_P D vwCl (mw b cI th w h ms mu mb me mf mt mv ml mk) H → va_S A s.heap H locs → lv_has ls 8 [(0, .ref (b 0)), (2, .int p2), (3, .int v3), (4, .int v4), (6, .int v6)] → W p l e rmX5_isWell s m args below meth c H locs 0 0 Q (F0 m 79 ls [.int s0, .int s1]) := by
      intro K16 hK16 v3 v4 v6 s0 s1 hM H locs ls hP hS hl
      rw [mX5_isWell_79] at hM
      refine lv_iadd hx hb dX5_isWell_79 ?_
      refine lv_istore (lv' := [(5, .int (s1 + s0)), (0, .ref (b 0)), (2, .int p2), (3, .int v3), (4, .int v4), (6, .int v6)]) hx hb dX5_isWell_80 hl (by decide) rfl (fun ls hl => ?_)
      refine lv_aload_n hx hb dX5_isWell_82 rfl (lv_at hl 1 rfl) ?_
      refine lv_iload hx hb dX5_isWell_83 (lv_at hl 5 rfl) ?_
      refine lv_iload_n hx hb dX5_isWell_85 rfl (lv_at hl 2 rfl) ?_
      obtain ⟨x86, hC, hM⟩ := bd_s hM
      refine cR_i (va_runV (As := [.int v6, .int p2]) (rest := []) ⟨hx, hb, hml, hown, hts⟩ (kX5_behind (l := l) (D := D) (cI := cI) (cJ := cJ) N b (th := th) (w := w) (h := h) (ms := ms) (mu := mu) (mb := mb) (me := me) (mf := mf) (mt := mt) (mv := mv) (ml := ml) (mk := mk) (p1 := v6) (p2 := p2) hC H.size) (cwV 2 hts gX5_isWell_X5_behind rfl rfl rfl (by decide +kernel) ⟨Nat.le_of_ble_eq_true rfl, Nat.le_of_ble_eq_true rfl⟩) (preV [.int v6, .int p2] hN hK hP hD (ci := 5) (q0 := 0) rfl rfl) rfl rfl hl.1 rfl (lv_room (Nat.le_of_ble_eq_true rfl)) dX5_isWell_86 ⟨Nat.le_of_ble_eq_true rfl, Nat.le_of_ble_eq_true rfl⟩) hP hS (fun r u H locs hw hP hS => ?_)
      rw [hw]
      refine lv_istore (lv' := [(6, .int x86), (5, .int (s1 + s0)), (0, .ref (b 0)), (2, .int p2), (3, .int v3), (4, .int v4)]) hx hb dX5_isWell_89 hl (by decide) rfl (fun ls hl => ?_)
      refine lv_goto (tgt := 16) hx hb dX5_isWell_91 (by decide) ?_
      exact hK16 v3 v4 (s1 + s0) x86 hM H locs ls hP hS (lv_sub hl [2, 3, 4, 5, 1, 0] rfl)
  have c48 : ∀ (K16 : Int32 → Int32 → Int32 → Int32 → Option Int32) (hK16 : ∀ (v3 : Int32) (v4 : Int32) (v5 : Int32) (v6 : Int32), K16 v3 v4 v5 v6 = some o → ∀ (H : Heap) (locs : List Loc) (ls : Array Slot), va_P D vwCl (mw b cI th w h ms mu mb me mf mt mv ml mk) H → va_S A s.heap H locs → lv_has ls 8 [(0, .ref (b 0)), (2, .int p2), (3, .int v3), (4, .int v4), (5, .int v5), (6, .int v6)] → W p l e rmX5_isWell s m args below meth c H locs 0 0 Q (F0 m 16 ls [])) , ∀ (v3 : Int32) (v4 : Int32) (v5 : Int32) (v6 : Int32) (s0 : Int32), mX5_isWell_48 N w h ms mu me mf p2 K16 v3 v4 v5 v6 s0 = some o → ∀ (H : Heap) (locs : List Loc) (ls : Array Slot), va_P D vwCl (mw b cI th w h ms mu mb me mf mt mv ml mk) H → va_S A s.heap H locs → lv_has ls 8 [(0, .ref (b 0)), (2, .int p2), (3, .int v3), (4, .int v4), (5, .int v5), (6, .int v6)] → W p l e rmX5_isWell s m args below meth c H locs 0 0 Q (F0 m 48 ls [.int s0]) := by
      intro K16 hK16 v3 v4 v5 v6 s0 hM H locs ls hP hS hl
      rw [mX5_isWell_48] at hM
      refine lv_istore (lv' := [(7, .int s0), (0, .ref (b 0)), (2, .int p2), (3, .int v3), (4, .int v4), (5, .int v5), (6, .int v6)]) hx hb dX5_isWell_48 hl (by decide) rfl (fun ls hl => ?_)
      refine lv_iload hx hb dX5_isWell_50 (lv_at hl 4 rfl) ?_
      refine lv_iload hx hb dX5_isWell_52 (lv_at hl 0 rfl) ?_
      refine lv_iand hx hb dX5_isWell_54 ?_
      refine lv_if_eq (tgt := 60) hx hb dX5_isWell_55 (by decide) (fun hcc => ?_) (fun hcc => ?_)
      · replace hM := it_p hcc hM
        refine lv_iload hx hb dX5_isWell_60 (lv_at hl 4 rfl) ?_
        refine lv_iload hx hb dX5_isWell_62 (lv_at hl 0 rfl) ?_
        refine lv_ior hx hb dX5_isWell_64 ?_
        refine lv_istore (lv' := [(4, .int (v4 ||| s0)), (7, .int s0), (0, .ref (b 0)), (2, .int p2), (3, .int v3), (5, .int v5), (6, .int v6)]) hx hb dX5_isWell_65 hl (by decide) rfl (fun ls hl => ?_)
        refine lv_iload hx hb dX5_isWell_67 (lv_at hl 5 rfl) ?_
        refine lv_iload hx hb dX5_isWell_69 (lv_at hl 1 rfl) ?_
        refine lv_if_ne (tgt := 78) hx hb dX5_isWell_71 (by decide) (fun hcc => ?_) (fun hcc => ?_)
        · replace hM := it_n hcc hM
          refine lv_iconst (v := 0) hx hb dX5_isWell_78 (by decide) ?_
          exact c79 K16 hK16 v3 (v4 ||| s0) v6 (0 : Int32) v5 hM H locs ls hP hS (lv_sub hl [2, 3, 4, 0, 6] rfl)
        · replace hM := it_p hcc hM
          refine lv_iconst (v := 1) hx hb dX5_isWell_74 (by decide) ?_
          refine lv_goto (tgt := 79) hx hb dX5_isWell_75 (by decide) ?_
          exact c79 K16 hK16 v3 (v4 ||| s0) v6 (1 : Int32) v5 hM H locs ls hP hS (lv_sub hl [2, 3, 4, 0, 6] rfl)
      · replace hM := it_n hcc hM
        refine lv_iconst (v := 0) hx hb dX5_isWell_58 (by decide) ?_
        obtain rfl := Option.some.inj hM
        subst hQ hAe
        exact W.zret (ty := .boolean) (v := (0 : Int32)) hx hb hr (nb_z (Or.inl rfl)) (fun t ht hW => ⟨⟨(0 : Int32), (), rfl, ⟨rfl, Or.inl rfl⟩, trivial⟩, hS.F ht⟩) hS.2.2 dX5_isWell_59
  have c16 : ∀ (n : Nat), ∀ (v3 : Int32) (v4 : Int32) (v5 : Int32) (v6 : Int32), mX5_isWell_16 N w h ms mu me mf p2 n v3 v4 v5 v6 = some o → ∀ (H : Heap) (locs : List Loc) (ls : Array Slot), va_P D vwCl (mw b cI th w h ms mu mb me mf mt mv ml mk) H → va_S A s.heap H locs → lv_has ls 8 [(0, .ref (b 0)), (2, .int p2), (3, .int v3), (4, .int v4), (5, .int v5), (6, .int v6)] → W p l e rmX5_isWell s m args below meth c H locs 0 0 Q (F0 m 16 ls []) := by
    intro n
    induction n with
    | zero =>
      intro v3 v4 v5 v6 hM
      rw [mX5_isWell_16] at hM
      cases hM
    | succ n ih =>
      intro v3 v4 v5 v6 hM H locs ls hP hS hl
      rw [mX5_isWell_16] at hM
      refine lv_aload_n hx hb dX5_isWell_16 rfl (lv_at hl 0 rfl) ?_
      refine lv_iload hx hb dX5_isWell_17 (lv_at hl 5 rfl) ?_
      obtain ⟨x19, hC, hM⟩ := bd_s hM
      refine cR_i (va_runV (As := [.int v6]) (rest := []) ⟨hx, hb, hml, hown, hts⟩ (kX5_isOpen (l := l) (D := D) (cI := cI) (cJ := cJ) N b (th := th) (w := w) (h := h) (ms := ms) (mu := mu) (mb := mb) (me := me) (mf := mf) (mt := mt) (mv := mv) (ml := ml) (mk := mk) (p1 := v6) hC H.size) (cwV 1 hts gX5_isWell_X5_isOpen rfl rfl rfl (by decide +kernel) ⟨Nat.le_of_ble_eq_true rfl, Nat.le_of_ble_eq_true rfl⟩) (preV [.int v6] hN hK hP hD (ci := 5) (q0 := 0) rfl rfl) rfl rfl hl.1 rfl (lv_room (Nat.le_of_ble_eq_true rfl)) dX5_isWell_19 ⟨Nat.le_of_ble_eq_true rfl, Nat.le_of_ble_eq_true rfl⟩) hP hS (fun r u H locs hw hP hS => ?_)
      obtain ⟨hw, hz19⟩ := hw
      rw [hw] at hz19
      rw [hw]
      refine lv_if_eq (tgt := 94) hx hb dX5_isWell_22 (by decide) (fun hcc => ?_) (fun hcc => ?_)
      · replace hM := it_p hcc hM
        refine lv_aload_n hx hb dX5_isWell_94 rfl (lv_at hl 0 rfl) ?_
        refine va_get (D := D) (ci := 5) (v := .ref (b 2)) (C := RX5) (T := TX5) (N := 12) hx hb hts iX5 hown hK hP 0 rfl rfl 4 (by decide) f20 (fun _ h9 => h9) rfl dX5_isWell_95 ?_
        refine lv_bipush (v := 36) hx hb dX5_isWell_98 (by decide) ?_
        refine lv_iload_n hx hb dX5_isWell_100 rfl (lv_at hl 1 rfl) ?_
        refine lv_imul hx hb dX5_isWell_101 ?_
        refine lv_iload_n hx hb dX5_isWell_102 rfl (lv_at hl 2 rfl) ?_
        refine lv_iadd hx hb dX5_isWell_103 ?_
        obtain ⟨hb104, hM⟩ := it_x hM
        refine va_iald (D := D) hx hb hK hP 2 0 rfl rfl hb104 dX5_isWell_104 ?_
        refine lv_iload hx hb dX5_isWell_105 (lv_at hl 3 rfl) ?_
        obtain ⟨x107, hC, hM⟩ := bd_s hM
        refine cR_i (va_runS (As := [.int v4]) (rest := [.int (mu (((36 : Int32) * p2) + v3).toNatClampNeg)]) ⟨hx, hb, hml, hown, hts⟩ (kX5_sumOf (l := l) (D := D) (cI := cI) (cJ := cJ) N (p1 := v4) hC H.size) (va_cwS 1 hts gX5_isWell_X5_sumOf rfl rfl rfl (by decide +kernel) ⟨Nat.le_of_ble_eq_true rfl, Nat.le_of_ble_eq_true rfl⟩) (preS [.int v4] hN hK (hP.sub (ws' := zw) [] rfl) (hD.sub (ws' := zw) [] (by decide) rfl)) rfl rfl hl.1 rfl (lv_room (Nat.le_of_ble_eq_true rfl)) dX5_isWell_107 ⟨Nat.le_of_ble_eq_true rfl, Nat.le_of_ble_eq_true rfl⟩) hP hS (fun r u H locs hw hP hS => ?_)
        rw [hw]
        refine lv_isub hx hb dX5_isWell_110 ?_
        refine lv_istore (lv' := [(6, .int ((mu (((36 : Int32) * p2) + v3).toNatClampNeg) - x107)), (0, .ref (b 0)), (2, .int p2), (3, .int v3), (4, .int v4), (5, .int v5)]) hx hb dX5_isWell_111 hl (by decide) rfl (fun ls hl => ?_)
        refine lv_aload_n hx hb dX5_isWell_113 rfl (lv_at hl 1 rfl) ?_
        refine va_get (D := D) (ci := 5) (v := .ref (b 2)) (C := RX5) (T := TX5) (N := 12) hx hb hts iX5 hown hK hP 0 rfl rfl 4 (by decide) f20 (fun _ h9 => h9) rfl dX5_isWell_114 ?_
        refine lv_bipush (v := 36) hx hb dX5_isWell_117 (by decide) ?_
        refine lv_iload_n hx hb dX5_isWell_119 rfl (lv_at hl 2 rfl) ?_
        refine lv_imul hx hb dX5_isWell_120 ?_
        refine lv_iload_n hx hb dX5_isWell_121 rfl (lv_at hl 3 rfl) ?_
        refine lv_iadd hx hb dX5_isWell_122 ?_
        obtain ⟨hb123, hM⟩ := it_x hM
        refine va_iald (D := D) hx hb hK hP 2 0 rfl rfl hb123 dX5_isWell_123 ?_
        refine lv_if_ne (tgt := 129) hx hb dX5_isWell_124 (by decide) (fun hcc => ?_) (fun hcc => ?_)
        · replace hM := it_n hcc hM
          refine lv_iload hx hb dX5_isWell_129 (lv_at hl 0 rfl) ?_
          refine lv_if_lt (tgt := 151) hx hb dX5_isWell_131 (by decide) (fun hcc => ?_) (fun hcc => ?_)
          · replace hM := it_p hcc hM
            refine lv_iconst (v := 0) hx hb dX5_isWell_151 (by decide) ?_
            obtain rfl := Option.some.inj hM
            subst hQ hAe
            exact W.zret (ty := .boolean) (v := (0 : Int32)) hx hb hr (nb_z (Or.inl rfl)) (fun t ht hW => ⟨⟨(0 : Int32), (), rfl, ⟨rfl, Or.inl rfl⟩, trivial⟩, hS.F ht⟩) hS.2.2 dX5_isWell_152
          · replace hM := it_n hcc hM
            refine lv_aload_n hx hb dX5_isWell_134 rfl (lv_at hl 1 rfl) ?_
            refine lv_iload hx hb dX5_isWell_135 (lv_at hl 5 rfl) ?_
            refine lv_iload hx hb dX5_isWell_137 (lv_at hl 0 rfl) ?_
            refine lv_iload hx hb dX5_isWell_139 (lv_at hl 4 rfl) ?_
            obtain ⟨x141, hC, hM⟩ := bd_s hM
            refine cR_i (va_runV (As := [.int v5, .int ((mu (((36 : Int32) * p2) + v3).toNatClampNeg) - x107), .int v4]) (rest := []) ⟨hx, hb, hml, hown, hts⟩ (kX5_isMade (l := l) (D := D) (cI := cI) (cJ := cJ) N b (th := th) (w := w) (h := h) (ms := ms) (mu := mu) (mb := mb) (me := me) (mf := mf) (mt := mt) (mv := mv) (ml := ml) (mk := mk) (p1 := v5) (p2 := ((mu (((36 : Int32) * p2) + v3).toNatClampNeg) - x107)) (p3 := v4) hC H.size) (cwV 3 hts gX5_isWell_X5_isMade rfl rfl rfl (by decide +kernel) ⟨Nat.le_of_ble_eq_true rfl, Nat.le_of_ble_eq_true rfl⟩) (preV [.int v5, .int ((mu (((36 : Int32) * p2) + v3).toNatClampNeg) - x107), .int v4] hN hK hP hD (ci := 5) (q0 := 0) rfl rfl) rfl rfl hl.1 rfl (lv_room (Nat.le_of_ble_eq_true rfl)) dX5_isWell_141 ⟨Nat.le_of_ble_eq_true rfl, Nat.le_of_ble_eq_true rfl⟩) hP hS (fun r u H locs hw hP hS => ?_)
            obtain ⟨hw, hz141⟩ := hw
            rw [hw] at hz141
            rw [hw]
            refine lv_if_eq (tgt := 151) hx hb dX5_isWell_144 (by decide) (fun hcc => ?_) (fun hcc => ?_)
            · replace hM := it_p hcc hM
              refine lv_iconst (v := 0) hx hb dX5_isWell_151 (by decide) ?_
              obtain rfl := Option.some.inj hM
              subst hQ hAe
              exact W.zret (ty := .boolean) (v := (0 : Int32)) hx hb hr (nb_z (Or.inl rfl)) (fun t ht hW => ⟨⟨(0 : Int32), (), rfl, ⟨rfl, Or.inl rfl⟩, trivial⟩, hS.F ht⟩) hS.2.2 dX5_isWell_152
            · replace hM := it_n hcc hM
              refine lv_iconst (v := 1) hx hb dX5_isWell_147 (by decide) ?_
              refine lv_goto (tgt := 152) hx hb dX5_isWell_148 (by decide) ?_
              obtain rfl := Option.some.inj hM
              subst hQ hAe
              exact W.zret (ty := .boolean) (v := (1 : Int32)) hx hb hr (nb_z (Or.inr rfl)) (fun t ht hW => ⟨⟨(1 : Int32), (), rfl, ⟨rfl, Or.inr rfl⟩, trivial⟩, hS.F ht⟩) hS.2.2 dX5_isWell_152
        · replace hM := it_p hcc hM
          refine lv_iconst (v := 1) hx hb dX5_isWell_127 (by decide) ?_
          obtain rfl := Option.some.inj hM
          subst hQ hAe
          exact W.zret (ty := .boolean) (v := (1 : Int32)) hx hb hr (nb_z (Or.inr rfl)) (fun t ht hW => ⟨⟨(1 : Int32), (), rfl, ⟨rfl, Or.inr rfl⟩, trivial⟩, hS.F ht⟩) hS.2.2 dX5_isWell_128
      · replace hM := it_n hcc hM
        refine lv_aload_n hx hb dX5_isWell_25 rfl (lv_at hl 0 rfl) ?_
        refine va_get (D := D) (ci := 5) (v := .ref (b 1)) (C := RX5) (T := TX5) (N := 12) hx hb hts iX5 hown hK hP 0 rfl rfl 3 (by decide) f16 (fun _ h9 => h9) rfl dX5_isWell_26 ?_
        refine lv_iload hx hb dX5_isWell_29 (lv_at hl 5 rfl) ?_
        obtain ⟨hb31, hM⟩ := it_x hM
        refine va_iald (D := D) hx hb hK hP 1 0 rfl rfl hb31 dX5_isWell_31 ?_
        refine lv_if_ne (tgt := 39) hx hb dX5_isWell_32 (by decide) (fun hcc => ?_) (fun hcc => ?_)
        · replace hM := it_n hcc hM
          refine lv_iconst (v := 1) hx hb dX5_isWell_39 (by decide) ?_
          refine lv_aload_n hx hb dX5_isWell_40 rfl (lv_at hl 0 rfl) ?_
          refine va_get (D := D) (ci := 5) (v := .ref (b 1)) (C := RX5) (T := TX5) (N := 12) hx hb hts iX5 hown hK hP 0 rfl rfl 3 (by decide) f16 (fun _ h9 => h9) rfl dX5_isWell_41 ?_
          refine lv_iload hx hb dX5_isWell_44 (lv_at hl 5 rfl) ?_
          obtain ⟨hb46, hM⟩ := it_x hM
          refine va_iald (D := D) hx hb hK hP 1 0 rfl rfl hb46 dX5_isWell_46 ?_
          refine lv_ishl hx hb dX5_isWell_47 ?_
          exact c48 (mX5_isWell_16 N w h ms mu me mf p2 n) ih v3 v4 v5 v6 ((1 : Int32) <<< ((ms v6.toNatClampNeg) &&& 31)) hM H locs ls hP hS (lv_sub hl [0, 1, 2, 3, 4, 5] rfl)
        · replace hM := it_p hcc hM
          refine lv_iconst (v := 0) hx hb dX5_isWell_35 (by decide) ?_
          refine lv_goto (tgt := 48) hx hb dX5_isWell_36 (by decide) ?_
          exact c48 (mX5_isWell_16 N w h ms mu me mf p2 n) ih v3 v4 v5 v6 (0 : Int32) hM H locs ls hP hS (lv_sub hl [0, 1, 2, 3, 4, 5] rfl)
  rw [mX5_isWell] at hM
  refine lv_aload_n hx hb dX5_isWell_0 rfl (lv_at hl 0 rfl) ?_
  refine lv_iload_n hx hb dX5_isWell_1 rfl (lv_at hl 1 rfl) ?_
  refine lv_iload_n hx hb dX5_isWell_2 rfl (lv_at hl 2 rfl) ?_
  obtain ⟨x3, hC, hM⟩ := bd_s hM
  refine cR_i (va_runV (As := [.int p1, .int p2]) (rest := []) ⟨hx, hb, hml, hown, hts⟩ (kX5_beginOf (l := l) (D := D) (cI := cI) (cJ := cJ) N b (th := th) (w := w) (h := h) (ms := ms) (mu := mu) (mb := mb) (me := me) (mf := mf) (mt := mt) (mv := mv) (ml := ml) (mk := mk) (p1 := p1) (p2 := p2) hC H.size) (cwV 2 hts gX5_isWell_X5_beginOf rfl rfl rfl (by decide +kernel) ⟨Nat.le_of_ble_eq_true rfl, Nat.le_of_ble_eq_true rfl⟩) (preV [.int p1, .int p2] hN hK hP hD (ci := 5) (q0 := 0) rfl rfl) rfl rfl hl.1 rfl (lv_room (Nat.le_of_ble_eq_true rfl)) dX5_isWell_3 ⟨Nat.le_of_ble_eq_true rfl, Nat.le_of_ble_eq_true rfl⟩) hP hS (fun r u H locs hw hP hS => ?_)
  rw [hw]
  refine lv_istore_n (lv' := [(3, .int x3), (0, .ref (b 0)), (1, .int p1), (2, .int p2)]) hx hb dX5_isWell_6 rfl hl (by decide) rfl (fun ls hl => ?_)
  refine lv_iconst (v := 0) hx hb dX5_isWell_7 (by decide) ?_
  refine lv_istore (lv' := [(4, .int (0 : Int32)), (3, .int x3), (0, .ref (b 0)), (1, .int p1), (2, .int p2)]) hx hb dX5_isWell_8 hl (by decide) rfl (fun ls hl => ?_)
  refine lv_iconst (v := 0) hx hb dX5_isWell_10 (by decide) ?_
  refine lv_istore (lv' := [(5, .int (0 : Int32)), (4, .int (0 : Int32)), (3, .int x3), (0, .ref (b 0)), (1, .int p1), (2, .int p2)]) hx hb dX5_isWell_11 hl (by decide) rfl (fun ls hl => ?_)
  refine lv_iload_n hx hb dX5_isWell_13 rfl (lv_at hl 2 rfl) ?_
  refine lv_istore (lv' := [(6, .int x3), (5, .int (0 : Int32)), (4, .int (0 : Int32)), (3, .int x3), (0, .ref (b 0)), (1, .int p1), (2, .int p2)]) hx hb dX5_isWell_14 hl (by decide) rfl (fun ls hl => ?_)
  exact c16 N x3 (0 : Int32) (0 : Int32) x3 hM H locs ls hP hS (lv_sub hl [4, 6, 3, 2, 1, 0] rfl)
def mX5_stands_29 (N : Nat) (p1 : Int32) (ms' : RowI) : Option (Int32 × RowI) :=
  (if bad p1 36 then none else
  some ((0 : Int32), (upd ms' p1.toNatClampNeg (0 : Int32))))
def mX5_stands (N : Nat) (w : Int32) (h : Int32) (ms : RowI) (mu : RowI) (mb : RowI) (me : RowI) (mf : RowI) (p1 : Int32) (p2 : Int32) : Option (Int32 × RowI) :=
  (if bad p1 36 then none else
  ((mX5_isWell N w h (upd ms p1.toNatClampNeg p2) mu mb me mf p1 (0 : Int32)).bind fun x10 =>
  (if x10 = 0 then
  (mX5_stands_29 N p1 (upd ms p1.toNatClampNeg p2))
  else
  ((mX5_isWell N w h (upd ms p1.toNatClampNeg p2) mu mb me mf p1 (1 : Int32)).bind fun x19 =>
  (if x19 = 0 then
  (mX5_stands_29 N p1 (upd ms p1.toNatClampNeg p2))
  else
  (if bad p1 36 then none else
  some ((1 : Int32), (upd (upd ms p1.toNatClampNeg p2) p1.toNatClampNeg (0 : Int32)))))))))
abbrev rmX5_stands : Room := { frames := 2, cells := 0, slots := 0, locals := 52 }
set_option maxHeartbeats 4000000 in
set_option maxRecDepth 100000 in
theorem kX5_stands {l : Launch} {D : va_G} {cI cJ : ClassId} (N : Nat) (b : Nat → Nat) {th : Int32} {w : Int32} {h : Int32} {ms : RowI} {mu : RowI} {mb : RowI} {me : RowI} {mf : RowI} {mt : Int32} {mv : Int32} {ml : Int32} {mk : RowI} {p1 : Int32} {p2 : Int32} {o : (Int32 × RowI)} (hM : mX5_stands N w h ms mu mb me mf p1 p2 = some o) (sz : Nat) : Met l yX5_stands wsX5_stands rmX5_stands (va_Pc [.ref (b 0), .int p1, .int p2] (Pre D cI cJ (mw b cI th w h ms mu mb me mf mt mv ml mk) sz)) (va_Qi (fun (r : Int32) (_ : Unit) => r = o.1 ∧ bz r) (aft D (mw b cI th w h ms mu mb me mf mt mv ml mk) sz (fun (_ : Unit) => (mw b cI th w h o.2 mu mb me mf mt mv ml mk))) (va_A (mw b cI th w h ms mu mb me mf mt mv ml mk) sz)) 0 0 (va_A (mw b cI th w h ms mu mb me mf mt mv ml mk) sz) := by
  refine xofW (cc := cX5_stands) (maxL := 4) (ret := (some .boolean)) rfl (by decide) rfl ?_
  intro p e s m args below meth c ls Q A hQ hAe hx hb hr hml hown hts hlocks hnm hN hK H locs hP hD hS hA hl
  replace hown : s.vm.findClass RX5 = some m.cls := hown
  replace hl : lv_has ls 4 [(0, .ref (b 0)), (1, .int p1), (2, .int p2)] := hl
  have iX5 : ∀ w ∈ wsX50, w ∈ wsX5_stands := by decide +kernel
  have f16 := hts (.fieldLink RX5 16 "CryptSumsModel" "stones" "[I") (by decide +kernel)
  have c29 : ∀ (ms' : RowI), mX5_stands_29 N p1 ms' = some o → ∀ (H : Heap) (locs : List Loc) (ls : Array Slot), va_P D vwCl (mw b cI th w h ms' mu mb me mf mt mv ml mk) H → va_D A (mw b cI th w h ms' mu mb me mf mt mv ml mk) → va_S A s.heap H locs → lv_has ls 4 [(0, .ref (b 0)), (1, .int p1)] → W p l e rmX5_stands s m args below meth c H locs 0 0 Q (F0 m 29 ls []) := by
      intro  ms' hM H locs ls hP hD hS hl
      rw [mX5_stands_29] at hM
      refine lv_iconst (v := 0) hx hb dX5_stands_29 (by decide) ?_
      refine lv_istore_n (lv' := [(3, .int (0 : Int32)), (0, .ref (b 0)), (1, .int p1)]) hx hb dX5_stands_30 rfl hl (by decide) rfl (fun ls hl => ?_)
      refine lv_aload_n hx hb dX5_stands_31 rfl (lv_at hl 1 rfl) ?_
      refine va_get (D := D) (ci := 5) (v := .ref (b 1)) (C := RX5) (T := TX5) (N := 12) hx hb hts iX5 hown hK hP 0 rfl rfl 3 (by decide) f16 (fun _ h9 => h9) rfl dX5_stands_32 ?_
      refine lv_iload_n hx hb dX5_stands_35 rfl (lv_at hl 2 rfl) ?_
      refine lv_iconst (v := 0) hx hb dX5_stands_36 (by decide) ?_
      obtain ⟨hb37, hM⟩ := it_x hM
      refine va_iast (D := D) hx hb hK hP hD hS 1 0 rfl rfl hb37 dX5_stands_37 (fun H locs hP hD hS => ?_)
      replace hP : va_P D vwCl (mw b cI th w h (upd ms' p1.toNatClampNeg (0 : Int32)) mu mb me mf mt mv ml mk) H := hP
      replace hD : va_D A (mw b cI th w h (upd ms' p1.toNatClampNeg (0 : Int32)) mu mb me mf mt mv ml mk) := hD
      refine lv_iload_n hx hb dX5_stands_38 rfl (lv_at hl 0 rfl) ?_
      obtain rfl := Option.some.inj hM
      subst hQ hAe
      exact W.zret (ty := .boolean) (v := (0 : Int32)) hx hb hr (nb_z (Or.inl rfl)) (fun t ht hW => ⟨⟨(0 : Int32), (), rfl, ⟨rfl, Or.inl rfl⟩, ⟨by rw [ht]; exact hP, hD⟩⟩, hS.F ht⟩) hS.2.2 dX5_stands_39
  rw [mX5_stands] at hM
  refine lv_aload_n hx hb dX5_stands_0 rfl (lv_at hl 0 rfl) ?_
  refine va_get (D := D) (ci := 5) (v := .ref (b 1)) (C := RX5) (T := TX5) (N := 12) hx hb hts iX5 hown hK hP 0 rfl rfl 3 (by decide) f16 (fun _ h9 => h9) rfl dX5_stands_1 ?_
  refine lv_iload_n hx hb dX5_stands_4 rfl (lv_at hl 1 rfl) ?_
  refine lv_iload_n hx hb dX5_stands_5 rfl (lv_at hl 2 rfl) ?_
  obtain ⟨hb6, hM⟩ := it_x hM
  refine va_iast (D := D) hx hb hK hP hD hS 1 0 rfl rfl hb6 dX5_stands_6 (fun H locs hP hD hS => ?_)
  replace hP : va_P D vwCl (mw b cI th w h (upd ms p1.toNatClampNeg p2) mu mb me mf mt mv ml mk) H := hP
  replace hD : va_D A (mw b cI th w h (upd ms p1.toNatClampNeg p2) mu mb me mf mt mv ml mk) := hD
  refine lv_aload_n hx hb dX5_stands_7 rfl (lv_at hl 0 rfl) ?_
  refine lv_iload_n hx hb dX5_stands_8 rfl (lv_at hl 1 rfl) ?_
  refine lv_iconst (v := 0) hx hb dX5_stands_9 (by decide) ?_
  obtain ⟨x10, hC, hM⟩ := bd_s hM
  refine cR_i (va_runV (As := [.int p1, .int (0 : Int32)]) (rest := []) ⟨hx, hb, hml, hown, hts⟩ (kX5_isWell (l := l) (D := D) (cI := cI) (cJ := cJ) N b (th := th) (w := w) (h := h) (ms := (upd ms p1.toNatClampNeg p2)) (mu := mu) (mb := mb) (me := me) (mf := mf) (mt := mt) (mv := mv) (ml := ml) (mk := mk) (p1 := p1) (p2 := (0 : Int32)) hC H.size) (cwV 2 hts gX5_stands_X5_isWell rfl rfl rfl (by decide +kernel) ⟨Nat.le_of_ble_eq_true rfl, Nat.le_of_ble_eq_true rfl⟩) (preV [.int p1, .int (0 : Int32)] hN hK hP hD (ci := 5) (q0 := 0) rfl rfl) rfl rfl hl.1 rfl (lv_room (Nat.le_of_ble_eq_true rfl)) dX5_stands_10 ⟨Nat.le_of_ble_eq_true rfl, Nat.le_of_ble_eq_true rfl⟩) hP hS (fun r u H locs hw hP hS => ?_)
  obtain ⟨hw, hz10⟩ := hw
  rw [hw] at hz10
  rw [hw]
  refine lv_if_eq (tgt := 29) hx hb dX5_stands_13 (by decide) (fun hcc => ?_) (fun hcc => ?_)
  · replace hM := it_p hcc hM
    exact c29 (upd ms p1.toNatClampNeg p2) hM H locs ls hP hD hS (lv_sub hl [0, 1] rfl)
  · replace hM := it_n hcc hM
    refine lv_aload_n hx hb dX5_stands_16 rfl (lv_at hl 0 rfl) ?_
    refine lv_iload_n hx hb dX5_stands_17 rfl (lv_at hl 1 rfl) ?_
    refine lv_iconst (v := 1) hx hb dX5_stands_18 (by decide) ?_
    obtain ⟨x19, hC, hM⟩ := bd_s hM
    refine cR_i (va_runV (As := [.int p1, .int (1 : Int32)]) (rest := []) ⟨hx, hb, hml, hown, hts⟩ (kX5_isWell (l := l) (D := D) (cI := cI) (cJ := cJ) N b (th := th) (w := w) (h := h) (ms := (upd ms p1.toNatClampNeg p2)) (mu := mu) (mb := mb) (me := me) (mf := mf) (mt := mt) (mv := mv) (ml := ml) (mk := mk) (p1 := p1) (p2 := (1 : Int32)) hC H.size) (cwV 2 hts gX5_stands_X5_isWell rfl rfl rfl (by decide +kernel) ⟨Nat.le_of_ble_eq_true rfl, Nat.le_of_ble_eq_true rfl⟩) (preV [.int p1, .int (1 : Int32)] hN hK hP hD (ci := 5) (q0 := 0) rfl rfl) rfl rfl hl.1 rfl (lv_room (Nat.le_of_ble_eq_true rfl)) dX5_stands_19 ⟨Nat.le_of_ble_eq_true rfl, Nat.le_of_ble_eq_true rfl⟩) hP hS (fun r u H locs hw hP hS => ?_)
    obtain ⟨hw, hz19⟩ := hw
    rw [hw] at hz19
    rw [hw]
    refine lv_if_eq (tgt := 29) hx hb dX5_stands_22 (by decide) (fun hcc => ?_) (fun hcc => ?_)
    · replace hM := it_p hcc hM
      exact c29 (upd ms p1.toNatClampNeg p2) hM H locs ls hP hD hS (lv_sub hl [0, 1] rfl)
    · replace hM := it_n hcc hM
      refine lv_iconst (v := 1) hx hb dX5_stands_25 (by decide) ?_
      refine lv_goto (tgt := 30) hx hb dX5_stands_26 (by decide) ?_
      refine lv_istore_n (lv' := [(3, .int (1 : Int32)), (0, .ref (b 0)), (1, .int p1), (2, .int p2)]) hx hb dX5_stands_30 rfl hl (by decide) rfl (fun ls hl => ?_)
      refine lv_aload_n hx hb dX5_stands_31 rfl (lv_at hl 1 rfl) ?_
      refine va_get (D := D) (ci := 5) (v := .ref (b 1)) (C := RX5) (T := TX5) (N := 12) hx hb hts iX5 hown hK hP 0 rfl rfl 3 (by decide) f16 (fun _ h9 => h9) rfl dX5_stands_32 ?_
      refine lv_iload_n hx hb dX5_stands_35 rfl (lv_at hl 2 rfl) ?_
      refine lv_iconst (v := 0) hx hb dX5_stands_36 (by decide) ?_
      obtain ⟨hb37, hM⟩ := it_x hM
      refine va_iast (D := D) hx hb hK hP hD hS 1 0 rfl rfl hb37 dX5_stands_37 (fun H locs hP hD hS => ?_)
      replace hP : va_P D vwCl (mw b cI th w h (upd (upd ms p1.toNatClampNeg p2) p1.toNatClampNeg (0 : Int32)) mu mb me mf mt mv ml mk) H := hP
      replace hD : va_D A (mw b cI th w h (upd (upd ms p1.toNatClampNeg p2) p1.toNatClampNeg (0 : Int32)) mu mb me mf mt mv ml mk) := hD
      refine lv_iload_n hx hb dX5_stands_38 rfl (lv_at hl 0 rfl) ?_
      obtain rfl := Option.some.inj hM
      subst hQ hAe
      exact W.zret (ty := .boolean) (v := (1 : Int32)) hx hb hr (nb_z (Or.inr rfl)) (fun t ht hW => ⟨⟨(1 : Int32), (), rfl, ⟨rfl, Or.inr rfl⟩, ⟨by rw [ht]; exact hP, hD⟩⟩, hS.F ht⟩) hS.2.2 dX5_stands_39
def mX5_canOf_15 (N : Nat) (w : Int32) (h : Int32) (mu : RowI) (mb : RowI) (me : RowI) (mf : RowI) (p1 : Int32) : Nat → Int32 → Int32 → RowI → Option (Int32 × RowI)
  | 0 => fun _ _ _ => none
  | n + 1 => fun v2 v3 ms' => (if (9 : Int32) < v3 then
  some (v2, ms')
  else
  ((mX5_stands N w h ms' mu mb me mf p1 v3).bind fun x24 =>
  (if x24.1 = 0 then
  (mX5_canOf_15 N w h mu mb me mf p1 n v2 (v3 + 1) x24.2)
  else
  (mX5_canOf_15 N w h mu mb me mf p1 n (v2 ||| ((1 : Int32) <<< (v3 &&& 31))) (v3 + 1) x24.2))))
def mX5_canOf (N : Nat) (w : Int32) (h : Int32) (ms : RowI) (mu : RowI) (mb : RowI) (me : RowI) (mf : RowI) (p1 : Int32) : Option (Int32 × RowI) :=
  (if bad p1 36 then none else
  (if (ms p1.toNatClampNeg) = 0 then
  (mX5_canOf_15 N w h mu mb me mf p1 N (0 : Int32) (1 : Int32) ms)
  else
  some ((0 : Int32), ms)))
abbrev rmX5_canOf : Room := { frames := 3, cells := 0, slots := 0, locals := 75 }
set_option maxHeartbeats 4000000 in
set_option maxRecDepth 100000 in
theorem kX5_canOf {l : Launch} {D : va_G} {cI cJ : ClassId} (N : Nat) (b : Nat → Nat) {th : Int32} {w : Int32} {h : Int32} {ms : RowI} {mu : RowI} {mb : RowI} {me : RowI} {mf : RowI} {mt : Int32} {mv : Int32} {ml : Int32} {mk : RowI} {p1 : Int32} {o : (Int32 × RowI)} (hM : mX5_canOf N w h ms mu mb me mf p1 = some o) (sz : Nat) : Met l yX5_canOf wsX5_canOf rmX5_canOf (va_Pc [.ref (b 0), .int p1] (Pre D cI cJ (mw b cI th w h ms mu mb me mf mt mv ml mk) sz)) (va_Qi (fun (r : Int32) (_ : Unit) => r = o.1) (aft D (mw b cI th w h ms mu mb me mf mt mv ml mk) sz (fun (_ : Unit) => (mw b cI th w h o.2 mu mb me mf mt mv ml mk))) (va_A (mw b cI th w h ms mu mb me mf mt mv ml mk) sz)) 0 0 (va_A (mw b cI th w h ms mu mb me mf mt mv ml mk) sz) := by
  refine xofW (cc := cX5_canOf) (maxL := 4) (ret := (some .int)) rfl (by decide) rfl ?_
  intro p e s m args below meth c ls Q A hQ hAe hx hb hr hml hown hts hlocks hnm hN hK H locs hP hD hS hA hl
  replace hown : s.vm.findClass RX5 = some m.cls := hown
  replace hl : lv_has ls 4 [(0, .ref (b 0)), (1, .int p1)] := hl
  have iX5 : ∀ w ∈ wsX50, w ∈ wsX5_canOf := by decide +kernel
  have f16 := hts (.fieldLink RX5 16 "CryptSumsModel" "stones" "[I") (by decide +kernel)
  have c15 : ∀ (n : Nat), ∀ (v2 : Int32) (v3 : Int32) (ms' : RowI), mX5_canOf_15 N w h mu mb me mf p1 n v2 v3 ms' = some o → ∀ (H : Heap) (locs : List Loc) (ls : Array Slot), va_P D vwCl (mw b cI th w h ms' mu mb me mf mt mv ml mk) H → va_D A (mw b cI th w h ms' mu mb me mf mt mv ml mk) → va_S A s.heap H locs → lv_has ls 4 [(0, .ref (b 0)), (1, .int p1), (2, .int v2), (3, .int v3)] → W p l e rmX5_canOf s m args below meth c H locs 0 0 Q (F0 m 15 ls []) := by
    intro n
    induction n with
    | zero =>
      intro v2 v3 ms' hM
      rw [mX5_canOf_15] at hM
      cases hM
    | succ n ih =>
      intro v2 v3 ms' hM H locs ls hP hD hS hl
      rw [mX5_canOf_15] at hM
      refine lv_iload_n hx hb dX5_canOf_15 rfl (lv_at hl 3 rfl) ?_
      refine lv_bipush (v := 9) hx hb dX5_canOf_16 (by decide) ?_
      refine lv_icmp_gt (tgt := 42) hx hb dX5_canOf_18 (by decide) (fun hcc => ?_) (fun hcc => ?_)
      · replace hM := it_p hcc hM
        refine lv_iload_n hx hb dX5_canOf_42 rfl (lv_at hl 2 rfl) ?_
        obtain rfl := Option.some.inj hM
        subst hQ hAe
        exact W.iret (v := v2) hx hb hr (fun t ht hW => ⟨⟨v2, (), rfl, rfl, ⟨by rw [ht]; exact hP, hD⟩⟩, hS.F ht⟩) hS.2.2 dX5_canOf_43
      · replace hM := it_n hcc hM
        refine lv_aload_n hx hb dX5_canOf_21 rfl (lv_at hl 0 rfl) ?_
        refine lv_iload_n hx hb dX5_canOf_22 rfl (lv_at hl 1 rfl) ?_
        refine lv_iload_n hx hb dX5_canOf_23 rfl (lv_at hl 3 rfl) ?_
        obtain ⟨x24, hC, hM⟩ := bd_s hM
        refine cW_i [0, 1, 2, 3, 4, 5, 6] [] (va_runV (As := [.int p1, .int v3]) (rest := []) ⟨hx, hb, hml, hown, hts⟩ (kX5_stands (l := l) (D := D) (cI := cI) (cJ := cJ) N b (th := th) (w := w) (h := h) (ms := ms') (mu := mu) (mb := mb) (me := me) (mf := mf) (mt := mt) (mv := mv) (ml := ml) (mk := mk) (p1 := p1) (p2 := v3) hC H.size) (cwV 2 hts gX5_canOf_X5_stands rfl rfl rfl (by decide +kernel) ⟨Nat.le_of_ble_eq_true rfl, Nat.le_of_ble_eq_true rfl⟩) (preV [.int p1, .int v3] hN hK hP hD (ci := 5) (q0 := 0) rfl rfl) rfl rfl hl.1 rfl (lv_room (Nat.le_of_ble_eq_true rfl)) dX5_canOf_24 ⟨Nat.le_of_ble_eq_true rfl, Nat.le_of_ble_eq_true rfl⟩) hP hD hS hA rfl (wr := []) rfl (by decide) (by decide) (fun r u24 H locs hw hP hD hS => ?_)
        replace hP : va_P D vwCl (mw b cI th w h x24.2 mu mb me mf mt mv ml mk) H := hP
        replace hD : va_D A (mw b cI th w h x24.2 mu mb me mf mt mv ml mk) := hD
        obtain ⟨hw, hz24⟩ := hw
        rw [hw] at hz24
        rw [hw]
        refine lv_if_eq (tgt := 36) hx hb dX5_canOf_27 (by decide) (fun hcc => ?_) (fun hcc => ?_)
        · replace hM := it_p hcc hM
          refine lv_iinc (v := (v3 + 1)) (lv' := [(3, .int (v3 + 1)), (0, .ref (b 0)), (1, .int p1), (2, .int v2)]) hx hb dX5_canOf_36 hl (k := 3) rfl (by rfl) (by decide) rfl (fun ls hl => ?_)
          refine lv_goto (tgt := 15) hx hb dX5_canOf_39 (by decide) ?_
          exact ih v2 (v3 + 1) x24.2 hM H locs ls hP hD hS (lv_sub hl [1, 2, 3, 0] rfl)
        · replace hM := it_n hcc hM
          refine lv_iload_n hx hb dX5_canOf_30 rfl (lv_at hl 2 rfl) ?_
          refine lv_iconst (v := 1) hx hb dX5_canOf_31 (by decide) ?_
          refine lv_iload_n hx hb dX5_canOf_32 rfl (lv_at hl 3 rfl) ?_
          refine lv_ishl hx hb dX5_canOf_33 ?_
          refine lv_ior hx hb dX5_canOf_34 ?_
          refine lv_istore_n (lv' := [(2, .int (v2 ||| ((1 : Int32) <<< (v3 &&& 31)))), (0, .ref (b 0)), (1, .int p1), (3, .int v3)]) hx hb dX5_canOf_35 rfl hl (by decide) rfl (fun ls hl => ?_)
          refine lv_iinc (v := (v3 + 1)) (lv' := [(3, .int (v3 + 1)), (2, .int (v2 ||| ((1 : Int32) <<< (v3 &&& 31)))), (0, .ref (b 0)), (1, .int p1)]) hx hb dX5_canOf_36 hl (k := 3) rfl (by rfl) (by decide) rfl (fun ls hl => ?_)
          refine lv_goto (tgt := 15) hx hb dX5_canOf_39 (by decide) ?_
          exact ih (v2 ||| ((1 : Int32) <<< (v3 &&& 31))) (v3 + 1) x24.2 hM H locs ls hP hD hS (lv_sub hl [2, 3, 1, 0] rfl)
  rw [mX5_canOf] at hM
  refine lv_iconst (v := 0) hx hb dX5_canOf_0 (by decide) ?_
  refine lv_istore_n (lv' := [(2, .int (0 : Int32)), (0, .ref (b 0)), (1, .int p1)]) hx hb dX5_canOf_1 rfl hl (by decide) rfl (fun ls hl => ?_)
  refine lv_aload_n hx hb dX5_canOf_2 rfl (lv_at hl 1 rfl) ?_
  refine va_get (D := D) (ci := 5) (v := .ref (b 1)) (C := RX5) (T := TX5) (N := 12) hx hb hts iX5 hown hK hP 0 rfl rfl 3 (by decide) f16 (fun _ h9 => h9) rfl dX5_canOf_3 ?_
  refine lv_iload_n hx hb dX5_canOf_6 rfl (lv_at hl 2 rfl) ?_
  obtain ⟨hb7, hM⟩ := it_x hM
  refine va_iald (D := D) hx hb hK hP 1 0 rfl rfl hb7 dX5_canOf_7 ?_
  refine lv_if_eq (tgt := 13) hx hb dX5_canOf_8 (by decide) (fun hcc => ?_) (fun hcc => ?_)
  · replace hM := it_p hcc hM
    refine lv_iconst (v := 1) hx hb dX5_canOf_13 (by decide) ?_
    refine lv_istore_n (lv' := [(3, .int (1 : Int32)), (2, .int (0 : Int32)), (0, .ref (b 0)), (1, .int p1)]) hx hb dX5_canOf_14 rfl hl (by decide) rfl (fun ls hl => ?_)
    exact c15 N (0 : Int32) (1 : Int32) ms hM H locs ls hP hD hS (lv_sub hl [2, 3, 1, 0] rfl)
  · replace hM := it_n hcc hM
    refine lv_iconst (v := 0) hx hb dX5_canOf_11 (by decide) ?_
    obtain rfl := Option.some.inj hM
    subst hQ hAe
    exact W.iret (v := (0 : Int32)) hx hb hr (fun t ht hW => ⟨⟨(0 : Int32), (), rfl, rfl, ⟨by rw [ht]; exact hP, hD⟩⟩, hS.F ht⟩) hS.2.2 dX5_canOf_12
def mX5_isAllWell_2 (N : Nat) (w : Int32) (h : Int32) (ms : RowI) (mu : RowI) (mb : RowI) (me : RowI) (mf : RowI) : Nat → Int32 → Option Int32
  | 0 => fun _ => none
  | n + 1 => fun v1 => (if (w * h) ≤ v1 then
  some (1 : Int32)
  else
  (if bad v1 36 then none else
  (if (ms v1.toNatClampNeg) = (-1 : Int32) then
  (mX5_isAllWell_2 N w h ms mu mb me mf n (v1 + 1))
  else
  ((mX5_isWell N w h ms mu mb me mf v1 (0 : Int32)).bind fun x28 =>
  (if x28 = 0 then
  some (0 : Int32)
  else
  ((mX5_isWell N w h ms mu mb me mf v1 (1 : Int32)).bind fun x37 =>
  (if x37 = 0 then
  some (0 : Int32)
  else
  (mX5_isAllWell_2 N w h ms mu mb me mf n (v1 + 1)))))))))
def mX5_isAllWell (N : Nat) (w : Int32) (h : Int32) (ms : RowI) (mu : RowI) (mb : RowI) (me : RowI) (mf : RowI) : Option Int32 :=
  (mX5_isAllWell_2 N w h ms mu mb me mf N (0 : Int32))
abbrev rmX5_isAllWell : Room := { frames := 2, cells := 0, slots := 0, locals := 52 }
set_option maxHeartbeats 4000000 in
set_option maxRecDepth 100000 in
theorem kX5_isAllWell {l : Launch} {D : va_G} {cI cJ : ClassId} (N : Nat) (b : Nat → Nat) {th : Int32} {w : Int32} {h : Int32} {ms : RowI} {mu : RowI} {mb : RowI} {me : RowI} {mf : RowI} {mt : Int32} {mv : Int32} {ml : Int32} {mk : RowI} {o : Int32} (hM : mX5_isAllWell N w h ms mu mb me mf = some o) (sz : Nat) : Met l yX5_isAllWell wsX5_isAllWell rmX5_isAllWell (va_Pc [.ref (b 0)] (Pre D cI cJ (mw b cI th w h ms mu mb me mf mt mv ml mk) sz)) (va_Qi (fun (r : Int32) (_ : Unit) => r = o ∧ bz r) (fun _ _ => True) (fun _ => False)) 0 0 (fun _ => False) := by
  refine xofR (cc := cX5_isAllWell) (maxL := 2) (ret := (some .boolean)) rfl (by decide) rfl ?_
  intro p e s m args below meth c ls Q A hQ hAe hx hb hr hml hown hts hlocks hN hK H locs hP hD hS hl
  replace hown : s.vm.findClass RX5 = some m.cls := hown
  replace hl : lv_has ls 2 [(0, .ref (b 0))] := hl
  have iX5 : ∀ w ∈ wsX50, w ∈ wsX5_isAllWell := by decide +kernel
  have f13 := hts (.fieldLink RX5 13 "CryptSumsModel" "h" "I") (by decide +kernel)
  have f16 := hts (.fieldLink RX5 16 "CryptSumsModel" "stones" "[I") (by decide +kernel)
  have f7 := hts (.fieldLink RX5 7 "CryptSumsModel" "w" "I") (by decide +kernel)
  have c2 : ∀ (n : Nat), ∀ (v1 : Int32), mX5_isAllWell_2 N w h ms mu mb me mf n v1 = some o → ∀ (H : Heap) (locs : List Loc) (ls : Array Slot), va_P D vwCl (mw b cI th w h ms mu mb me mf mt mv ml mk) H → va_S A s.heap H locs → lv_has ls 2 [(0, .ref (b 0)), (1, .int v1)] → W p l e rmX5_isAllWell s m args below meth c H locs 0 0 Q (F0 m 2 ls []) := by
    intro n
    induction n with
    | zero =>
      intro v1 hM
      rw [mX5_isAllWell_2] at hM
      cases hM
    | succ n ih =>
      intro v1 hM H locs ls hP hS hl
      rw [mX5_isAllWell_2] at hM
      refine lv_iload_n hx hb dX5_isAllWell_2 rfl (lv_at hl 1 rfl) ?_
      refine lv_aload_n hx hb dX5_isAllWell_3 rfl (lv_at hl 0 rfl) ?_
      refine va_get (D := D) (ci := 5) (v := .int w) (C := RX5) (T := TX5) (N := 12) hx hb hts iX5 hown hK hP 0 rfl rfl 1 (by decide) f7 (fun _ h9 => h9) rfl dX5_isAllWell_4 ?_
      refine lv_aload_n hx hb dX5_isAllWell_7 rfl (lv_at hl 0 rfl) ?_
      refine va_get (D := D) (ci := 5) (v := .int h) (C := RX5) (T := TX5) (N := 12) hx hb hts iX5 hown hK hP 0 rfl rfl 2 (by decide) f13 (fun _ h9 => h9) rfl dX5_isAllWell_8 ?_
      refine lv_imul hx hb dX5_isAllWell_11 ?_
      refine lv_icmp_ge (tgt := 51) hx hb dX5_isAllWell_12 (by decide) (fun hcc => ?_) (fun hcc => ?_)
      · replace hM := it_p hcc hM
        refine lv_iconst (v := 1) hx hb dX5_isAllWell_51 (by decide) ?_
        obtain rfl := Option.some.inj hM
        subst hQ hAe
        exact W.zret (ty := .boolean) (v := (1 : Int32)) hx hb hr (nb_z (Or.inr rfl)) (fun t ht hW => ⟨⟨(1 : Int32), (), rfl, ⟨rfl, Or.inr rfl⟩, trivial⟩, hS.F ht⟩) hS.2.2 dX5_isAllWell_52
      · replace hM := it_n hcc hM
        refine lv_aload_n hx hb dX5_isAllWell_15 rfl (lv_at hl 0 rfl) ?_
        refine va_get (D := D) (ci := 5) (v := .ref (b 1)) (C := RX5) (T := TX5) (N := 12) hx hb hts iX5 hown hK hP 0 rfl rfl 3 (by decide) f16 (fun _ h9 => h9) rfl dX5_isAllWell_16 ?_
        refine lv_iload_n hx hb dX5_isAllWell_19 rfl (lv_at hl 1 rfl) ?_
        obtain ⟨hb20, hM⟩ := it_x hM
        refine va_iald (D := D) hx hb hK hP 1 0 rfl rfl hb20 dX5_isAllWell_20 ?_
        refine lv_iconst (v := -1) hx hb dX5_isAllWell_21 (by decide) ?_
        refine lv_icmp_eq (tgt := 45) hx hb dX5_isAllWell_22 (by decide) (fun hcc => ?_) (fun hcc => ?_)
        · replace hM := it_p hcc hM
          refine lv_iinc (v := (v1 + 1)) (lv' := [(1, .int (v1 + 1)), (0, .ref (b 0))]) hx hb dX5_isAllWell_45 hl (k := 1) rfl (by rfl) (by decide) rfl (fun ls hl => ?_)
          refine lv_goto (tgt := 2) hx hb dX5_isAllWell_48 (by decide) ?_
          exact ih (v1 + 1) hM H locs ls hP hS (lv_sub hl [1, 0] rfl)
        · replace hM := it_n hcc hM
          refine lv_aload_n hx hb dX5_isAllWell_25 rfl (lv_at hl 0 rfl) ?_
          refine lv_iload_n hx hb dX5_isAllWell_26 rfl (lv_at hl 1 rfl) ?_
          refine lv_iconst (v := 0) hx hb dX5_isAllWell_27 (by decide) ?_
          obtain ⟨x28, hC, hM⟩ := bd_s hM
          refine cR_i (va_runV (As := [.int v1, .int (0 : Int32)]) (rest := []) ⟨hx, hb, hml, hown, hts⟩ (kX5_isWell (l := l) (D := D) (cI := cI) (cJ := cJ) N b (th := th) (w := w) (h := h) (ms := ms) (mu := mu) (mb := mb) (me := me) (mf := mf) (mt := mt) (mv := mv) (ml := ml) (mk := mk) (p1 := v1) (p2 := (0 : Int32)) hC H.size) (cwV 2 hts gX5_isAllWell_X5_isWell rfl rfl rfl (by decide +kernel) ⟨Nat.le_of_ble_eq_true rfl, Nat.le_of_ble_eq_true rfl⟩) (preV [.int v1, .int (0 : Int32)] hN hK hP hD (ci := 5) (q0 := 0) rfl rfl) rfl rfl hl.1 rfl (lv_room (Nat.le_of_ble_eq_true rfl)) dX5_isAllWell_28 ⟨Nat.le_of_ble_eq_true rfl, Nat.le_of_ble_eq_true rfl⟩) hP hS (fun r u H locs hw hP hS => ?_)
          obtain ⟨hw, hz28⟩ := hw
          rw [hw] at hz28
          rw [hw]
          refine lv_if_eq (tgt := 43) hx hb dX5_isAllWell_31 (by decide) (fun hcc => ?_) (fun hcc => ?_)
          · replace hM := it_p hcc hM
            refine lv_iconst (v := 0) hx hb dX5_isAllWell_43 (by decide) ?_
            obtain rfl := Option.some.inj hM
            subst hQ hAe
            exact W.zret (ty := .boolean) (v := (0 : Int32)) hx hb hr (nb_z (Or.inl rfl)) (fun t ht hW => ⟨⟨(0 : Int32), (), rfl, ⟨rfl, Or.inl rfl⟩, trivial⟩, hS.F ht⟩) hS.2.2 dX5_isAllWell_44
          · replace hM := it_n hcc hM
            refine lv_aload_n hx hb dX5_isAllWell_34 rfl (lv_at hl 0 rfl) ?_
            refine lv_iload_n hx hb dX5_isAllWell_35 rfl (lv_at hl 1 rfl) ?_
            refine lv_iconst (v := 1) hx hb dX5_isAllWell_36 (by decide) ?_
            obtain ⟨x37, hC, hM⟩ := bd_s hM
            refine cR_i (va_runV (As := [.int v1, .int (1 : Int32)]) (rest := []) ⟨hx, hb, hml, hown, hts⟩ (kX5_isWell (l := l) (D := D) (cI := cI) (cJ := cJ) N b (th := th) (w := w) (h := h) (ms := ms) (mu := mu) (mb := mb) (me := me) (mf := mf) (mt := mt) (mv := mv) (ml := ml) (mk := mk) (p1 := v1) (p2 := (1 : Int32)) hC H.size) (cwV 2 hts gX5_isAllWell_X5_isWell rfl rfl rfl (by decide +kernel) ⟨Nat.le_of_ble_eq_true rfl, Nat.le_of_ble_eq_true rfl⟩) (preV [.int v1, .int (1 : Int32)] hN hK hP hD (ci := 5) (q0 := 0) rfl rfl) rfl rfl hl.1 rfl (lv_room (Nat.le_of_ble_eq_true rfl)) dX5_isAllWell_37 ⟨Nat.le_of_ble_eq_true rfl, Nat.le_of_ble_eq_true rfl⟩) hP hS (fun r u H locs hw hP hS => ?_)
            obtain ⟨hw, hz37⟩ := hw
            rw [hw] at hz37
            rw [hw]
            refine lv_if_ne (tgt := 45) hx hb dX5_isAllWell_40 (by decide) (fun hcc => ?_) (fun hcc => ?_)
            · replace hM := it_n hcc hM
              refine lv_iinc (v := (v1 + 1)) (lv' := [(1, .int (v1 + 1)), (0, .ref (b 0))]) hx hb dX5_isAllWell_45 hl (k := 1) rfl (by rfl) (by decide) rfl (fun ls hl => ?_)
              refine lv_goto (tgt := 2) hx hb dX5_isAllWell_48 (by decide) ?_
              exact ih (v1 + 1) hM H locs ls hP hS (lv_sub hl [1, 0] rfl)
            · replace hM := it_p hcc hM
              refine lv_iconst (v := 0) hx hb dX5_isAllWell_43 (by decide) ?_
              obtain rfl := Option.some.inj hM
              subst hQ hAe
              exact W.zret (ty := .boolean) (v := (0 : Int32)) hx hb hr (nb_z (Or.inl rfl)) (fun t ht hW => ⟨⟨(0 : Int32), (), rfl, ⟨rfl, Or.inl rfl⟩, trivial⟩, hS.F ht⟩) hS.2.2 dX5_isAllWell_44
  rw [mX5_isAllWell] at hM
  refine lv_iconst (v := 0) hx hb dX5_isAllWell_0 (by decide) ?_
  refine lv_istore_n (lv' := [(1, .int (0 : Int32)), (0, .ref (b 0))]) hx hb dX5_isAllWell_1 rfl hl (by decide) rfl (fun ls hl => ?_)
  exact c2 N (0 : Int32) hM H locs ls hP hS (lv_sub hl [1, 0] rfl)
def mX5_isOver (N : Nat) (mv : Int32) (ml : Int32) : Option Int32 :=
  (if ml = 0 then
  (if mv = (100 : Int32) then
  some (1 : Int32)
  else
  some (0 : Int32))
  else
  some (1 : Int32))
abbrev rmX5_isOver : Room := { frames := 0, cells := 0, slots := 0, locals := 0 }
set_option maxHeartbeats 4000000 in
set_option maxRecDepth 100000 in
theorem kX5_isOver {l : Launch} {D : va_G} {cI cJ : ClassId} (N : Nat) (b : Nat → Nat) {th : Int32} {w : Int32} {h : Int32} {ms : RowI} {mu : RowI} {mb : RowI} {me : RowI} {mf : RowI} {mt : Int32} {mv : Int32} {ml : Int32} {mk : RowI} {o : Int32} (hM : mX5_isOver N mv ml = some o) (sz : Nat) : Met l yX5_isOver wsX5_isOver rmX5_isOver (va_Pc [.ref (b 0)] (Pre D cI cJ (mw b cI th w h ms mu mb me mf mt mv ml mk) sz)) (va_Qi (fun (r : Int32) (_ : Unit) => r = o ∧ bz r) (fun _ _ => True) (fun _ => False)) 0 0 (fun _ => False) := by
  refine xofR (cc := cX5_isOver) (maxL := 1) (ret := (some .boolean)) rfl (by decide) rfl ?_
  intro p e s m args below meth c ls Q A hQ hAe hx hb hr hml hown hts hlocks hN hK H locs hP hD hS hl
  replace hown : s.vm.findClass RX5 = some m.cls := hown
  replace hl : lv_has ls 1 [(0, .ref (b 0))] := hl
  have iX5 : ∀ w ∈ wsX50, w ∈ wsX5_isOver := by decide +kernel
  have f75 := hts (.fieldLink RX5 75 "CryptSumsModel" "isLong" "Z") (by decide +kernel)
  have f79 := hts (.fieldLink RX5 79 "CryptSumsModel" "ways" "I") (by decide +kernel)
  rw [mX5_isOver] at hM
  refine lv_aload_n hx hb dX5_isOver_0 rfl (lv_at hl 0 rfl) ?_
  refine va_get (D := D) (ci := 5) (v := .int ml) (C := RX5) (T := TX5) (N := 12) hx hb hts iX5 hown hK hP 0 rfl rfl 10 (by decide) f75 (fun _ h9 => h9) rfl dX5_isOver_1 ?_
  refine lv_if_ne (tgt := 16) hx hb dX5_isOver_4 (by decide) (fun hcc => ?_) (fun hcc => ?_)
  · replace hM := it_n hcc hM
    refine lv_iconst (v := 1) hx hb dX5_isOver_16 (by decide) ?_
    refine lv_goto (tgt := 21) hx hb dX5_isOver_17 (by decide) ?_
    obtain rfl := Option.some.inj hM
    subst hQ hAe
    exact W.zret (ty := .boolean) (v := (1 : Int32)) hx hb hr (nb_z (Or.inr rfl)) (fun t ht hW => ⟨⟨(1 : Int32), (), rfl, ⟨rfl, Or.inr rfl⟩, trivial⟩, hS.F ht⟩) hS.2.2 dX5_isOver_21
  · replace hM := it_p hcc hM
    refine lv_aload_n hx hb dX5_isOver_7 rfl (lv_at hl 0 rfl) ?_
    refine va_get (D := D) (ci := 5) (v := .int mv) (C := RX5) (T := TX5) (N := 12) hx hb hts iX5 hown hK hP 0 rfl rfl 9 (by decide) f79 (fun _ h9 => h9) rfl dX5_isOver_8 ?_
    refine lv_bipush (v := 100) hx hb dX5_isOver_11 (by decide) ?_
    refine lv_icmp_ne (tgt := 20) hx hb dX5_isOver_13 (by decide) (fun hcc => ?_) (fun hcc => ?_)
    · replace hM := it_n hcc hM
      refine lv_iconst (v := 0) hx hb dX5_isOver_20 (by decide) ?_
      obtain rfl := Option.some.inj hM
      subst hQ hAe
      exact W.zret (ty := .boolean) (v := (0 : Int32)) hx hb hr (nb_z (Or.inl rfl)) (fun t ht hW => ⟨⟨(0 : Int32), (), rfl, ⟨rfl, Or.inl rfl⟩, trivial⟩, hS.F ht⟩) hS.2.2 dX5_isOver_21
    · replace hM := it_p hcc hM
      refine lv_iconst (v := 1) hx hb dX5_isOver_16 (by decide) ?_
      refine lv_goto (tgt := 21) hx hb dX5_isOver_17 (by decide) ?_
      obtain rfl := Option.some.inj hM
      subst hQ hAe
      exact W.zret (ty := .boolean) (v := (1 : Int32)) hx hb hr (nb_z (Or.inr rfl)) (fun t ht hW => ⟨⟨(1 : Int32), (), rfl, ⟨rfl, Or.inr rfl⟩, trivial⟩, hS.F ht⟩) hS.2.2 dX5_isOver_21
def mX5_told (N : Nat) (mv : Int32) (ml : Int32) : Option Int32 :=
  (if ml = 0 then
  some mv
  else
  some (-1 : Int32))
abbrev rmX5_told : Room := { frames := 0, cells := 0, slots := 0, locals := 0 }
set_option maxHeartbeats 4000000 in
set_option maxRecDepth 100000 in
theorem kX5_told {l : Launch} {D : va_G} {cI cJ : ClassId} (N : Nat) (b : Nat → Nat) {th : Int32} {w : Int32} {h : Int32} {ms : RowI} {mu : RowI} {mb : RowI} {me : RowI} {mf : RowI} {mt : Int32} {mv : Int32} {ml : Int32} {mk : RowI} {o : Int32} (hM : mX5_told N mv ml = some o) (sz : Nat) : Met l yX5_told wsX5_told rmX5_told (va_Pc [.ref (b 0)] (Pre D cI cJ (mw b cI th w h ms mu mb me mf mt mv ml mk) sz)) (va_Qi (fun (r : Int32) (_ : Unit) => r = o) (fun _ _ => True) (fun _ => False)) 0 0 (fun _ => False) := by
  refine xofR (cc := cX5_told) (maxL := 1) (ret := (some .int)) rfl (by decide) rfl ?_
  intro p e s m args below meth c ls Q A hQ hAe hx hb hr hml hown hts hlocks hN hK H locs hP hD hS hl
  replace hown : s.vm.findClass RX5 = some m.cls := hown
  replace hl : lv_has ls 1 [(0, .ref (b 0))] := hl
  have iX5 : ∀ w ∈ wsX50, w ∈ wsX5_told := by decide +kernel
  have f75 := hts (.fieldLink RX5 75 "CryptSumsModel" "isLong" "Z") (by decide +kernel)
  have f79 := hts (.fieldLink RX5 79 "CryptSumsModel" "ways" "I") (by decide +kernel)
  rw [mX5_told] at hM
  refine lv_aload_n hx hb dX5_told_0 rfl (lv_at hl 0 rfl) ?_
  refine va_get (D := D) (ci := 5) (v := .int ml) (C := RX5) (T := TX5) (N := 12) hx hb hts iX5 hown hK hP 0 rfl rfl 10 (by decide) f75 (fun _ h9 => h9) rfl dX5_told_1 ?_
  refine lv_if_eq (tgt := 11) hx hb dX5_told_4 (by decide) (fun hcc => ?_) (fun hcc => ?_)
  · replace hM := it_p hcc hM
    refine lv_aload_n hx hb dX5_told_11 rfl (lv_at hl 0 rfl) ?_
    refine va_get (D := D) (ci := 5) (v := .int mv) (C := RX5) (T := TX5) (N := 12) hx hb hts iX5 hown hK hP 0 rfl rfl 9 (by decide) f79 (fun _ h9 => h9) rfl dX5_told_12 ?_
    obtain rfl := Option.some.inj hM
    subst hQ hAe
    exact W.iret (v := mv) hx hb hr (fun t ht hW => ⟨⟨mv, (), rfl, rfl, trivial⟩, hS.F ht⟩) hS.2.2 dX5_told_15
  · replace hM := it_n hcc hM
    refine lv_iconst (v := -1) hx hb dX5_told_7 (by decide) ?_
    refine lv_goto (tgt := 15) hx hb dX5_told_8 (by decide) ?_
    obtain rfl := Option.some.inj hM
    subst hQ hAe
    exact W.iret (v := (-1 : Int32)) hx hb hr (fun t ht hW => ⟨⟨(-1 : Int32), (), rfl, rfl, trivial⟩, hS.F ht⟩) hS.2.2 dX5_told_15
def mX5_fill_78 (N : Nat) (R : Int32 → Int32 → RowI → RowI → RowI → RowI → RowI → Int32 → Int32 → Int32 → RowI → Int32 → Option (RowI × Int32 × Int32 × Int32 × RowI)) (w : Int32) (h : Int32) (mu : RowI) (mb : RowI) (me : RowI) (mf : RowI) : Nat → Int32 → Int32 → RowI → Int32 → Int32 → Int32 → RowI → Option (RowI × Int32 × Int32 × Int32 × RowI)
  | 0 => fun _ _ _ _ _ _ _ => none
  | n + 1 => fun v2 v3 ms' mt' mv' ml' mk' => (if (9 : Int32) < v3 then
  some (ms', mt', mv', ml', mk')
  else
  ((mX5_isOver N mv' ml').bind fun x85 =>
  (if x85 = 0 then
  (if (mt' + (1 : Int32)) ≤ (4000 : Int32) then
  (if (0 : Int32) = 0 then
  ((mX5_stands N w h ms' mu mb me mf v2 v3).bind fun x130 =>
  (if x130.1 = 0 then
  (mX5_fill_78 N R w h mu mb me mf n v2 (v3 + 1) x130.2 (mt' + (1 : Int32)) mv' (0 : Int32) mk')
  else
  (if bad v2 36 then none else
  ((R w h (upd x130.2 v2.toNatClampNeg v3) mu mb me mf (mt' + (1 : Int32)) mv' (0 : Int32) mk' (v2 + (1 : Int32))).bind fun x150 =>
  (if bad v2 36 then none else
  (mX5_fill_78 N R w h mu mb me mf n v2 (v3 + 1) (upd x150.1 v2.toNatClampNeg (0 : Int32)) x150.2.1 x150.2.2.1 x150.2.2.2.1 x150.2.2.2.2))))))
  else
  (mX5_fill_78 N R w h mu mb me mf n v2 (v3 + 1) ms' (mt' + (1 : Int32)) mv' (0 : Int32) mk'))
  else
  (if (1 : Int32) = 0 then
  ((mX5_stands N w h ms' mu mb me mf v2 v3).bind fun x130 =>
  (if x130.1 = 0 then
  (mX5_fill_78 N R w h mu mb me mf n v2 (v3 + 1) x130.2 (mt' + (1 : Int32)) mv' (1 : Int32) mk')
  else
  (if bad v2 36 then none else
  ((R w h (upd x130.2 v2.toNatClampNeg v3) mu mb me mf (mt' + (1 : Int32)) mv' (1 : Int32) mk' (v2 + (1 : Int32))).bind fun x150 =>
  (if bad v2 36 then none else
  (mX5_fill_78 N R w h mu mb me mf n v2 (v3 + 1) (upd x150.1 v2.toNatClampNeg (0 : Int32)) x150.2.1 x150.2.2.1 x150.2.2.2.1 x150.2.2.2.2))))))
  else
  (mX5_fill_78 N R w h mu mb me mf n v2 (v3 + 1) ms' (mt' + (1 : Int32)) mv' (1 : Int32) mk')))
  else
  some (ms', mt', mv', ml', mk'))))
def mX5_fill_30 (N : Nat) (R : Int32 → Int32 → RowI → RowI → RowI → RowI → RowI → Int32 → Int32 → Int32 → RowI → Int32 → Option (RowI × Int32 × Int32 × Int32 × RowI)) (w : Int32) (h : Int32) (ms : RowI) (mu : RowI) (mb : RowI) (me : RowI) (mf : RowI) (mt : Int32) (mv : Int32) (ml : Int32) (mk : RowI) (v2 : Int32) : Option (RowI × Int32 × Int32 × Int32 × RowI) :=
  (if v2 = (w * h) then
  (if mv = 0 then
  some (ms, mt, (mv + (1 : Int32)), ml, (va_cpy ms mk 0 0 36))
  else
  some (ms, mt, (mv + (1 : Int32)), ml, mk))
  else
  (mX5_fill_78 N R w h mu mb me mf N v2 (1 : Int32) ms mt mv ml mk))
def mX5_fill_2 (N : Nat) (R : Int32 → Int32 → RowI → RowI → RowI → RowI → RowI → Int32 → Int32 → Int32 → RowI → Int32 → Option (RowI × Int32 × Int32 × Int32 × RowI)) (w : Int32) (h : Int32) (ms : RowI) (mu : RowI) (mb : RowI) (me : RowI) (mf : RowI) (mt : Int32) (mv : Int32) (ml : Int32) (mk : RowI) : Nat → Int32 → Option (RowI × Int32 × Int32 × Int32 × RowI)
  | 0 => fun _ => none
  | n + 1 => fun v2 => (if (w * h) ≤ v2 then
  (mX5_fill_30 N R w h ms mu mb me mf mt mv ml mk v2)
  else
  (if bad v2 36 then none else
  (if (ms v2.toNatClampNeg) = 0 then
  (mX5_fill_30 N R w h ms mu mb me mf mt mv ml mk v2)
  else
  (mX5_fill_2 N R w h ms mu mb me mf mt mv ml mk n (v2 + 1)))))
def mX5_fill (N : Nat) : Nat → Int32 → Int32 → RowI → RowI → RowI → RowI → RowI → Int32 → Int32 → Int32 → RowI → Int32 → Option (RowI × Int32 × Int32 × Int32 × RowI)
  | 0 => fun _ _ _ _ _ _ _ _ _ _ _ _ => none
  | d + 1 => fun w h ms mu mb me mf mt mv ml mk p1 => (mX5_fill_2 N (mX5_fill N d) w h ms mu mb me mf mt mv ml mk N p1)
abbrev rmX5_fill (d : Nat) : Room := { frames := 3 + d, cells := 0, slots := 0, locals := 75 + d * 23 }
set_option maxHeartbeats 4000000 in
set_option maxRecDepth 100000 in
theorem kX5_fill {l : Launch} {D : va_G} {cI cJ : ClassId} (N : Nat) (b : Nat → Nat) : ∀ (d : Nat) {th : Int32} {w : Int32} {h : Int32} {ms : RowI} {mu : RowI} {mb : RowI} {me : RowI} {mf : RowI} {mt : Int32} {mv : Int32} {ml : Int32} {mk : RowI} {p1 : Int32} {o : (RowI × Int32 × Int32 × Int32 × RowI)} (hM : mX5_fill N d w h ms mu mb me mf mt mv ml mk p1 = some o) (sz : Nat), Met l yX5_fill wsX5_fill (rmX5_fill d) (va_Pc [.ref (b 0), .int p1] (Pre D cI cJ (mw b cI th w h ms mu mb me mf mt mv ml mk) sz)) (va_Qv (fun (_ : Unit) => True) (aft D (mw b cI th w h ms mu mb me mf mt mv ml mk) sz (fun (_ : Unit) => (mw b cI th w h o.1 mu mb me mf o.2.1 o.2.2.1 o.2.2.2.1 o.2.2.2.2))) (va_A (mw b cI th w h ms mu mb me mf mt mv ml mk) sz)) 0 0 (va_A (mw b cI th w h ms mu mb me mf mt mv ml mk) sz) := by
  intro d
  induction d with
  | zero =>
    intro th w h ms mu mb me mf mt mv ml mk p1 o hM sz
    rw [mX5_fill] at hM
    cases hM
  | succ d ihd =>
    intro th w h ms mu mb me mf mt mv ml mk p1 o hM sz
    refine xofW (cc := cX5_fill) (maxL := 4) (ret := none) rfl (by decide) rfl ?_
    intro p e s m args below meth c ls Q A hQ hAe hx hb hr hml hown hts hlocks hnm hN hK H locs hP hD hS hA hl
    replace hown : s.vm.findClass RX5 = some m.cls := hown
    replace hl : lv_has ls 4 [(0, .ref (b 0)), (1, .int p1)] := hl
    have iX5 : ∀ w ∈ wsX50, w ∈ wsX5_fill := by decide +kernel
    have f13 := hts (.fieldLink RX5 13 "CryptSumsModel" "h" "I") (by decide +kernel)
    have f16 := hts (.fieldLink RX5 16 "CryptSumsModel" "stones" "[I") (by decide +kernel)
    have f32 := hts (.fieldLink RX5 32 "CryptSumsModel" "filled" "[I") (by decide +kernel)
    have f7 := hts (.fieldLink RX5 7 "CryptSumsModel" "w" "I") (by decide +kernel)
    have f75 := hts (.fieldLink RX5 75 "CryptSumsModel" "isLong" "Z") (by decide +kernel)
    have f79 := hts (.fieldLink RX5 79 "CryptSumsModel" "ways" "I") (by decide +kernel)
    have f92 := hts (.fieldLink RX5 92 "CryptSumsModel" "tries" "I") (by decide +kernel)
    have c78 : ∀ (n : Nat), ∀ (v2 : Int32) (v3 : Int32) (ms' : RowI) (mt' : Int32) (mv' : Int32) (ml' : Int32) (mk' : RowI), mX5_fill_78 N (mX5_fill N d) w h mu mb me mf n v2 v3 ms' mt' mv' ml' mk' = some o → ∀ (H : Heap) (locs : List Loc) (ls : Array Slot), va_P D vwCl (mw b cI th w h ms' mu mb me mf mt' mv' ml' mk') H → va_D A (mw b cI th w h ms' mu mb me mf mt' mv' ml' mk') → va_S A s.heap H locs → lv_has ls 4 [(0, .ref (b 0)), (2, .int v2), (3, .int v3)] → W p l e (rmX5_fill (d + 1)) s m args below meth c H locs 0 0 Q (F0 m 78 ls []) := by
      intro n
      induction n with
      | zero =>
        intro v2 v3 ms' mt' mv' ml' mk' hM
        rw [mX5_fill_78] at hM
        cases hM
      | succ n ih =>
        intro v2 v3 ms' mt' mv' ml' mk' hM H locs ls hP hD hS hl
        rw [mX5_fill_78] at hM
        refine lv_iload_n hx hb dX5_fill_78 rfl (lv_at hl 2 rfl) ?_
        refine lv_bipush (v := 9) hx hb dX5_fill_79 (by decide) ?_
        refine lv_icmp_gt (tgt := 166) hx hb dX5_fill_81 (by decide) (fun hcc => ?_) (fun hcc => ?_)
        · replace hM := it_p hcc hM
          obtain rfl := Option.some.inj hM
          subst hQ hAe
          exact W.vret hx hb hr (fun t ht hW => ⟨⟨(), rfl, trivial, ⟨by rw [ht]; exact hP, hD⟩⟩, hS.F ht⟩) hS.2.2 dX5_fill_166
        · replace hM := it_n hcc hM
          refine lv_aload_n hx hb dX5_fill_84 rfl (lv_at hl 0 rfl) ?_
          obtain ⟨x85, hC, hM⟩ := bd_s hM
          refine cR_i (va_runV (As := []) (rest := []) ⟨hx, hb, hml, hown, hts⟩ (kX5_isOver (l := l) (D := D) (cI := cI) (cJ := cJ) N b (th := th) (w := w) (h := h) (ms := ms') (mu := mu) (mb := mb) (me := me) (mf := mf) (mt := mt') (mv := mv') (ml := ml') (mk := mk') hC H.size) (cwV 0 hts gX5_fill_X5_isOver rfl rfl rfl (by decide +kernel) ⟨by dsimp only [rmX5_fill, rmX5_isOver]; omega, by dsimp only [rmX5_fill, rmX5_isOver]; omega⟩) (preV [] hN hK hP hD (ci := 5) (q0 := 0) rfl rfl) rfl rfl hl.1 rfl (lv_room (Nat.le_of_ble_eq_true rfl)) dX5_fill_85 ⟨Nat.le_of_ble_eq_true rfl, Nat.le_of_ble_eq_true rfl⟩) hP hS (fun r u H locs hw hP hS => ?_)
          obtain ⟨hw, hz85⟩ := hw
          rw [hw] at hz85
          rw [hw]
          refine lv_if_ne (tgt := 166) hx hb dX5_fill_88 (by decide) (fun hcc => ?_) (fun hcc => ?_)
          · replace hM := it_n hcc hM
            obtain rfl := Option.some.inj hM
            subst hQ hAe
            exact W.vret hx hb hr (fun t ht hW => ⟨⟨(), rfl, trivial, ⟨by rw [ht]; exact hP, hD⟩⟩, hS.F ht⟩) hS.2.2 dX5_fill_166
          · replace hM := it_p hcc hM
            refine lv_aload_n hx hb dX5_fill_91 rfl (lv_at hl 0 rfl) ?_
            refine lv_dup hx hb dX5_fill_92 rfl ?_
            refine va_get (D := D) (ci := 5) (v := .int mt') (C := RX5) (T := TX5) (N := 12) hx hb hts iX5 hown hK hP 0 rfl rfl 8 (by decide) f92 (fun _ h9 => h9) rfl dX5_fill_93 ?_
            refine lv_iconst (v := 1) hx hb dX5_fill_96 (by decide) ?_
            refine lv_iadd hx hb dX5_fill_97 ?_
            refine va_put (D := D) (ci := 5) (v := .int (mt' + (1 : Int32))) (ty := .int) (C := RX5) (T := TX5) (N := 12) hx hb hts iX5 tyX5 tyX5_ok nmX5 hown hK hP hD hS 0 rfl rfl 8 (by decide) f92 (fun _ h9 => h9) rfl (by decide +kernel) rfl rfl (Nat.le_of_ble_eq_true rfl) dX5_fill_98 (fun H locs hP hD hS => ?_)
            replace hP : va_P D vwCl (mw b cI th w h ms' mu mb me mf (mt' + (1 : Int32)) mv' ml' mk') H := hP
            replace hD : va_D A (mw b cI th w h ms' mu mb me mf (mt' + (1 : Int32)) mv' ml' mk') := hD
            refine lv_aload_n hx hb dX5_fill_101 rfl (lv_at hl 0 rfl) ?_
            refine lv_aload_n hx hb dX5_fill_102 rfl (lv_at hl 0 rfl) ?_
            refine va_get (D := D) (ci := 5) (v := .int (mt' + (1 : Int32))) (C := RX5) (T := TX5) (N := 12) hx hb hts iX5 hown hK hP 0 rfl rfl 8 (by decide) f92 (fun _ h9 => h9) rfl dX5_fill_103 ?_
            refine lv_sipush (v := 4000) hx hb dX5_fill_106 (by decide) ?_
            refine lv_icmp_le (tgt := 116) hx hb dX5_fill_109 (by decide) (fun hcc => ?_) (fun hcc => ?_)
            · replace hM := it_p hcc hM
              refine lv_iconst (v := 0) hx hb dX5_fill_116 (by decide) ?_
              refine va_put (D := D) (ci := 5) (v := .int (0 : Int32)) (ty := .boolean) (C := RX5) (T := TX5) (N := 12) hx hb hts iX5 tyX5 tyX5_ok nmX5 hown hK hP hD hS 0 rfl rfl 10 (by decide) f75 (fun _ h9 => h9) rfl (by decide +kernel) rfl rfl (Nat.le_of_ble_eq_true rfl) dX5_fill_117 (fun H locs hP hD hS => ?_)
              replace hP : va_P D vwCl (mw b cI th w h ms' mu mb me mf (mt' + (1 : Int32)) mv' (0 : Int32) mk') H := hP
              replace hD : va_D A (mw b cI th w h ms' mu mb me mf (mt' + (1 : Int32)) mv' (0 : Int32) mk') := hD
              refine lv_aload_n hx hb dX5_fill_120 rfl (lv_at hl 0 rfl) ?_
              refine va_get (D := D) (ci := 5) (v := .int (0 : Int32)) (C := RX5) (T := TX5) (N := 12) hx hb hts iX5 hown hK hP 0 rfl rfl 10 (by decide) f75 (fun _ h9 => h9) rfl dX5_fill_121 ?_
              refine lv_if_ne (tgt := 160) hx hb dX5_fill_124 (by decide) (fun hcc => ?_) (fun hcc => ?_)
              · replace hM := it_n hcc hM
                refine lv_iinc (v := (v3 + 1)) (lv' := [(3, .int (v3 + 1)), (0, .ref (b 0)), (2, .int v2)]) hx hb dX5_fill_160 hl (k := 2) rfl (by rfl) (by decide) rfl (fun ls hl => ?_)
                refine lv_goto (tgt := 78) hx hb dX5_fill_163 (by decide) ?_
                exact ih v2 (v3 + 1) ms' (mt' + (1 : Int32)) mv' (0 : Int32) mk' hM H locs ls hP hD hS (lv_sub hl [1, 2, 0] rfl)
              · replace hM := it_p hcc hM
                refine lv_aload_n hx hb dX5_fill_127 rfl (lv_at hl 0 rfl) ?_
                refine lv_iload_n hx hb dX5_fill_128 rfl (lv_at hl 1 rfl) ?_
                refine lv_iload_n hx hb dX5_fill_129 rfl (lv_at hl 2 rfl) ?_
                obtain ⟨x130, hC, hM⟩ := bd_s hM
                refine cW_i [0, 1, 2, 3, 4, 5, 6] [] (va_runV (As := [.int v2, .int v3]) (rest := []) ⟨hx, hb, hml, hown, hts⟩ (kX5_stands (l := l) (D := D) (cI := cI) (cJ := cJ) N b (th := th) (w := w) (h := h) (ms := ms') (mu := mu) (mb := mb) (me := me) (mf := mf) (mt := (mt' + (1 : Int32))) (mv := mv') (ml := (0 : Int32)) (mk := mk') (p1 := v2) (p2 := v3) hC H.size) (cwV 2 hts gX5_fill_X5_stands rfl rfl rfl (by decide +kernel) ⟨by dsimp only [rmX5_fill, rmX5_stands]; omega, by dsimp only [rmX5_fill, rmX5_stands]; omega⟩) (preV [.int v2, .int v3] hN hK hP hD (ci := 5) (q0 := 0) rfl rfl) rfl rfl hl.1 rfl (lv_room (Nat.le_of_ble_eq_true rfl)) dX5_fill_130 ⟨Nat.le_of_ble_eq_true rfl, Nat.le_of_ble_eq_true rfl⟩) hP hD hS hA rfl (wr := []) rfl (by decide) (by decide) (fun r u130 H locs hw hP hD hS => ?_)
                replace hP : va_P D vwCl (mw b cI th w h x130.2 mu mb me mf (mt' + (1 : Int32)) mv' (0 : Int32) mk') H := hP
                replace hD : va_D A (mw b cI th w h x130.2 mu mb me mf (mt' + (1 : Int32)) mv' (0 : Int32) mk') := hD
                obtain ⟨hw, hz130⟩ := hw
                rw [hw] at hz130
                rw [hw]
                refine lv_if_ne (tgt := 139) hx hb dX5_fill_133 (by decide) (fun hcc => ?_) (fun hcc => ?_)
                · replace hM := it_n hcc hM
                  refine lv_aload_n hx hb dX5_fill_139 rfl (lv_at hl 0 rfl) ?_
                  refine va_get (D := D) (ci := 5) (v := .ref (b 1)) (C := RX5) (T := TX5) (N := 12) hx hb hts iX5 hown hK hP 0 rfl rfl 3 (by decide) f16 (fun _ h9 => h9) rfl dX5_fill_140 ?_
                  refine lv_iload_n hx hb dX5_fill_143 rfl (lv_at hl 1 rfl) ?_
                  refine lv_iload_n hx hb dX5_fill_144 rfl (lv_at hl 2 rfl) ?_
                  obtain ⟨hb145, hM⟩ := it_x hM
                  refine va_iast (D := D) hx hb hK hP hD hS 1 0 rfl rfl hb145 dX5_fill_145 (fun H locs hP hD hS => ?_)
                  replace hP : va_P D vwCl (mw b cI th w h (upd x130.2 v2.toNatClampNeg v3) mu mb me mf (mt' + (1 : Int32)) mv' (0 : Int32) mk') H := hP
                  replace hD : va_D A (mw b cI th w h (upd x130.2 v2.toNatClampNeg v3) mu mb me mf (mt' + (1 : Int32)) mv' (0 : Int32) mk') := hD
                  refine lv_aload_n hx hb dX5_fill_146 rfl (lv_at hl 0 rfl) ?_
                  refine lv_iload_n hx hb dX5_fill_147 rfl (lv_at hl 1 rfl) ?_
                  refine lv_iconst (v := 1) hx hb dX5_fill_148 (by decide) ?_
                  refine lv_iadd hx hb dX5_fill_149 ?_
                  obtain ⟨x150, hC, hM⟩ := bd_s hM
                  refine cW_v [0, 1, 2, 3, 4, 5, 6] [] (va_runV (As := [.int (v2 + (1 : Int32))]) (rest := []) ⟨hx, hb, hml, hown, hts⟩ (ihd (th := th) (w := w) (h := h) (ms := (upd x130.2 v2.toNatClampNeg v3)) (mu := mu) (mb := mb) (me := me) (mf := mf) (mt := (mt' + (1 : Int32))) (mv := mv') (ml := (0 : Int32)) (mk := mk') (p1 := (v2 + (1 : Int32))) hC H.size) (cwV 1 hts gX5_fill_X5_fill rfl rfl rfl (by decide +kernel) ⟨by dsimp only [rmX5_fill, rmX5_fill]; omega, by dsimp only [rmX5_fill, rmX5_fill]; omega⟩) (preV [.int (v2 + (1 : Int32))] hN hK hP hD (ci := 5) (q0 := 0) rfl rfl) rfl rfl hl.1 rfl (lv_room (Nat.le_of_ble_eq_true rfl)) dX5_fill_150 ⟨Nat.le_of_ble_eq_true rfl, Nat.le_of_ble_eq_true rfl⟩) hP hD hS hA rfl (wr := []) rfl (by decide) (by decide) (fun u150 H locs hw hP hD hS => ?_)
                  replace hP : va_P D vwCl (mw b cI th w h x150.1 mu mb me mf x150.2.1 x150.2.2.1 x150.2.2.2.1 x150.2.2.2.2) H := hP
                  replace hD : va_D A (mw b cI th w h x150.1 mu mb me mf x150.2.1 x150.2.2.1 x150.2.2.2.1 x150.2.2.2.2) := hD
                  refine lv_aload_n hx hb dX5_fill_153 rfl (lv_at hl 0 rfl) ?_
                  refine va_get (D := D) (ci := 5) (v := .ref (b 1)) (C := RX5) (T := TX5) (N := 12) hx hb hts iX5 hown hK hP 0 rfl rfl 3 (by decide) f16 (fun _ h9 => h9) rfl dX5_fill_154 ?_
                  refine lv_iload_n hx hb dX5_fill_157 rfl (lv_at hl 1 rfl) ?_
                  refine lv_iconst (v := 0) hx hb dX5_fill_158 (by decide) ?_
                  obtain ⟨hb159, hM⟩ := it_x hM
                  refine va_iast (D := D) hx hb hK hP hD hS 1 0 rfl rfl hb159 dX5_fill_159 (fun H locs hP hD hS => ?_)
                  replace hP : va_P D vwCl (mw b cI th w h (upd x150.1 v2.toNatClampNeg (0 : Int32)) mu mb me mf x150.2.1 x150.2.2.1 x150.2.2.2.1 x150.2.2.2.2) H := hP
                  replace hD : va_D A (mw b cI th w h (upd x150.1 v2.toNatClampNeg (0 : Int32)) mu mb me mf x150.2.1 x150.2.2.1 x150.2.2.2.1 x150.2.2.2.2) := hD
                  refine lv_iinc (v := (v3 + 1)) (lv' := [(3, .int (v3 + 1)), (0, .ref (b 0)), (2, .int v2)]) hx hb dX5_fill_160 hl (k := 2) rfl (by rfl) (by decide) rfl (fun ls hl => ?_)
                  refine lv_goto (tgt := 78) hx hb dX5_fill_163 (by decide) ?_
                  exact ih v2 (v3 + 1) (upd x150.1 v2.toNatClampNeg (0 : Int32)) x150.2.1 x150.2.2.1 x150.2.2.2.1 x150.2.2.2.2 hM H locs ls hP hD hS (lv_sub hl [1, 2, 0] rfl)
                · replace hM := it_p hcc hM
                  refine lv_goto (tgt := 160) hx hb dX5_fill_136 (by decide) ?_
                  refine lv_iinc (v := (v3 + 1)) (lv' := [(3, .int (v3 + 1)), (0, .ref (b 0)), (2, .int v2)]) hx hb dX5_fill_160 hl (k := 2) rfl (by rfl) (by decide) rfl (fun ls hl => ?_)
                  refine lv_goto (tgt := 78) hx hb dX5_fill_163 (by decide) ?_
                  exact ih v2 (v3 + 1) x130.2 (mt' + (1 : Int32)) mv' (0 : Int32) mk' hM H locs ls hP hD hS (lv_sub hl [1, 2, 0] rfl)
            · replace hM := it_n hcc hM
              refine lv_iconst (v := 1) hx hb dX5_fill_112 (by decide) ?_
              refine lv_goto (tgt := 117) hx hb dX5_fill_113 (by decide) ?_
              refine va_put (D := D) (ci := 5) (v := .int (1 : Int32)) (ty := .boolean) (C := RX5) (T := TX5) (N := 12) hx hb hts iX5 tyX5 tyX5_ok nmX5 hown hK hP hD hS 0 rfl rfl 10 (by decide) f75 (fun _ h9 => h9) rfl (by decide +kernel) rfl rfl (Nat.le_of_ble_eq_true rfl) dX5_fill_117 (fun H locs hP hD hS => ?_)
              replace hP : va_P D vwCl (mw b cI th w h ms' mu mb me mf (mt' + (1 : Int32)) mv' (1 : Int32) mk') H := hP
              replace hD : va_D A (mw b cI th w h ms' mu mb me mf (mt' + (1 : Int32)) mv' (1 : Int32) mk') := hD
              refine lv_aload_n hx hb dX5_fill_120 rfl (lv_at hl 0 rfl) ?_
              refine va_get (D := D) (ci := 5) (v := .int (1 : Int32)) (C := RX5) (T := TX5) (N := 12) hx hb hts iX5 hown hK hP 0 rfl rfl 10 (by decide) f75 (fun _ h9 => h9) rfl dX5_fill_121 ?_
              refine lv_if_ne (tgt := 160) hx hb dX5_fill_124 (by decide) (fun hcc => ?_) (fun hcc => ?_)
              · replace hM := it_n hcc hM
                refine lv_iinc (v := (v3 + 1)) (lv' := [(3, .int (v3 + 1)), (0, .ref (b 0)), (2, .int v2)]) hx hb dX5_fill_160 hl (k := 2) rfl (by rfl) (by decide) rfl (fun ls hl => ?_)
                refine lv_goto (tgt := 78) hx hb dX5_fill_163 (by decide) ?_
                exact ih v2 (v3 + 1) ms' (mt' + (1 : Int32)) mv' (1 : Int32) mk' hM H locs ls hP hD hS (lv_sub hl [1, 2, 0] rfl)
              · replace hM := it_p hcc hM
                refine lv_aload_n hx hb dX5_fill_127 rfl (lv_at hl 0 rfl) ?_
                refine lv_iload_n hx hb dX5_fill_128 rfl (lv_at hl 1 rfl) ?_
                refine lv_iload_n hx hb dX5_fill_129 rfl (lv_at hl 2 rfl) ?_
                obtain ⟨x130, hC, hM⟩ := bd_s hM
                refine cW_i [0, 1, 2, 3, 4, 5, 6] [] (va_runV (As := [.int v2, .int v3]) (rest := []) ⟨hx, hb, hml, hown, hts⟩ (kX5_stands (l := l) (D := D) (cI := cI) (cJ := cJ) N b (th := th) (w := w) (h := h) (ms := ms') (mu := mu) (mb := mb) (me := me) (mf := mf) (mt := (mt' + (1 : Int32))) (mv := mv') (ml := (1 : Int32)) (mk := mk') (p1 := v2) (p2 := v3) hC H.size) (cwV 2 hts gX5_fill_X5_stands rfl rfl rfl (by decide +kernel) ⟨by dsimp only [rmX5_fill, rmX5_stands]; omega, by dsimp only [rmX5_fill, rmX5_stands]; omega⟩) (preV [.int v2, .int v3] hN hK hP hD (ci := 5) (q0 := 0) rfl rfl) rfl rfl hl.1 rfl (lv_room (Nat.le_of_ble_eq_true rfl)) dX5_fill_130 ⟨Nat.le_of_ble_eq_true rfl, Nat.le_of_ble_eq_true rfl⟩) hP hD hS hA rfl (wr := []) rfl (by decide) (by decide) (fun r u130 H locs hw hP hD hS => ?_)
                replace hP : va_P D vwCl (mw b cI th w h x130.2 mu mb me mf (mt' + (1 : Int32)) mv' (1 : Int32) mk') H := hP
                replace hD : va_D A (mw b cI th w h x130.2 mu mb me mf (mt' + (1 : Int32)) mv' (1 : Int32) mk') := hD
                obtain ⟨hw, hz130⟩ := hw
                rw [hw] at hz130
                rw [hw]
                refine lv_if_ne (tgt := 139) hx hb dX5_fill_133 (by decide) (fun hcc => ?_) (fun hcc => ?_)
                · replace hM := it_n hcc hM
                  refine lv_aload_n hx hb dX5_fill_139 rfl (lv_at hl 0 rfl) ?_
                  refine va_get (D := D) (ci := 5) (v := .ref (b 1)) (C := RX5) (T := TX5) (N := 12) hx hb hts iX5 hown hK hP 0 rfl rfl 3 (by decide) f16 (fun _ h9 => h9) rfl dX5_fill_140 ?_
                  refine lv_iload_n hx hb dX5_fill_143 rfl (lv_at hl 1 rfl) ?_
                  refine lv_iload_n hx hb dX5_fill_144 rfl (lv_at hl 2 rfl) ?_
                  obtain ⟨hb145, hM⟩ := it_x hM
                  refine va_iast (D := D) hx hb hK hP hD hS 1 0 rfl rfl hb145 dX5_fill_145 (fun H locs hP hD hS => ?_)
                  replace hP : va_P D vwCl (mw b cI th w h (upd x130.2 v2.toNatClampNeg v3) mu mb me mf (mt' + (1 : Int32)) mv' (1 : Int32) mk') H := hP
                  replace hD : va_D A (mw b cI th w h (upd x130.2 v2.toNatClampNeg v3) mu mb me mf (mt' + (1 : Int32)) mv' (1 : Int32) mk') := hD
                  refine lv_aload_n hx hb dX5_fill_146 rfl (lv_at hl 0 rfl) ?_
                  refine lv_iload_n hx hb dX5_fill_147 rfl (lv_at hl 1 rfl) ?_
                  refine lv_iconst (v := 1) hx hb dX5_fill_148 (by decide) ?_
                  refine lv_iadd hx hb dX5_fill_149 ?_
                  obtain ⟨x150, hC, hM⟩ := bd_s hM
                  refine cW_v [0, 1, 2, 3, 4, 5, 6] [] (va_runV (As := [.int (v2 + (1 : Int32))]) (rest := []) ⟨hx, hb, hml, hown, hts⟩ (ihd (th := th) (w := w) (h := h) (ms := (upd x130.2 v2.toNatClampNeg v3)) (mu := mu) (mb := mb) (me := me) (mf := mf) (mt := (mt' + (1 : Int32))) (mv := mv') (ml := (1 : Int32)) (mk := mk') (p1 := (v2 + (1 : Int32))) hC H.size) (cwV 1 hts gX5_fill_X5_fill rfl rfl rfl (by decide +kernel) ⟨by dsimp only [rmX5_fill, rmX5_fill]; omega, by dsimp only [rmX5_fill, rmX5_fill]; omega⟩) (preV [.int (v2 + (1 : Int32))] hN hK hP hD (ci := 5) (q0 := 0) rfl rfl) rfl rfl hl.1 rfl (lv_room (Nat.le_of_ble_eq_true rfl)) dX5_fill_150 ⟨Nat.le_of_ble_eq_true rfl, Nat.le_of_ble_eq_true rfl⟩) hP hD hS hA rfl (wr := []) rfl (by decide) (by decide) (fun u150 H locs hw hP hD hS => ?_)
                  replace hP : va_P D vwCl (mw b cI th w h x150.1 mu mb me mf x150.2.1 x150.2.2.1 x150.2.2.2.1 x150.2.2.2.2) H := hP
                  replace hD : va_D A (mw b cI th w h x150.1 mu mb me mf x150.2.1 x150.2.2.1 x150.2.2.2.1 x150.2.2.2.2) := hD
                  refine lv_aload_n hx hb dX5_fill_153 rfl (lv_at hl 0 rfl) ?_
                  refine va_get (D := D) (ci := 5) (v := .ref (b 1)) (C := RX5) (T := TX5) (N := 12) hx hb hts iX5 hown hK hP 0 rfl rfl 3 (by decide) f16 (fun _ h9 => h9) rfl dX5_fill_154 ?_
                  refine lv_iload_n hx hb dX5_fill_157 rfl (lv_at hl 1 rfl) ?_
                  refine lv_iconst (v := 0) hx hb dX5_fill_158 (by decide) ?_
                  obtain ⟨hb159, hM⟩ := it_x hM
                  refine va_iast (D := D) hx hb hK hP hD hS 1 0 rfl rfl hb159 dX5_fill_159 (fun H locs hP hD hS => ?_)
                  replace hP : va_P D vwCl (mw b cI th w h (upd x150.1 v2.toNatClampNeg (0 : Int32)) mu mb me mf x150.2.1 x150.2.2.1 x150.2.2.2.1 x150.2.2.2.2) H := hP
                  replace hD : va_D A (mw b cI th w h (upd x150.1 v2.toNatClampNeg (0 : Int32)) mu mb me mf x150.2.1 x150.2.2.1 x150.2.2.2.1 x150.2.2.2.2) := hD
                  refine lv_iinc (v := (v3 + 1)) (lv' := [(3, .int (v3 + 1)), (0, .ref (b 0)), (2, .int v2)]) hx hb dX5_fill_160 hl (k := 2) rfl (by rfl) (by decide) rfl (fun ls hl => ?_)
                  refine lv_goto (tgt := 78) hx hb dX5_fill_163 (by decide) ?_
                  exact ih v2 (v3 + 1) (upd x150.1 v2.toNatClampNeg (0 : Int32)) x150.2.1 x150.2.2.1 x150.2.2.2.1 x150.2.2.2.2 hM H locs ls hP hD hS (lv_sub hl [1, 2, 0] rfl)
                · replace hM := it_p hcc hM
                  refine lv_goto (tgt := 160) hx hb dX5_fill_136 (by decide) ?_
                  refine lv_iinc (v := (v3 + 1)) (lv' := [(3, .int (v3 + 1)), (0, .ref (b 0)), (2, .int v2)]) hx hb dX5_fill_160 hl (k := 2) rfl (by rfl) (by decide) rfl (fun ls hl => ?_)
                  refine lv_goto (tgt := 78) hx hb dX5_fill_163 (by decide) ?_
                  exact ih v2 (v3 + 1) x130.2 (mt' + (1 : Int32)) mv' (1 : Int32) mk' hM H locs ls hP hD hS (lv_sub hl [1, 2, 0] rfl)
    have c30 : ∀ (v2 : Int32), mX5_fill_30 N (mX5_fill N d) w h ms mu mb me mf mt mv ml mk v2 = some o → ∀ (H : Heap) (locs : List Loc) (ls : Array Slot), va_P D vwCl (mw b cI th w h ms mu mb me mf mt mv ml mk) H → va_D A (mw b cI th w h ms mu mb me mf mt mv ml mk) → va_S A s.heap H locs → lv_has ls 4 [(0, .ref (b 0)), (2, .int v2)] → W p l e (rmX5_fill (d + 1)) s m args below meth c H locs 0 0 Q (F0 m 30 ls []) := by
        intro  v2 hM H locs ls hP hD hS hl
        rw [mX5_fill_30] at hM
        refine lv_iload_n hx hb dX5_fill_30 rfl (lv_at hl 1 rfl) ?_
        refine lv_aload_n hx hb dX5_fill_31 rfl (lv_at hl 0 rfl) ?_
        refine va_get (D := D) (ci := 5) (v := .int w) (C := RX5) (T := TX5) (N := 12) hx hb hts iX5 hown hK hP 0 rfl rfl 1 (by decide) f7 (fun _ h9 => h9) rfl dX5_fill_32 ?_
        refine lv_aload_n hx hb dX5_fill_35 rfl (lv_at hl 0 rfl) ?_
        refine va_get (D := D) (ci := 5) (v := .int h) (C := RX5) (T := TX5) (N := 12) hx hb hts iX5 hown hK hP 0 rfl rfl 2 (by decide) f13 (fun _ h9 => h9) rfl dX5_fill_36 ?_
        refine lv_imul hx hb dX5_fill_39 ?_
        refine lv_icmp_ne (tgt := 76) hx hb dX5_fill_40 (by decide) (fun hcc => ?_) (fun hcc => ?_)
        · replace hM := it_n hcc hM
          refine lv_iconst (v := 1) hx hb dX5_fill_76 (by decide) ?_
          refine lv_istore_n (lv' := [(3, .int (1 : Int32)), (0, .ref (b 0)), (2, .int v2)]) hx hb dX5_fill_77 rfl hl (by decide) rfl (fun ls hl => ?_)
          exact c78 N v2 (1 : Int32) ms mt mv ml mk hM H locs ls hP hD hS (lv_sub hl [1, 2, 0] rfl)
        · replace hM := it_p hcc hM
          refine lv_aload_n hx hb dX5_fill_43 rfl (lv_at hl 0 rfl) ?_
          refine va_get (D := D) (ci := 5) (v := .int mv) (C := RX5) (T := TX5) (N := 12) hx hb hts iX5 hown hK hP 0 rfl rfl 9 (by decide) f79 (fun _ h9 => h9) rfl dX5_fill_44 ?_
          refine lv_if_ne (tgt := 65) hx hb dX5_fill_47 (by decide) (fun hcc => ?_) (fun hcc => ?_)
          · replace hM := it_n hcc hM
            refine lv_aload_n hx hb dX5_fill_65 rfl (lv_at hl 0 rfl) ?_
            refine lv_dup hx hb dX5_fill_66 rfl ?_
            refine va_get (D := D) (ci := 5) (v := .int mv) (C := RX5) (T := TX5) (N := 12) hx hb hts iX5 hown hK hP 0 rfl rfl 9 (by decide) f79 (fun _ h9 => h9) rfl dX5_fill_67 ?_
            refine lv_iconst (v := 1) hx hb dX5_fill_70 (by decide) ?_
            refine lv_iadd hx hb dX5_fill_71 ?_
            refine va_put (D := D) (ci := 5) (v := .int (mv + (1 : Int32))) (ty := .int) (C := RX5) (T := TX5) (N := 12) hx hb hts iX5 tyX5 tyX5_ok nmX5 hown hK hP hD hS 0 rfl rfl 9 (by decide) f79 (fun _ h9 => h9) rfl (by decide +kernel) rfl rfl (Nat.le_of_ble_eq_true rfl) dX5_fill_72 (fun H locs hP hD hS => ?_)
            replace hP : va_P D vwCl (mw b cI th w h ms mu mb me mf mt (mv + (1 : Int32)) ml mk) H := hP
            replace hD : va_D A (mw b cI th w h ms mu mb me mf mt (mv + (1 : Int32)) ml mk) := hD
            obtain rfl := Option.some.inj hM
            subst hQ hAe
            exact W.vret hx hb hr (fun t ht hW => ⟨⟨(), rfl, trivial, ⟨by rw [ht]; exact hP, hD⟩⟩, hS.F ht⟩) hS.2.2 dX5_fill_75
          · replace hM := it_p hcc hM
            refine lv_aload_n hx hb dX5_fill_50 rfl (lv_at hl 0 rfl) ?_
            refine va_get (D := D) (ci := 5) (v := .ref (b 1)) (C := RX5) (T := TX5) (N := 12) hx hb hts iX5 hown hK hP 0 rfl rfl 3 (by decide) f16 (fun _ h9 => h9) rfl dX5_fill_51 ?_
            refine lv_iconst (v := 0) hx hb dX5_fill_54 (by decide) ?_
            refine lv_aload_n hx hb dX5_fill_55 rfl (lv_at hl 0 rfl) ?_
            refine va_get (D := D) (ci := 5) (v := .ref (b 6)) (C := RX5) (T := TX5) (N := 12) hx hb hts iX5 hown hK hP 0 rfl rfl 11 (by decide) f32 (fun _ h9 => h9) rfl dX5_fill_56 ?_
            refine lv_iconst (v := 0) hx hb dX5_fill_59 (by decide) ?_
            refine lv_bipush (v := 36) hx hb dX5_fill_60 (by decide) ?_
            refine va_copyi (D := D) hx hb (hml.trans hl.1.symm) hown (hts (.methodLink RX5 82 arraycopyName) (by decide +kernel)) (hts (.native arraycopyName) (by decide +kernel)) (hts (.static arraycopyName) (by decide +kernel)) (hts (.initialized "java/lang/System") (by decide +kernel)) hK hP hD hS 1 6 0 0 rfl rfl rfl rfl rfl (by decide) (by decide) (by decide) (by decide) (by decide) (fun i hi => rfl) (by dsimp only [rmX5_fill]; omega) (by dsimp only [rmX5_fill, List.map, List.sum_nil]; exact cp_ok (by have h9 := nfw; omega)) dX5_fill_62 (fun H locs hP hD hS => ?_)
            replace hP : va_P D vwCl (mw b cI th w h ms mu mb me mf mt mv ml (va_cpy ms mk 0 0 36)) H := hP
            replace hD : va_D A (mw b cI th w h ms mu mb me mf mt mv ml (va_cpy ms mk 0 0 36)) := hD
            refine lv_aload_n hx hb dX5_fill_65 rfl (lv_at hl 0 rfl) ?_
            refine lv_dup hx hb dX5_fill_66 rfl ?_
            refine va_get (D := D) (ci := 5) (v := .int mv) (C := RX5) (T := TX5) (N := 12) hx hb hts iX5 hown hK hP 0 rfl rfl 9 (by decide) f79 (fun _ h9 => h9) rfl dX5_fill_67 ?_
            refine lv_iconst (v := 1) hx hb dX5_fill_70 (by decide) ?_
            refine lv_iadd hx hb dX5_fill_71 ?_
            refine va_put (D := D) (ci := 5) (v := .int (mv + (1 : Int32))) (ty := .int) (C := RX5) (T := TX5) (N := 12) hx hb hts iX5 tyX5 tyX5_ok nmX5 hown hK hP hD hS 0 rfl rfl 9 (by decide) f79 (fun _ h9 => h9) rfl (by decide +kernel) rfl rfl (Nat.le_of_ble_eq_true rfl) dX5_fill_72 (fun H locs hP hD hS => ?_)
            replace hP : va_P D vwCl (mw b cI th w h ms mu mb me mf mt (mv + (1 : Int32)) ml (va_cpy ms mk 0 0 36)) H := hP
            replace hD : va_D A (mw b cI th w h ms mu mb me mf mt (mv + (1 : Int32)) ml (va_cpy ms mk 0 0 36)) := hD
            obtain rfl := Option.some.inj hM
            subst hQ hAe
            exact W.vret hx hb hr (fun t ht hW => ⟨⟨(), rfl, trivial, ⟨by rw [ht]; exact hP, hD⟩⟩, hS.F ht⟩) hS.2.2 dX5_fill_75
    have c2 : ∀ (n : Nat), ∀ (v2 : Int32), mX5_fill_2 N (mX5_fill N d) w h ms mu mb me mf mt mv ml mk n v2 = some o → ∀ (H : Heap) (locs : List Loc) (ls : Array Slot), va_P D vwCl (mw b cI th w h ms mu mb me mf mt mv ml mk) H → va_D A (mw b cI th w h ms mu mb me mf mt mv ml mk) → va_S A s.heap H locs → lv_has ls 4 [(0, .ref (b 0)), (2, .int v2)] → W p l e (rmX5_fill (d + 1)) s m args below meth c H locs 0 0 Q (F0 m 2 ls []) := by
      intro n
      induction n with
      | zero =>
        intro v2 hM
        rw [mX5_fill_2] at hM
        cases hM
      | succ n ih =>
        intro v2 hM H locs ls hP hD hS hl
        rw [mX5_fill_2] at hM
        refine lv_iload_n hx hb dX5_fill_2 rfl (lv_at hl 1 rfl) ?_
        refine lv_aload_n hx hb dX5_fill_3 rfl (lv_at hl 0 rfl) ?_
        refine va_get (D := D) (ci := 5) (v := .int w) (C := RX5) (T := TX5) (N := 12) hx hb hts iX5 hown hK hP 0 rfl rfl 1 (by decide) f7 (fun _ h9 => h9) rfl dX5_fill_4 ?_
        refine lv_aload_n hx hb dX5_fill_7 rfl (lv_at hl 0 rfl) ?_
        refine va_get (D := D) (ci := 5) (v := .int h) (C := RX5) (T := TX5) (N := 12) hx hb hts iX5 hown hK hP 0 rfl rfl 2 (by decide) f13 (fun _ h9 => h9) rfl dX5_fill_8 ?_
        refine lv_imul hx hb dX5_fill_11 ?_
        refine lv_icmp_ge (tgt := 30) hx hb dX5_fill_12 (by decide) (fun hcc => ?_) (fun hcc => ?_)
        · replace hM := it_p hcc hM
          exact c30 v2 hM H locs ls hP hD hS (lv_sub hl [0, 1] rfl)
        · replace hM := it_n hcc hM
          refine lv_aload_n hx hb dX5_fill_15 rfl (lv_at hl 0 rfl) ?_
          refine va_get (D := D) (ci := 5) (v := .ref (b 1)) (C := RX5) (T := TX5) (N := 12) hx hb hts iX5 hown hK hP 0 rfl rfl 3 (by decide) f16 (fun _ h9 => h9) rfl dX5_fill_16 ?_
          refine lv_iload_n hx hb dX5_fill_19 rfl (lv_at hl 1 rfl) ?_
          obtain ⟨hb20, hM⟩ := it_x hM
          refine va_iald (D := D) hx hb hK hP 1 0 rfl rfl hb20 dX5_fill_20 ?_
          refine lv_if_eq (tgt := 30) hx hb dX5_fill_21 (by decide) (fun hcc => ?_) (fun hcc => ?_)
          · replace hM := it_p hcc hM
            exact c30 v2 hM H locs ls hP hD hS (lv_sub hl [0, 1] rfl)
          · replace hM := it_n hcc hM
            refine lv_iinc (v := (v2 + 1)) (lv' := [(2, .int (v2 + 1)), (0, .ref (b 0))]) hx hb dX5_fill_24 hl (k := 1) rfl (by rfl) (by decide) rfl (fun ls hl => ?_)
            refine lv_goto (tgt := 2) hx hb dX5_fill_27 (by decide) ?_
            exact ih (v2 + 1) hM H locs ls hP hD hS (lv_sub hl [1, 0] rfl)
    rw [mX5_fill] at hM
    refine lv_iload_n hx hb dX5_fill_0 rfl (lv_at hl 1 rfl) ?_
    refine lv_istore_n (lv' := [(2, .int p1), (0, .ref (b 0)), (1, .int p1)]) hx hb dX5_fill_1 rfl hl (by decide) rfl (fun ls hl => ?_)
    exact c2 N p1 hM H locs ls hP hD hS (lv_sub hl [1, 0] rfl)
def mX5_look_17 (N : Nat) (w : Int32) (h : Int32) (ms : RowI) (mu : RowI) (mb : RowI) (me : RowI) (mf : RowI) : Nat → Int32 → Int32 → Int32 → Int32 → RowI → Option (RowI × Int32 × Int32 × Int32 × RowI)
  | 0 => fun _ _ _ _ _ => none
  | n + 1 => fun v1 mt' mv' ml' mk' => (if (36 : Int32) ≤ v1 then
  ((mX5_isAllWell N w h ms mu mb me mf).bind fun x37 =>
  (if x37 = 0 then
  some (ms, mt', mv', ml', mk')
  else
  ((mX5_fill N 40 w h ms mu mb me mf mt' mv' ml' mk' (0 : Int32)).bind fun x45 =>
  some (x45.1, x45.2.1, x45.2.2.1, x45.2.2.2.1, x45.2.2.2.2))))
  else
  (if bad v1 36 then none else
  (mX5_look_17 N w h ms mu mb me mf n (v1 + 1) mt' mv' ml' (upd mk' v1.toNatClampNeg (0 : Int32)))))
def mX5_look (N : Nat) (w : Int32) (h : Int32) (ms : RowI) (mu : RowI) (mb : RowI) (me : RowI) (mf : RowI) (mt : Int32) (mv : Int32) (ml : Int32) (mk : RowI) : Option (RowI × Int32 × Int32 × Int32 × RowI) :=
  (mX5_look_17 N w h ms mu mb me mf N (0 : Int32) (0 : Int32) (0 : Int32) (0 : Int32) mk)
abbrev rmX5_look : Room := { frames := 44, cells := 0, slots := 0, locals := 1018 }
set_option maxHeartbeats 4000000 in
set_option maxRecDepth 100000 in
theorem kX5_look {l : Launch} {D : va_G} {cI cJ : ClassId} (N : Nat) (b : Nat → Nat) {th : Int32} {w : Int32} {h : Int32} {ms : RowI} {mu : RowI} {mb : RowI} {me : RowI} {mf : RowI} {mt : Int32} {mv : Int32} {ml : Int32} {mk : RowI} {o : (RowI × Int32 × Int32 × Int32 × RowI)} (hM : mX5_look N w h ms mu mb me mf mt mv ml mk = some o) (sz : Nat) : Met l yX5_look wsX5_look rmX5_look (va_Pc [.ref (b 0)] (Pre D cI cJ (mw b cI th w h ms mu mb me mf mt mv ml mk) sz)) (va_Qv (fun (_ : Unit) => True) (aft D (mw b cI th w h ms mu mb me mf mt mv ml mk) sz (fun (_ : Unit) => (mw b cI th w h o.1 mu mb me mf o.2.1 o.2.2.1 o.2.2.2.1 o.2.2.2.2))) (va_A (mw b cI th w h ms mu mb me mf mt mv ml mk) sz)) 0 0 (va_A (mw b cI th w h ms mu mb me mf mt mv ml mk) sz) := by
  refine xofW (cc := cX5_look) (maxL := 2) (ret := none) rfl (by decide) rfl ?_
  intro p e s m args below meth c ls Q A hQ hAe hx hb hr hml hown hts hlocks hnm hN hK H locs hP hD hS hA hl
  replace hown : s.vm.findClass RX5 = some m.cls := hown
  replace hl : lv_has ls 2 [(0, .ref (b 0))] := hl
  have iX5 : ∀ w ∈ wsX50, w ∈ wsX5_look := by decide +kernel
  have f32 := hts (.fieldLink RX5 32 "CryptSumsModel" "filled" "[I") (by decide +kernel)
  have f75 := hts (.fieldLink RX5 75 "CryptSumsModel" "isLong" "Z") (by decide +kernel)
  have f79 := hts (.fieldLink RX5 79 "CryptSumsModel" "ways" "I") (by decide +kernel)
  have f92 := hts (.fieldLink RX5 92 "CryptSumsModel" "tries" "I") (by decide +kernel)
  have c17 : ∀ (n : Nat), ∀ (v1 : Int32) (mt' : Int32) (mv' : Int32) (ml' : Int32) (mk' : RowI), mX5_look_17 N w h ms mu mb me mf n v1 mt' mv' ml' mk' = some o → ∀ (H : Heap) (locs : List Loc) (ls : Array Slot), va_P D vwCl (mw b cI th w h ms mu mb me mf mt' mv' ml' mk') H → va_D A (mw b cI th w h ms mu mb me mf mt' mv' ml' mk') → va_S A s.heap H locs → lv_has ls 2 [(0, .ref (b 0)), (1, .int v1)] → W p l e rmX5_look s m args below meth c H locs 0 0 Q (F0 m 17 ls []) := by
    intro n
    induction n with
    | zero =>
      intro v1 mt' mv' ml' mk' hM
      rw [mX5_look_17] at hM
      cases hM
    | succ n ih =>
      intro v1 mt' mv' ml' mk' hM H locs ls hP hD hS hl
      rw [mX5_look_17] at hM
      refine lv_iload_n hx hb dX5_look_17 rfl (lv_at hl 1 rfl) ?_
      refine lv_bipush (v := 36) hx hb dX5_look_18 (by decide) ?_
      refine lv_icmp_ge (tgt := 36) hx hb dX5_look_20 (by decide) (fun hcc => ?_) (fun hcc => ?_)
      · replace hM := it_p hcc hM
        refine lv_aload_n hx hb dX5_look_36 rfl (lv_at hl 0 rfl) ?_
        obtain ⟨x37, hC, hM⟩ := bd_s hM
        refine cR_i (va_runV (As := []) (rest := []) ⟨hx, hb, hml, hown, hts⟩ (kX5_isAllWell (l := l) (D := D) (cI := cI) (cJ := cJ) N b (th := th) (w := w) (h := h) (ms := ms) (mu := mu) (mb := mb) (me := me) (mf := mf) (mt := mt') (mv := mv') (ml := ml') (mk := mk') hC H.size) (cwV 0 hts gX5_look_X5_isAllWell rfl rfl rfl (by decide +kernel) ⟨Nat.le_of_ble_eq_true rfl, Nat.le_of_ble_eq_true rfl⟩) (preV [] hN hK hP hD (ci := 5) (q0 := 0) rfl rfl) rfl rfl hl.1 rfl (lv_room (Nat.le_of_ble_eq_true rfl)) dX5_look_37 ⟨Nat.le_of_ble_eq_true rfl, Nat.le_of_ble_eq_true rfl⟩) hP hS (fun r u H locs hw hP hS => ?_)
        obtain ⟨hw, hz37⟩ := hw
        rw [hw] at hz37
        rw [hw]
        refine lv_if_eq (tgt := 48) hx hb dX5_look_40 (by decide) (fun hcc => ?_) (fun hcc => ?_)
        · replace hM := it_p hcc hM
          obtain rfl := Option.some.inj hM
          subst hQ hAe
          exact W.vret hx hb hr (fun t ht hW => ⟨⟨(), rfl, trivial, ⟨by rw [ht]; exact hP, hD⟩⟩, hS.F ht⟩) hS.2.2 dX5_look_48
        · replace hM := it_n hcc hM
          refine lv_aload_n hx hb dX5_look_43 rfl (lv_at hl 0 rfl) ?_
          refine lv_iconst (v := 0) hx hb dX5_look_44 (by decide) ?_
          obtain ⟨x45, hC, hM⟩ := bd_s hM
          refine cW_v [0, 1, 2, 3, 4, 5, 6] [] (va_runV (As := [.int (0 : Int32)]) (rest := []) ⟨hx, hb, hml, hown, hts⟩ (kX5_fill (l := l) (D := D) (cI := cI) (cJ := cJ) N b 40 (th := th) (w := w) (h := h) (ms := ms) (mu := mu) (mb := mb) (me := me) (mf := mf) (mt := mt') (mv := mv') (ml := ml') (mk := mk') (p1 := (0 : Int32)) hC H.size) (cwV 1 hts gX5_look_X5_fill rfl rfl rfl (by decide +kernel) ⟨Nat.le_of_ble_eq_true rfl, Nat.le_of_ble_eq_true rfl⟩) (preV [.int (0 : Int32)] hN hK hP hD (ci := 5) (q0 := 0) rfl rfl) rfl rfl hl.1 rfl (lv_room (Nat.le_of_ble_eq_true rfl)) dX5_look_45 ⟨Nat.le_of_ble_eq_true rfl, Nat.le_of_ble_eq_true rfl⟩) hP hD hS hA rfl (wr := []) rfl (by decide) (by decide) (fun u45 H locs hw hP hD hS => ?_)
          replace hP : va_P D vwCl (mw b cI th w h x45.1 mu mb me mf x45.2.1 x45.2.2.1 x45.2.2.2.1 x45.2.2.2.2) H := hP
          replace hD : va_D A (mw b cI th w h x45.1 mu mb me mf x45.2.1 x45.2.2.1 x45.2.2.2.1 x45.2.2.2.2) := hD
          obtain rfl := Option.some.inj hM
          subst hQ hAe
          exact W.vret hx hb hr (fun t ht hW => ⟨⟨(), rfl, trivial, ⟨by rw [ht]; exact hP, hD⟩⟩, hS.F ht⟩) hS.2.2 dX5_look_48
      · replace hM := it_n hcc hM
        refine lv_aload_n hx hb dX5_look_23 rfl (lv_at hl 0 rfl) ?_
        refine va_get (D := D) (ci := 5) (v := .ref (b 6)) (C := RX5) (T := TX5) (N := 12) hx hb hts iX5 hown hK hP 0 rfl rfl 11 (by decide) f32 (fun _ h9 => h9) rfl dX5_look_24 ?_
        refine lv_iload_n hx hb dX5_look_27 rfl (lv_at hl 1 rfl) ?_
        refine lv_iconst (v := 0) hx hb dX5_look_28 (by decide) ?_
        obtain ⟨hb29, hM⟩ := it_x hM
        refine va_iast (D := D) hx hb hK hP hD hS 6 0 rfl rfl hb29 dX5_look_29 (fun H locs hP hD hS => ?_)
        replace hP : va_P D vwCl (mw b cI th w h ms mu mb me mf mt' mv' ml' (upd mk' v1.toNatClampNeg (0 : Int32))) H := hP
        replace hD : va_D A (mw b cI th w h ms mu mb me mf mt' mv' ml' (upd mk' v1.toNatClampNeg (0 : Int32))) := hD
        refine lv_iinc (v := (v1 + 1)) (lv' := [(1, .int (v1 + 1)), (0, .ref (b 0))]) hx hb dX5_look_30 hl (k := 1) rfl (by rfl) (by decide) rfl (fun ls hl => ?_)
        refine lv_goto (tgt := 17) hx hb dX5_look_33 (by decide) ?_
        exact ih (v1 + 1) mt' mv' ml' (upd mk' v1.toNatClampNeg (0 : Int32)) hM H locs ls hP hD hS (lv_sub hl [1, 0] rfl)
  rw [mX5_look] at hM
  refine lv_aload_n hx hb dX5_look_0 rfl (lv_at hl 0 rfl) ?_
  refine lv_iconst (v := 0) hx hb dX5_look_1 (by decide) ?_
  refine va_put (D := D) (ci := 5) (v := .int (0 : Int32)) (ty := .int) (C := RX5) (T := TX5) (N := 12) hx hb hts iX5 tyX5 tyX5_ok nmX5 hown hK hP hD hS 0 rfl rfl 8 (by decide) f92 (fun _ h9 => h9) rfl (by decide +kernel) rfl rfl (Nat.le_of_ble_eq_true rfl) dX5_look_2 (fun H locs hP hD hS => ?_)
  replace hP : va_P D vwCl (mw b cI th w h ms mu mb me mf (0 : Int32) mv ml mk) H := hP
  replace hD : va_D A (mw b cI th w h ms mu mb me mf (0 : Int32) mv ml mk) := hD
  refine lv_aload_n hx hb dX5_look_5 rfl (lv_at hl 0 rfl) ?_
  refine lv_iconst (v := 0) hx hb dX5_look_6 (by decide) ?_
  refine va_put (D := D) (ci := 5) (v := .int (0 : Int32)) (ty := .int) (C := RX5) (T := TX5) (N := 12) hx hb hts iX5 tyX5 tyX5_ok nmX5 hown hK hP hD hS 0 rfl rfl 9 (by decide) f79 (fun _ h9 => h9) rfl (by decide +kernel) rfl rfl (Nat.le_of_ble_eq_true rfl) dX5_look_7 (fun H locs hP hD hS => ?_)
  replace hP : va_P D vwCl (mw b cI th w h ms mu mb me mf (0 : Int32) (0 : Int32) ml mk) H := hP
  replace hD : va_D A (mw b cI th w h ms mu mb me mf (0 : Int32) (0 : Int32) ml mk) := hD
  refine lv_aload_n hx hb dX5_look_10 rfl (lv_at hl 0 rfl) ?_
  refine lv_iconst (v := 0) hx hb dX5_look_11 (by decide) ?_
  refine va_put (D := D) (ci := 5) (v := .int (0 : Int32)) (ty := .boolean) (C := RX5) (T := TX5) (N := 12) hx hb hts iX5 tyX5 tyX5_ok nmX5 hown hK hP hD hS 0 rfl rfl 10 (by decide) f75 (fun _ h9 => h9) rfl (by decide +kernel) rfl rfl (Nat.le_of_ble_eq_true rfl) dX5_look_12 (fun H locs hP hD hS => ?_)
  replace hP : va_P D vwCl (mw b cI th w h ms mu mb me mf (0 : Int32) (0 : Int32) (0 : Int32) mk) H := hP
  replace hD : va_D A (mw b cI th w h ms mu mb me mf (0 : Int32) (0 : Int32) (0 : Int32) mk) := hD
  refine lv_iconst (v := 0) hx hb dX5_look_15 (by decide) ?_
  refine lv_istore_n (lv' := [(1, .int (0 : Int32)), (0, .ref (b 0))]) hx hb dX5_look_16 rfl hl (by decide) rfl (fun ls hl => ?_)
  exact c17 N (0 : Int32) (0 : Int32) (0 : Int32) (0 : Int32) mk hM H locs ls hP hD hS (lv_sub hl [1, 0] rfl)
def mX5_setFloor_64 (N : Nat) (mb : RowI) : Nat → Int32 → Int32 → Int32 → Int32 → RowI → RowI → Option (Int32 × Int32 × Int32 × Int32 × RowI × RowI × RowI)
  | 0 => fun _ _ _ _ _ _ => none
  | n + 1 => fun v3 th' w' h' ms' mu' => (if (72 : Int32) ≤ v3 then
  ((mX5_link N w' h' ms' mb).bind fun x84 =>
  some ((w' * h'), th', w', h', ms', mu', x84))
  else
  (if bad v3 72 then none else
  (mX5_setFloor_64 N mb n (v3 + 1) th' w' h' ms' (upd mu' v3.toNatClampNeg (0 : Int32)))))
def mX5_setFloor_43 (N : Nat) (mu : RowI) (mb : RowI) : Nat → Int32 → Int32 → Int32 → Int32 → RowI → Option (Int32 × Int32 × Int32 × Int32 × RowI × RowI × RowI)
  | 0 => fun _ _ _ _ _ => none
  | n + 1 => fun v3 th' w' h' ms' => (if (36 : Int32) ≤ v3 then
  (mX5_setFloor_64 N mb N (0 : Int32) th' w' h' ms' mu)
  else
  (if bad v3 36 then none else
  (mX5_setFloor_43 N mu mb n (v3 + 1) th' w' h' (upd ms' v3.toNatClampNeg (0 : Int32)))))
def mX5_setFloor_25 (N : Nat) (w : Int32) (h : Int32) (ms : RowI) (mu : RowI) (mb : RowI) (th' : Int32) : Option (Int32 × Int32 × Int32 × Int32 × RowI × RowI × RowI) :=
  ((mX5_no N th' (1 : Int32)).bind fun x27 =>
  some (x27.1, x27.2, w, h, ms, mu, mb))
def mX5_setFloor (N : Nat) (th : Int32) (w : Int32) (h : Int32) (ms : RowI) (mu : RowI) (mb : RowI) (p1 : Int32) (p2 : Int32) : Option (Int32 × Int32 × Int32 × Int32 × RowI × RowI × RowI) :=
  ((mX5_isIn N p1 (2 : Int32) (6 : Int32)).bind fun x9 =>
  (if x9 = 0 then
  (mX5_setFloor_25 N w h ms mu mb (0 : Int32))
  else
  ((mX5_isIn N p2 (2 : Int32) (6 : Int32)).bind fun x19 =>
  (if x19 = 0 then
  (mX5_setFloor_25 N w h ms mu mb (0 : Int32))
  else
  (mX5_setFloor_43 N mu mb N (0 : Int32) (0 : Int32) p1 p2 ms)))))
abbrev rmX5_setFloor : Room := { frames := 1, cells := 0, slots := 0, locals := 23 }
set_option maxHeartbeats 4000000 in
set_option maxRecDepth 100000 in
theorem kX5_setFloor {l : Launch} {D : va_G} {cI cJ : ClassId} (N : Nat) (b : Nat → Nat) {th : Int32} {w : Int32} {h : Int32} {ms : RowI} {mu : RowI} {mb : RowI} {me : RowI} {mf : RowI} {mt : Int32} {mv : Int32} {ml : Int32} {mk : RowI} {p1 : Int32} {p2 : Int32} {o : (Int32 × Int32 × Int32 × Int32 × RowI × RowI × RowI)} (hM : mX5_setFloor N th w h ms mu mb p1 p2 = some o) (sz : Nat) : Met l yX5_setFloor wsX5_setFloor rmX5_setFloor (va_Pc [.ref (b 0), .int p1, .int p2] (Pre D cI cJ (mw b cI th w h ms mu mb me mf mt mv ml mk) sz)) (va_Qi (fun (r : Int32) (_ : Unit) => r = o.1) (aft D (mw b cI th w h ms mu mb me mf mt mv ml mk) sz (fun (_ : Unit) => (mw b cI o.2.1 o.2.2.1 o.2.2.2.1 o.2.2.2.2.1 o.2.2.2.2.2.1 o.2.2.2.2.2.2 me mf mt mv ml mk))) (va_A (mw b cI th w h ms mu mb me mf mt mv ml mk) sz)) 0 0 (va_A (mw b cI th w h ms mu mb me mf mt mv ml mk) sz) := by
  refine xofW (cc := cX5_setFloor) (maxL := 4) (ret := (some .int)) rfl (by decide) rfl ?_
  intro p e s m args below meth c ls Q A hQ hAe hx hb hr hml hown hts hlocks hnm hN hK H locs hP hD hS hA hl
  replace hown : s.vm.findClass RX5 = some m.cls := hown
  replace hl : lv_has ls 4 [(0, .ref (b 0)), (1, .int p1), (2, .int p2)] := hl
  have iX5 : ∀ w ∈ wsX50, w ∈ wsX5_setFloor := by decide +kernel
  have f13 := hts (.fieldLink RX5 13 "CryptSumsModel" "h" "I") (by decide +kernel)
  have f16 := hts (.fieldLink RX5 16 "CryptSumsModel" "stones" "[I") (by decide +kernel)
  have f20 := hts (.fieldLink RX5 20 "CryptSumsModel" "sums" "[I") (by decide +kernel)
  have f47 := hts (.fieldLink RX5 47 "CryptSumsModel" "thrown" "I") (by decide +kernel)
  have f7 := hts (.fieldLink RX5 7 "CryptSumsModel" "w" "I") (by decide +kernel)
  have c64 : ∀ (n : Nat), ∀ (v3 : Int32) (th' : Int32) (w' : Int32) (h' : Int32) (ms' : RowI) (mu' : RowI), mX5_setFloor_64 N mb n v3 th' w' h' ms' mu' = some o → ∀ (H : Heap) (locs : List Loc) (ls : Array Slot), va_P D vwCl (mw b cI th' w' h' ms' mu' mb me mf mt mv ml mk) H → va_D A (mw b cI th' w' h' ms' mu' mb me mf mt mv ml mk) → va_S A s.heap H locs → lv_has ls 4 [(0, .ref (b 0)), (3, .int v3)] → W p l e rmX5_setFloor s m args below meth c H locs 0 0 Q (F0 m 64 ls []) := by
    intro n
    induction n with
    | zero =>
      intro v3 th' w' h' ms' mu' hM
      rw [mX5_setFloor_64] at hM
      cases hM
    | succ n ih =>
      intro v3 th' w' h' ms' mu' hM H locs ls hP hD hS hl
      rw [mX5_setFloor_64] at hM
      refine lv_iload_n hx hb dX5_setFloor_64 rfl (lv_at hl 1 rfl) ?_
      refine lv_bipush (v := 72) hx hb dX5_setFloor_65 (by decide) ?_
      refine lv_icmp_ge (tgt := 83) hx hb dX5_setFloor_67 (by decide) (fun hcc => ?_) (fun hcc => ?_)
      · replace hM := it_p hcc hM
        refine lv_aload_n hx hb dX5_setFloor_83 rfl (lv_at hl 0 rfl) ?_
        obtain ⟨x84, hC, hM⟩ := bd_s hM
        refine cW_v [0, 1, 2, 3, 4, 5, 6] [] (va_runV (As := []) (rest := []) ⟨hx, hb, hml, hown, hts⟩ (kX5_link (l := l) (D := D) (cI := cI) (cJ := cJ) N b (th := th') (w := w') (h := h') (ms := ms') (mu := mu') (mb := mb) (me := me) (mf := mf) (mt := mt) (mv := mv) (ml := ml) (mk := mk) hC H.size) (cwV 0 hts gX5_setFloor_X5_link rfl rfl rfl (by decide +kernel) ⟨Nat.le_of_ble_eq_true rfl, Nat.le_of_ble_eq_true rfl⟩) (preV [] hN hK hP hD (ci := 5) (q0 := 0) rfl rfl) rfl rfl hl.1 rfl (lv_room (Nat.le_of_ble_eq_true rfl)) dX5_setFloor_84 ⟨Nat.le_of_ble_eq_true rfl, Nat.le_of_ble_eq_true rfl⟩) hP hD hS hA rfl (wr := []) rfl (by decide) (by decide) (fun u84 H locs hw hP hD hS => ?_)
        replace hP : va_P D vwCl (mw b cI th' w' h' ms' mu' x84 me mf mt mv ml mk) H := hP
        replace hD : va_D A (mw b cI th' w' h' ms' mu' x84 me mf mt mv ml mk) := hD
        refine lv_aload_n hx hb dX5_setFloor_87 rfl (lv_at hl 0 rfl) ?_
        refine va_get (D := D) (ci := 5) (v := .int w') (C := RX5) (T := TX5) (N := 12) hx hb hts iX5 hown hK hP 0 rfl rfl 1 (by decide) f7 (fun _ h9 => h9) rfl dX5_setFloor_88 ?_
        refine lv_aload_n hx hb dX5_setFloor_91 rfl (lv_at hl 0 rfl) ?_
        refine va_get (D := D) (ci := 5) (v := .int h') (C := RX5) (T := TX5) (N := 12) hx hb hts iX5 hown hK hP 0 rfl rfl 2 (by decide) f13 (fun _ h9 => h9) rfl dX5_setFloor_92 ?_
        refine lv_imul hx hb dX5_setFloor_95 ?_
        obtain rfl := Option.some.inj hM
        subst hQ hAe
        exact W.iret (v := (w' * h')) hx hb hr (fun t ht hW => ⟨⟨(w' * h'), (), rfl, rfl, ⟨by rw [ht]; exact hP, hD⟩⟩, hS.F ht⟩) hS.2.2 dX5_setFloor_96
      · replace hM := it_n hcc hM
        refine lv_aload_n hx hb dX5_setFloor_70 rfl (lv_at hl 0 rfl) ?_
        refine va_get (D := D) (ci := 5) (v := .ref (b 2)) (C := RX5) (T := TX5) (N := 12) hx hb hts iX5 hown hK hP 0 rfl rfl 4 (by decide) f20 (fun _ h9 => h9) rfl dX5_setFloor_71 ?_
        refine lv_iload_n hx hb dX5_setFloor_74 rfl (lv_at hl 1 rfl) ?_
        refine lv_iconst (v := 0) hx hb dX5_setFloor_75 (by decide) ?_
        obtain ⟨hb76, hM⟩ := it_x hM
        refine va_iast (D := D) hx hb hK hP hD hS 2 0 rfl rfl hb76 dX5_setFloor_76 (fun H locs hP hD hS => ?_)
        replace hP : va_P D vwCl (mw b cI th' w' h' ms' (upd mu' v3.toNatClampNeg (0 : Int32)) mb me mf mt mv ml mk) H := hP
        replace hD : va_D A (mw b cI th' w' h' ms' (upd mu' v3.toNatClampNeg (0 : Int32)) mb me mf mt mv ml mk) := hD
        refine lv_iinc (v := (v3 + 1)) (lv' := [(3, .int (v3 + 1)), (0, .ref (b 0))]) hx hb dX5_setFloor_77 hl (k := 1) rfl (by rfl) (by decide) rfl (fun ls hl => ?_)
        refine lv_goto (tgt := 64) hx hb dX5_setFloor_80 (by decide) ?_
        exact ih (v3 + 1) th' w' h' ms' (upd mu' v3.toNatClampNeg (0 : Int32)) hM H locs ls hP hD hS (lv_sub hl [1, 0] rfl)
  have c43 : ∀ (n : Nat), ∀ (v3 : Int32) (th' : Int32) (w' : Int32) (h' : Int32) (ms' : RowI), mX5_setFloor_43 N mu mb n v3 th' w' h' ms' = some o → ∀ (H : Heap) (locs : List Loc) (ls : Array Slot), va_P D vwCl (mw b cI th' w' h' ms' mu mb me mf mt mv ml mk) H → va_D A (mw b cI th' w' h' ms' mu mb me mf mt mv ml mk) → va_S A s.heap H locs → lv_has ls 4 [(0, .ref (b 0)), (3, .int v3)] → W p l e rmX5_setFloor s m args below meth c H locs 0 0 Q (F0 m 43 ls []) := by
    intro n
    induction n with
    | zero =>
      intro v3 th' w' h' ms' hM
      rw [mX5_setFloor_43] at hM
      cases hM
    | succ n ih =>
      intro v3 th' w' h' ms' hM H locs ls hP hD hS hl
      rw [mX5_setFloor_43] at hM
      refine lv_iload_n hx hb dX5_setFloor_43 rfl (lv_at hl 1 rfl) ?_
      refine lv_bipush (v := 36) hx hb dX5_setFloor_44 (by decide) ?_
      refine lv_icmp_ge (tgt := 62) hx hb dX5_setFloor_46 (by decide) (fun hcc => ?_) (fun hcc => ?_)
      · replace hM := it_p hcc hM
        refine lv_iconst (v := 0) hx hb dX5_setFloor_62 (by decide) ?_
        refine lv_istore_n (lv' := [(3, .int (0 : Int32)), (0, .ref (b 0))]) hx hb dX5_setFloor_63 rfl hl (by decide) rfl (fun ls hl => ?_)
        exact c64 N (0 : Int32) th' w' h' ms' mu hM H locs ls hP hD hS (lv_sub hl [1, 0] rfl)
      · replace hM := it_n hcc hM
        refine lv_aload_n hx hb dX5_setFloor_49 rfl (lv_at hl 0 rfl) ?_
        refine va_get (D := D) (ci := 5) (v := .ref (b 1)) (C := RX5) (T := TX5) (N := 12) hx hb hts iX5 hown hK hP 0 rfl rfl 3 (by decide) f16 (fun _ h9 => h9) rfl dX5_setFloor_50 ?_
        refine lv_iload_n hx hb dX5_setFloor_53 rfl (lv_at hl 1 rfl) ?_
        refine lv_iconst (v := 0) hx hb dX5_setFloor_54 (by decide) ?_
        obtain ⟨hb55, hM⟩ := it_x hM
        refine va_iast (D := D) hx hb hK hP hD hS 1 0 rfl rfl hb55 dX5_setFloor_55 (fun H locs hP hD hS => ?_)
        replace hP : va_P D vwCl (mw b cI th' w' h' (upd ms' v3.toNatClampNeg (0 : Int32)) mu mb me mf mt mv ml mk) H := hP
        replace hD : va_D A (mw b cI th' w' h' (upd ms' v3.toNatClampNeg (0 : Int32)) mu mb me mf mt mv ml mk) := hD
        refine lv_iinc (v := (v3 + 1)) (lv' := [(3, .int (v3 + 1)), (0, .ref (b 0))]) hx hb dX5_setFloor_56 hl (k := 1) rfl (by rfl) (by decide) rfl (fun ls hl => ?_)
        refine lv_goto (tgt := 43) hx hb dX5_setFloor_59 (by decide) ?_
        exact ih (v3 + 1) th' w' h' (upd ms' v3.toNatClampNeg (0 : Int32)) hM H locs ls hP hD hS (lv_sub hl [1, 0] rfl)
  have c25 : ∀ (th' : Int32), mX5_setFloor_25 N w h ms mu mb th' = some o → ∀ (H : Heap) (locs : List Loc) (ls : Array Slot), va_P D vwCl (mw b cI th' w h ms mu mb me mf mt mv ml mk) H → va_D A (mw b cI th' w h ms mu mb me mf mt mv ml mk) → va_S A s.heap H locs → lv_has ls 4 [(0, .ref (b 0))] → W p l e rmX5_setFloor s m args below meth c H locs 0 0 Q (F0 m 25 ls []) := by
      intro  th' hM H locs ls hP hD hS hl
      rw [mX5_setFloor_25] at hM
      refine lv_aload_n hx hb dX5_setFloor_25 rfl (lv_at hl 0 rfl) ?_
      refine lv_iconst (v := 1) hx hb dX5_setFloor_26 (by decide) ?_
      obtain ⟨x27, hC, hM⟩ := bd_s hM
      refine cW_i [0, 1, 2, 3, 4, 5, 6] [] (va_runV (As := [.int (1 : Int32)]) (rest := []) ⟨hx, hb, hml, hown, hts⟩ (kX5_no (l := l) (D := D) (cI := cI) (cJ := cJ) N b (th := th') (w := w) (h := h) (ms := ms) (mu := mu) (mb := mb) (me := me) (mf := mf) (mt := mt) (mv := mv) (ml := ml) (mk := mk) (p1 := (1 : Int32)) hC H.size) (cwV 1 hts gX5_setFloor_X5_no rfl rfl rfl (by decide +kernel) ⟨Nat.le_of_ble_eq_true rfl, Nat.le_of_ble_eq_true rfl⟩) (preV [.int (1 : Int32)] hN hK hP hD (ci := 5) (q0 := 0) rfl rfl) rfl rfl hl.1 rfl (lv_room (Nat.le_of_ble_eq_true rfl)) dX5_setFloor_27 ⟨Nat.le_of_ble_eq_true rfl, Nat.le_of_ble_eq_true rfl⟩) hP hD hS hA rfl (wr := []) rfl (by decide) (by decide) (fun r u27 H locs hw hP hD hS => ?_)
      replace hP : va_P D vwCl (mw b cI x27.2 w h ms mu mb me mf mt mv ml mk) H := hP
      replace hD : va_D A (mw b cI x27.2 w h ms mu mb me mf mt mv ml mk) := hD
      rw [hw]
      obtain rfl := Option.some.inj hM
      subst hQ hAe
      exact W.iret (v := x27.1) hx hb hr (fun t ht hW => ⟨⟨x27.1, (), rfl, rfl, ⟨by rw [ht]; exact hP, hD⟩⟩, hS.F ht⟩) hS.2.2 dX5_setFloor_30
  rw [mX5_setFloor] at hM
  refine lv_aload_n hx hb dX5_setFloor_0 rfl (lv_at hl 0 rfl) ?_
  refine lv_iconst (v := 0) hx hb dX5_setFloor_1 (by decide) ?_
  refine va_put (D := D) (ci := 5) (v := .int (0 : Int32)) (ty := .int) (C := RX5) (T := TX5) (N := 12) hx hb hts iX5 tyX5 tyX5_ok nmX5 hown hK hP hD hS 0 rfl rfl 0 (by decide) f47 (fun _ h9 => h9) rfl (by decide +kernel) rfl rfl (Nat.le_of_ble_eq_true rfl) dX5_setFloor_2 (fun H locs hP hD hS => ?_)
  replace hP : va_P D vwCl (mw b cI (0 : Int32) w h ms mu mb me mf mt mv ml mk) H := hP
  replace hD : va_D A (mw b cI (0 : Int32) w h ms mu mb me mf mt mv ml mk) := hD
  refine lv_iload_n hx hb dX5_setFloor_5 rfl (lv_at hl 1 rfl) ?_
  refine lv_iconst (v := 2) hx hb dX5_setFloor_6 (by decide) ?_
  refine lv_bipush (v := 6) hx hb dX5_setFloor_7 (by decide) ?_
  obtain ⟨x9, hC, hM⟩ := bd_s hM
  refine cR_i (va_runS (As := [.int p1, .int (2 : Int32), .int (6 : Int32)]) (rest := []) ⟨hx, hb, hml, hown, hts⟩ (kX5_isIn (l := l) (D := D) (cI := cI) (cJ := cJ) N (p1 := p1) (p2 := (2 : Int32)) (p3 := (6 : Int32)) hC H.size) (va_cwS 3 hts gX5_setFloor_X5_isIn rfl rfl rfl (by decide +kernel) ⟨Nat.le_of_ble_eq_true rfl, Nat.le_of_ble_eq_true rfl⟩) (preS [.int p1, .int (2 : Int32), .int (6 : Int32)] hN hK (hP.sub (ws' := zw) [] rfl) (hD.sub (ws' := zw) [] (by decide) rfl)) rfl rfl hl.1 rfl (lv_room (Nat.le_of_ble_eq_true rfl)) dX5_setFloor_9 ⟨Nat.le_of_ble_eq_true rfl, Nat.le_of_ble_eq_true rfl⟩) hP hS (fun r u H locs hw hP hS => ?_)
  obtain ⟨hw, hz9⟩ := hw
  rw [hw] at hz9
  rw [hw]
  refine lv_if_eq (tgt := 25) hx hb dX5_setFloor_12 (by decide) (fun hcc => ?_) (fun hcc => ?_)
  · replace hM := it_p hcc hM
    exact c25 (0 : Int32) hM H locs ls hP hD hS (lv_sub hl [0] rfl)
  · replace hM := it_n hcc hM
    refine lv_iload_n hx hb dX5_setFloor_15 rfl (lv_at hl 2 rfl) ?_
    refine lv_iconst (v := 2) hx hb dX5_setFloor_16 (by decide) ?_
    refine lv_bipush (v := 6) hx hb dX5_setFloor_17 (by decide) ?_
    obtain ⟨x19, hC, hM⟩ := bd_s hM
    refine cR_i (va_runS (As := [.int p2, .int (2 : Int32), .int (6 : Int32)]) (rest := []) ⟨hx, hb, hml, hown, hts⟩ (kX5_isIn (l := l) (D := D) (cI := cI) (cJ := cJ) N (p1 := p2) (p2 := (2 : Int32)) (p3 := (6 : Int32)) hC H.size) (va_cwS 3 hts gX5_setFloor_X5_isIn rfl rfl rfl (by decide +kernel) ⟨Nat.le_of_ble_eq_true rfl, Nat.le_of_ble_eq_true rfl⟩) (preS [.int p2, .int (2 : Int32), .int (6 : Int32)] hN hK (hP.sub (ws' := zw) [] rfl) (hD.sub (ws' := zw) [] (by decide) rfl)) rfl rfl hl.1 rfl (lv_room (Nat.le_of_ble_eq_true rfl)) dX5_setFloor_19 ⟨Nat.le_of_ble_eq_true rfl, Nat.le_of_ble_eq_true rfl⟩) hP hS (fun r u H locs hw hP hS => ?_)
    obtain ⟨hw, hz19⟩ := hw
    rw [hw] at hz19
    rw [hw]
    refine lv_if_ne (tgt := 31) hx hb dX5_setFloor_22 (by decide) (fun hcc => ?_) (fun hcc => ?_)
    · replace hM := it_n hcc hM
      refine lv_aload_n hx hb dX5_setFloor_31 rfl (lv_at hl 0 rfl) ?_
      refine lv_iload_n hx hb dX5_setFloor_32 rfl (lv_at hl 1 rfl) ?_
      refine va_put (D := D) (ci := 5) (v := .int p1) (ty := .int) (C := RX5) (T := TX5) (N := 12) hx hb hts iX5 tyX5 tyX5_ok nmX5 hown hK hP hD hS 0 rfl rfl 1 (by decide) f7 (fun _ h9 => h9) rfl (by decide +kernel) rfl rfl (Nat.le_of_ble_eq_true rfl) dX5_setFloor_33 (fun H locs hP hD hS => ?_)
      replace hP : va_P D vwCl (mw b cI (0 : Int32) p1 h ms mu mb me mf mt mv ml mk) H := hP
      replace hD : va_D A (mw b cI (0 : Int32) p1 h ms mu mb me mf mt mv ml mk) := hD
      refine lv_aload_n hx hb dX5_setFloor_36 rfl (lv_at hl 0 rfl) ?_
      refine lv_iload_n hx hb dX5_setFloor_37 rfl (lv_at hl 2 rfl) ?_
      refine va_put (D := D) (ci := 5) (v := .int p2) (ty := .int) (C := RX5) (T := TX5) (N := 12) hx hb hts iX5 tyX5 tyX5_ok nmX5 hown hK hP hD hS 0 rfl rfl 2 (by decide) f13 (fun _ h9 => h9) rfl (by decide +kernel) rfl rfl (Nat.le_of_ble_eq_true rfl) dX5_setFloor_38 (fun H locs hP hD hS => ?_)
      replace hP : va_P D vwCl (mw b cI (0 : Int32) p1 p2 ms mu mb me mf mt mv ml mk) H := hP
      replace hD : va_D A (mw b cI (0 : Int32) p1 p2 ms mu mb me mf mt mv ml mk) := hD
      refine lv_iconst (v := 0) hx hb dX5_setFloor_41 (by decide) ?_
      refine lv_istore_n (lv' := [(3, .int (0 : Int32)), (0, .ref (b 0)), (1, .int p1), (2, .int p2)]) hx hb dX5_setFloor_42 rfl hl (by decide) rfl (fun ls hl => ?_)
      exact c43 N (0 : Int32) (0 : Int32) p1 p2 ms hM H locs ls hP hD hS (lv_sub hl [1, 0] rfl)
    · replace hM := it_p hcc hM
      exact c25 (0 : Int32) hM H locs ls hP hD hS (lv_sub hl [0] rfl)
def mX5_pillar_46 (N : Nat) (w : Int32) (h : Int32) (ms : RowI) (mb : RowI) (p1 : Int32) (s0 : Int32) (s1 : Int32) (th' : Int32) : Option (Int32 × Int32 × RowI × RowI) :=
  (if bad s1 36 then none else
  ((mX5_link N w h (upd ms s1.toNatClampNeg s0) mb).bind fun x48 =>
  (if bad p1 36 then none else
  (if ((upd ms s1.toNatClampNeg s0) p1.toNatClampNeg) = (-1 : Int32) then
  some ((1 : Int32), th', (upd ms s1.toNatClampNeg s0), x48)
  else
  some ((0 : Int32), th', (upd ms s1.toNatClampNeg s0), x48)))))
def mX5_pillar_14 (N : Nat) (th : Int32) (w : Int32) (h : Int32) (ms : RowI) (mb : RowI) (p1 : Int32) (s0 : Int32) : Option (Int32 × Int32 × RowI × RowI) :=
  (if s0 = 0 then
  (if bad p1 36 then none else
  (if (ms p1.toNatClampNeg) = (-1 : Int32) then
  (mX5_pillar_46 N w h ms mb p1 (0 : Int32) p1 s0)
  else
  (mX5_pillar_46 N w h ms mb p1 (-1 : Int32) p1 s0)))
  else
  some ((0 : Int32), s0, ms, mb))
def mX5_pillar (N : Nat) (th : Int32) (w : Int32) (h : Int32) (ms : RowI) (mb : RowI) (p1 : Int32) : Option (Int32 × Int32 × RowI × RowI) :=
  ((mX5_isCell N w h p1).bind fun x3 =>
  (if x3 = 0 then
  (mX5_pillar_14 N th w h ms mb p1 (1 : Int32))
  else
  (mX5_pillar_14 N th w h ms mb p1 (0 : Int32))))
abbrev rmX5_pillar : Room := { frames := 2, cells := 0, slots := 0, locals := 43 }
set_option maxHeartbeats 4000000 in
set_option maxRecDepth 100000 in
theorem kX5_pillar {l : Launch} {D : va_G} {cI cJ : ClassId} (N : Nat) (b : Nat → Nat) {th : Int32} {w : Int32} {h : Int32} {ms : RowI} {mu : RowI} {mb : RowI} {me : RowI} {mf : RowI} {mt : Int32} {mv : Int32} {ml : Int32} {mk : RowI} {p1 : Int32} {o : (Int32 × Int32 × RowI × RowI)} (hM : mX5_pillar N th w h ms mb p1 = some o) (sz : Nat) : Met l yX5_pillar wsX5_pillar rmX5_pillar (va_Pc [.ref (b 0), .int p1] (Pre D cI cJ (mw b cI th w h ms mu mb me mf mt mv ml mk) sz)) (va_Qi (fun (r : Int32) (_ : Unit) => r = o.1 ∧ bz r) (aft D (mw b cI th w h ms mu mb me mf mt mv ml mk) sz (fun (_ : Unit) => (mw b cI o.2.1 w h o.2.2.1 mu o.2.2.2 me mf mt mv ml mk))) (va_A (mw b cI th w h ms mu mb me mf mt mv ml mk) sz)) 0 0 (va_A (mw b cI th w h ms mu mb me mf mt mv ml mk) sz) := by
  refine xofW (cc := cX5_pillar) (maxL := 2) (ret := (some .boolean)) rfl (by decide) rfl ?_
  intro p e s m args below meth c ls Q A hQ hAe hx hb hr hml hown hts hlocks hnm hN hK H locs hP hD hS hA hl
  replace hown : s.vm.findClass RX5 = some m.cls := hown
  replace hl : lv_has ls 2 [(0, .ref (b 0)), (1, .int p1)] := hl
  have iX5 : ∀ w ∈ wsX50, w ∈ wsX5_pillar := by decide +kernel
  have f16 := hts (.fieldLink RX5 16 "CryptSumsModel" "stones" "[I") (by decide +kernel)
  have f47 := hts (.fieldLink RX5 47 "CryptSumsModel" "thrown" "I") (by decide +kernel)
  have c46 : ∀ (s0 : Int32) (s1 : Int32) (th' : Int32), mX5_pillar_46 N w h ms mb p1 s0 s1 th' = some o → ∀ (H : Heap) (locs : List Loc) (ls : Array Slot), va_P D vwCl (mw b cI th' w h ms mu mb me mf mt mv ml mk) H → va_D A (mw b cI th' w h ms mu mb me mf mt mv ml mk) → va_S A s.heap H locs → lv_has ls 2 [(0, .ref (b 0)), (1, .int p1)] → W p l e rmX5_pillar s m args below meth c H locs 0 0 Q (F0 m 46 ls [.int s0, .int s1, .ref (b 1)]) := by
      intro  s0 s1 th' hM H locs ls hP hD hS hl
      rw [mX5_pillar_46] at hM
      obtain ⟨hb46, hM⟩ := it_x hM
      refine va_iast (D := D) hx hb hK hP hD hS 1 0 rfl rfl hb46 dX5_pillar_46 (fun H locs hP hD hS => ?_)
      replace hP : va_P D vwCl (mw b cI th' w h (upd ms s1.toNatClampNeg s0) mu mb me mf mt mv ml mk) H := hP
      replace hD : va_D A (mw b cI th' w h (upd ms s1.toNatClampNeg s0) mu mb me mf mt mv ml mk) := hD
      refine lv_aload_n hx hb dX5_pillar_47 rfl (lv_at hl 0 rfl) ?_
      obtain ⟨x48, hC, hM⟩ := bd_s hM
      refine cW_v [0, 1, 2, 3, 4, 5, 6] [] (va_runV (As := []) (rest := []) ⟨hx, hb, hml, hown, hts⟩ (kX5_link (l := l) (D := D) (cI := cI) (cJ := cJ) N b (th := th') (w := w) (h := h) (ms := (upd ms s1.toNatClampNeg s0)) (mu := mu) (mb := mb) (me := me) (mf := mf) (mt := mt) (mv := mv) (ml := ml) (mk := mk) hC H.size) (cwV 0 hts gX5_pillar_X5_link rfl rfl rfl (by decide +kernel) ⟨Nat.le_of_ble_eq_true rfl, Nat.le_of_ble_eq_true rfl⟩) (preV [] hN hK hP hD (ci := 5) (q0 := 0) rfl rfl) rfl rfl hl.1 rfl (lv_room (Nat.le_of_ble_eq_true rfl)) dX5_pillar_48 ⟨Nat.le_of_ble_eq_true rfl, Nat.le_of_ble_eq_true rfl⟩) hP hD hS hA rfl (wr := []) rfl (by decide) (by decide) (fun u48 H locs hw hP hD hS => ?_)
      replace hP : va_P D vwCl (mw b cI th' w h (upd ms s1.toNatClampNeg s0) mu x48 me mf mt mv ml mk) H := hP
      replace hD : va_D A (mw b cI th' w h (upd ms s1.toNatClampNeg s0) mu x48 me mf mt mv ml mk) := hD
      refine lv_aload_n hx hb dX5_pillar_51 rfl (lv_at hl 0 rfl) ?_
      refine va_get (D := D) (ci := 5) (v := .ref (b 1)) (C := RX5) (T := TX5) (N := 12) hx hb hts iX5 hown hK hP 0 rfl rfl 3 (by decide) f16 (fun _ h9 => h9) rfl dX5_pillar_52 ?_
      refine lv_iload_n hx hb dX5_pillar_55 rfl (lv_at hl 1 rfl) ?_
      obtain ⟨hb56, hM⟩ := it_x hM
      refine va_iald (D := D) hx hb hK hP 1 0 rfl rfl hb56 dX5_pillar_56 ?_
      refine lv_iconst (v := -1) hx hb dX5_pillar_57 (by decide) ?_
      refine lv_icmp_ne (tgt := 65) hx hb dX5_pillar_58 (by decide) (fun hcc => ?_) (fun hcc => ?_)
      · replace hM := it_n hcc hM
        refine lv_iconst (v := 0) hx hb dX5_pillar_65 (by decide) ?_
        obtain rfl := Option.some.inj hM
        subst hQ hAe
        exact W.zret (ty := .boolean) (v := (0 : Int32)) hx hb hr (nb_z (Or.inl rfl)) (fun t ht hW => ⟨⟨(0 : Int32), (), rfl, ⟨rfl, Or.inl rfl⟩, ⟨by rw [ht]; exact hP, hD⟩⟩, hS.F ht⟩) hS.2.2 dX5_pillar_66
      · replace hM := it_p hcc hM
        refine lv_iconst (v := 1) hx hb dX5_pillar_61 (by decide) ?_
        refine lv_goto (tgt := 66) hx hb dX5_pillar_62 (by decide) ?_
        obtain rfl := Option.some.inj hM
        subst hQ hAe
        exact W.zret (ty := .boolean) (v := (1 : Int32)) hx hb hr (nb_z (Or.inr rfl)) (fun t ht hW => ⟨⟨(1 : Int32), (), rfl, ⟨rfl, Or.inr rfl⟩, ⟨by rw [ht]; exact hP, hD⟩⟩, hS.F ht⟩) hS.2.2 dX5_pillar_66
  have c14 : ∀ (s0 : Int32), mX5_pillar_14 N th w h ms mb p1 s0 = some o → ∀ (H : Heap) (locs : List Loc) (ls : Array Slot), va_P D vwCl (mw b cI th w h ms mu mb me mf mt mv ml mk) H → va_D A (mw b cI th w h ms mu mb me mf mt mv ml mk) → va_S A s.heap H locs → lv_has ls 2 [(0, .ref (b 0)), (1, .int p1)] → W p l e rmX5_pillar s m args below meth c H locs 0 0 Q (F0 m 14 ls [.int s0, .ref (b 0)]) := by
      intro  s0 hM H locs ls hP hD hS hl
      rw [mX5_pillar_14] at hM
      refine va_put (D := D) (ci := 5) (v := .int s0) (ty := .int) (C := RX5) (T := TX5) (N := 12) hx hb hts iX5 tyX5 tyX5_ok nmX5 hown hK hP hD hS 0 rfl rfl 0 (by decide) f47 (fun _ h9 => h9) rfl (by decide +kernel) rfl rfl (Nat.le_of_ble_eq_true rfl) dX5_pillar_14 (fun H locs hP hD hS => ?_)
      replace hP : va_P D vwCl (mw b cI s0 w h ms mu mb me mf mt mv ml mk) H := hP
      replace hD : va_D A (mw b cI s0 w h ms mu mb me mf mt mv ml mk) := hD
      refine lv_aload_n hx hb dX5_pillar_17 rfl (lv_at hl 0 rfl) ?_
      refine va_get (D := D) (ci := 5) (v := .int s0) (C := RX5) (T := TX5) (N := 12) hx hb hts iX5 hown hK hP 0 rfl rfl 0 (by decide) f47 (fun _ h9 => h9) rfl dX5_pillar_18 ?_
      refine lv_if_eq (tgt := 26) hx hb dX5_pillar_21 (by decide) (fun hcc => ?_) (fun hcc => ?_)
      · replace hM := it_p hcc hM
        refine lv_aload_n hx hb dX5_pillar_26 rfl (lv_at hl 0 rfl) ?_
        refine va_get (D := D) (ci := 5) (v := .ref (b 1)) (C := RX5) (T := TX5) (N := 12) hx hb hts iX5 hown hK hP 0 rfl rfl 3 (by decide) f16 (fun _ h9 => h9) rfl dX5_pillar_27 ?_
        refine lv_iload_n hx hb dX5_pillar_30 rfl (lv_at hl 1 rfl) ?_
        refine lv_aload_n hx hb dX5_pillar_31 rfl (lv_at hl 0 rfl) ?_
        refine va_get (D := D) (ci := 5) (v := .ref (b 1)) (C := RX5) (T := TX5) (N := 12) hx hb hts iX5 hown hK hP 0 rfl rfl 3 (by decide) f16 (fun _ h9 => h9) rfl dX5_pillar_32 ?_
        refine lv_iload_n hx hb dX5_pillar_35 rfl (lv_at hl 1 rfl) ?_
        obtain ⟨hb36, hM⟩ := it_x hM
        refine va_iald (D := D) hx hb hK hP 1 0 rfl rfl hb36 dX5_pillar_36 ?_
        refine lv_iconst (v := -1) hx hb dX5_pillar_37 (by decide) ?_
        refine lv_icmp_ne (tgt := 45) hx hb dX5_pillar_38 (by decide) (fun hcc => ?_) (fun hcc => ?_)
        · replace hM := it_n hcc hM
          refine lv_iconst (v := -1) hx hb dX5_pillar_45 (by decide) ?_
          exact c46 (-1 : Int32) p1 s0 hM H locs ls hP hD hS (lv_sub hl [0, 1] rfl)
        · replace hM := it_p hcc hM
          refine lv_iconst (v := 0) hx hb dX5_pillar_41 (by decide) ?_
          refine lv_goto (tgt := 46) hx hb dX5_pillar_42 (by decide) ?_
          exact c46 (0 : Int32) p1 s0 hM H locs ls hP hD hS (lv_sub hl [0, 1] rfl)
      · replace hM := it_n hcc hM
        refine lv_iconst (v := 0) hx hb dX5_pillar_24 (by decide) ?_
        obtain rfl := Option.some.inj hM
        subst hQ hAe
        exact W.zret (ty := .boolean) (v := (0 : Int32)) hx hb hr (nb_z (Or.inl rfl)) (fun t ht hW => ⟨⟨(0 : Int32), (), rfl, ⟨rfl, Or.inl rfl⟩, ⟨by rw [ht]; exact hP, hD⟩⟩, hS.F ht⟩) hS.2.2 dX5_pillar_25
  rw [mX5_pillar] at hM
  refine lv_aload_n hx hb dX5_pillar_0 rfl (lv_at hl 0 rfl) ?_
  refine lv_aload_n hx hb dX5_pillar_1 rfl (lv_at hl 0 rfl) ?_
  refine lv_iload_n hx hb dX5_pillar_2 rfl (lv_at hl 1 rfl) ?_
  obtain ⟨x3, hC, hM⟩ := bd_s hM
  refine cR_i (va_runV (As := [.int p1]) (rest := [.ref (b 0)]) ⟨hx, hb, hml, hown, hts⟩ (kX5_isCell (l := l) (D := D) (cI := cI) (cJ := cJ) N b (th := th) (w := w) (h := h) (ms := ms) (mu := mu) (mb := mb) (me := me) (mf := mf) (mt := mt) (mv := mv) (ml := ml) (mk := mk) (p1 := p1) hC H.size) (cwV 1 hts gX5_pillar_X5_isCell rfl rfl rfl (by decide +kernel) ⟨Nat.le_of_ble_eq_true rfl, Nat.le_of_ble_eq_true rfl⟩) (preV [.int p1] hN hK hP hD (ci := 5) (q0 := 0) rfl rfl) rfl rfl hl.1 rfl (lv_room (Nat.le_of_ble_eq_true rfl)) dX5_pillar_3 ⟨Nat.le_of_ble_eq_true rfl, Nat.le_of_ble_eq_true rfl⟩) hP hS (fun r u H locs hw hP hS => ?_)
  obtain ⟨hw, hz3⟩ := hw
  rw [hw] at hz3
  rw [hw]
  refine lv_if_eq (tgt := 13) hx hb dX5_pillar_6 (by decide) (fun hcc => ?_) (fun hcc => ?_)
  · replace hM := it_p hcc hM
    refine lv_iconst (v := 1) hx hb dX5_pillar_13 (by decide) ?_
    exact c14 (1 : Int32) hM H locs ls hP hD hS (lv_sub hl [0, 1] rfl)
  · replace hM := it_n hcc hM
    refine lv_iconst (v := 0) hx hb dX5_pillar_9 (by decide) ?_
    refine lv_goto (tgt := 14) hx hb dX5_pillar_10 (by decide) ?_
    exact c14 (0 : Int32) hM H locs ls hP hD hS (lv_sub hl [0, 1] rfl)
def mX5_setSum_46 (N : Nat) (mu : RowI) (p1 : Int32) (p3 : Int32) (s0 : Int32) (s1 : Int32) (th' : Int32) : Option (Int32 × Int32 × RowI) :=
  (if bad ((s1 * s0) + p1) 72 then none else
  (if bad ((s1 * s0) + p1) 72 then none else
  some ((mu ((s1 * s0) + p1).toNatClampNeg), th', (upd mu ((s1 * s0) + p1).toNatClampNeg p3))))
def mX5_setSum (N : Nat) (th : Int32) (w : Int32) (h : Int32) (mu : RowI) (p1 : Int32) (p2 : Int32) (p3 : Int32) : Option (Int32 × Int32 × RowI) :=
  ((mX5_isCell N w h p1).bind fun x7 =>
  (if x7 = 0 then
  ((mX5_no N (0 : Int32) (1 : Int32)).bind fun x15 =>
  some (x15.1, x15.2, mu))
  else
  ((mX5_isIn N p3 (0 : Int32) (45 : Int32)).bind fun x23 =>
  (if x23 = 0 then
  ((mX5_no N (0 : Int32) (2 : Int32)).bind fun x31 =>
  some (x31.1, x31.2, mu))
  else
  (if p2 = 0 then
  (mX5_setSum_46 N mu p1 p3 (0 : Int32) (36 : Int32) (0 : Int32))
  else
  (mX5_setSum_46 N mu p1 p3 (1 : Int32) (36 : Int32) (0 : Int32)))))))
abbrev rmX5_setSum : Room := { frames := 2, cells := 0, slots := 0, locals := 43 }
set_option maxHeartbeats 4000000 in
set_option maxRecDepth 100000 in
theorem kX5_setSum {l : Launch} {D : va_G} {cI cJ : ClassId} (N : Nat) (b : Nat → Nat) {th : Int32} {w : Int32} {h : Int32} {ms : RowI} {mu : RowI} {mb : RowI} {me : RowI} {mf : RowI} {mt : Int32} {mv : Int32} {ml : Int32} {mk : RowI} {p1 : Int32} {p2 : Int32} {p3 : Int32} {o : (Int32 × Int32 × RowI)} (hM : mX5_setSum N th w h mu p1 p2 p3 = some o) (sz : Nat) : Met l yX5_setSum wsX5_setSum rmX5_setSum (va_Pc [.ref (b 0), .int p1, .int p2, .int p3] (Pre D cI cJ (mw b cI th w h ms mu mb me mf mt mv ml mk) sz)) (va_Qi (fun (r : Int32) (_ : Unit) => r = o.1) (aft D (mw b cI th w h ms mu mb me mf mt mv ml mk) sz (fun (_ : Unit) => (mw b cI o.2.1 w h ms o.2.2 mb me mf mt mv ml mk))) (va_A (mw b cI th w h ms mu mb me mf mt mv ml mk) sz)) 0 0 (va_A (mw b cI th w h ms mu mb me mf mt mv ml mk) sz) := by
  refine xofW (cc := cX5_setSum) (maxL := 6) (ret := (some .int)) rfl (by decide) rfl ?_
  intro p e s m args below meth c ls Q A hQ hAe hx hb hr hml hown hts hlocks hnm hN hK H locs hP hD hS hA hl
  replace hown : s.vm.findClass RX5 = some m.cls := hown
  replace hl : lv_has ls 6 [(0, .ref (b 0)), (1, .int p1), (2, .int p2), (3, .int p3)] := hl
  have iX5 : ∀ w ∈ wsX50, w ∈ wsX5_setSum := by decide +kernel
  have f20 := hts (.fieldLink RX5 20 "CryptSumsModel" "sums" "[I") (by decide +kernel)
  have f47 := hts (.fieldLink RX5 47 "CryptSumsModel" "thrown" "I") (by decide +kernel)
  have c46 : ∀ (s0 : Int32) (s1 : Int32) (th' : Int32), mX5_setSum_46 N mu p1 p3 s0 s1 th' = some o → ∀ (H : Heap) (locs : List Loc) (ls : Array Slot), va_P D vwCl (mw b cI th' w h ms mu mb me mf mt mv ml mk) H → va_D A (mw b cI th' w h ms mu mb me mf mt mv ml mk) → va_S A s.heap H locs → lv_has ls 6 [(0, .ref (b 0)), (1, .int p1), (3, .int p3)] → W p l e rmX5_setSum s m args below meth c H locs 0 0 Q (F0 m 46 ls [.int s0, .int s1]) := by
      intro  s0 s1 th' hM H locs ls hP hD hS hl
      rw [mX5_setSum_46] at hM
      refine lv_imul hx hb dX5_setSum_46 ?_
      refine lv_iload_n hx hb dX5_setSum_47 rfl (lv_at hl 1 rfl) ?_
      refine lv_iadd hx hb dX5_setSum_48 ?_
      refine lv_istore (lv' := [(4, .int ((s1 * s0) + p1)), (0, .ref (b 0)), (1, .int p1), (3, .int p3)]) hx hb dX5_setSum_49 hl (by decide) rfl (fun ls hl => ?_)
      refine lv_aload_n hx hb dX5_setSum_51 rfl (lv_at hl 1 rfl) ?_
      refine va_get (D := D) (ci := 5) (v := .ref (b 2)) (C := RX5) (T := TX5) (N := 12) hx hb hts iX5 hown hK hP 0 rfl rfl 4 (by decide) f20 (fun _ h9 => h9) rfl dX5_setSum_52 ?_
      refine lv_iload hx hb dX5_setSum_55 (lv_at hl 0 rfl) ?_
      obtain ⟨hb57, hM⟩ := it_x hM
      refine va_iald (D := D) hx hb hK hP 2 0 rfl rfl hb57 dX5_setSum_57 ?_
      refine lv_istore (lv' := [(5, .int (mu ((s1 * s0) + p1).toNatClampNeg)), (4, .int ((s1 * s0) + p1)), (0, .ref (b 0)), (1, .int p1), (3, .int p3)]) hx hb dX5_setSum_58 hl (by decide) rfl (fun ls hl => ?_)
      refine lv_aload_n hx hb dX5_setSum_60 rfl (lv_at hl 2 rfl) ?_
      refine va_get (D := D) (ci := 5) (v := .ref (b 2)) (C := RX5) (T := TX5) (N := 12) hx hb hts iX5 hown hK hP 0 rfl rfl 4 (by decide) f20 (fun _ h9 => h9) rfl dX5_setSum_61 ?_
      refine lv_iload hx hb dX5_setSum_64 (lv_at hl 1 rfl) ?_
      refine lv_iload_n hx hb dX5_setSum_66 rfl (lv_at hl 4 rfl) ?_
      obtain ⟨hb67, hM⟩ := it_x hM
      refine va_iast (D := D) hx hb hK hP hD hS 2 0 rfl rfl hb67 dX5_setSum_67 (fun H locs hP hD hS => ?_)
      replace hP : va_P D vwCl (mw b cI th' w h ms (upd mu ((s1 * s0) + p1).toNatClampNeg p3) mb me mf mt mv ml mk) H := hP
      replace hD : va_D A (mw b cI th' w h ms (upd mu ((s1 * s0) + p1).toNatClampNeg p3) mb me mf mt mv ml mk) := hD
      refine lv_iload hx hb dX5_setSum_68 (lv_at hl 0 rfl) ?_
      obtain rfl := Option.some.inj hM
      subst hQ hAe
      exact W.iret (v := (mu ((s1 * s0) + p1).toNatClampNeg)) hx hb hr (fun t ht hW => ⟨⟨(mu ((s1 * s0) + p1).toNatClampNeg), (), rfl, rfl, ⟨by rw [ht]; exact hP, hD⟩⟩, hS.F ht⟩) hS.2.2 dX5_setSum_70
  rw [mX5_setSum] at hM
  refine lv_aload_n hx hb dX5_setSum_0 rfl (lv_at hl 0 rfl) ?_
  refine lv_iconst (v := 0) hx hb dX5_setSum_1 (by decide) ?_
  refine va_put (D := D) (ci := 5) (v := .int (0 : Int32)) (ty := .int) (C := RX5) (T := TX5) (N := 12) hx hb hts iX5 tyX5 tyX5_ok nmX5 hown hK hP hD hS 0 rfl rfl 0 (by decide) f47 (fun _ h9 => h9) rfl (by decide +kernel) rfl rfl (Nat.le_of_ble_eq_true rfl) dX5_setSum_2 (fun H locs hP hD hS => ?_)
  replace hP : va_P D vwCl (mw b cI (0 : Int32) w h ms mu mb me mf mt mv ml mk) H := hP
  replace hD : va_D A (mw b cI (0 : Int32) w h ms mu mb me mf mt mv ml mk) := hD
  refine lv_aload_n hx hb dX5_setSum_5 rfl (lv_at hl 0 rfl) ?_
  refine lv_iload_n hx hb dX5_setSum_6 rfl (lv_at hl 1 rfl) ?_
  obtain ⟨x7, hC, hM⟩ := bd_s hM
  refine cR_i (va_runV (As := [.int p1]) (rest := []) ⟨hx, hb, hml, hown, hts⟩ (kX5_isCell (l := l) (D := D) (cI := cI) (cJ := cJ) N b (th := (0 : Int32)) (w := w) (h := h) (ms := ms) (mu := mu) (mb := mb) (me := me) (mf := mf) (mt := mt) (mv := mv) (ml := ml) (mk := mk) (p1 := p1) hC H.size) (cwV 1 hts gX5_setSum_X5_isCell rfl rfl rfl (by decide +kernel) ⟨Nat.le_of_ble_eq_true rfl, Nat.le_of_ble_eq_true rfl⟩) (preV [.int p1] hN hK hP hD (ci := 5) (q0 := 0) rfl rfl) rfl rfl hl.1 rfl (lv_room (Nat.le_of_ble_eq_true rfl)) dX5_setSum_7 ⟨Nat.le_of_ble_eq_true rfl, Nat.le_of_ble_eq_true rfl⟩) hP hS (fun r u H locs hw hP hS => ?_)
  obtain ⟨hw, hz7⟩ := hw
  rw [hw] at hz7
  rw [hw]
  refine lv_if_ne (tgt := 19) hx hb dX5_setSum_10 (by decide) (fun hcc => ?_) (fun hcc => ?_)
  · replace hM := it_n hcc hM
    refine lv_iload_n hx hb dX5_setSum_19 rfl (lv_at hl 3 rfl) ?_
    refine lv_iconst (v := 0) hx hb dX5_setSum_20 (by decide) ?_
    refine lv_bipush (v := 45) hx hb dX5_setSum_21 (by decide) ?_
    obtain ⟨x23, hC, hM⟩ := bd_s hM
    refine cR_i (va_runS (As := [.int p3, .int (0 : Int32), .int (45 : Int32)]) (rest := []) ⟨hx, hb, hml, hown, hts⟩ (kX5_isIn (l := l) (D := D) (cI := cI) (cJ := cJ) N (p1 := p3) (p2 := (0 : Int32)) (p3 := (45 : Int32)) hC H.size) (va_cwS 3 hts gX5_setSum_X5_isIn rfl rfl rfl (by decide +kernel) ⟨Nat.le_of_ble_eq_true rfl, Nat.le_of_ble_eq_true rfl⟩) (preS [.int p3, .int (0 : Int32), .int (45 : Int32)] hN hK (hP.sub (ws' := zw) [] rfl) (hD.sub (ws' := zw) [] (by decide) rfl)) rfl rfl hl.1 rfl (lv_room (Nat.le_of_ble_eq_true rfl)) dX5_setSum_23 ⟨Nat.le_of_ble_eq_true rfl, Nat.le_of_ble_eq_true rfl⟩) hP hS (fun r u H locs hw hP hS => ?_)
    obtain ⟨hw, hz23⟩ := hw
    rw [hw] at hz23
    rw [hw]
    refine lv_if_ne (tgt := 35) hx hb dX5_setSum_26 (by decide) (fun hcc => ?_) (fun hcc => ?_)
    · replace hM := it_n hcc hM
      refine lv_bipush (v := 36) hx hb dX5_setSum_35 (by decide) ?_
      refine lv_iload_n hx hb dX5_setSum_37 rfl (lv_at hl 2 rfl) ?_
      refine lv_if_eq (tgt := 45) hx hb dX5_setSum_38 (by decide) (fun hcc => ?_) (fun hcc => ?_)
      · replace hM := it_p hcc hM
        refine lv_iconst (v := 0) hx hb dX5_setSum_45 (by decide) ?_
        exact c46 (0 : Int32) (36 : Int32) (0 : Int32) hM H locs ls hP hD hS (lv_sub hl [0, 1, 3] rfl)
      · replace hM := it_n hcc hM
        refine lv_iconst (v := 1) hx hb dX5_setSum_41 (by decide) ?_
        refine lv_goto (tgt := 46) hx hb dX5_setSum_42 (by decide) ?_
        exact c46 (1 : Int32) (36 : Int32) (0 : Int32) hM H locs ls hP hD hS (lv_sub hl [0, 1, 3] rfl)
    · replace hM := it_p hcc hM
      refine lv_aload_n hx hb dX5_setSum_29 rfl (lv_at hl 0 rfl) ?_
      refine lv_iconst (v := 2) hx hb dX5_setSum_30 (by decide) ?_
      obtain ⟨x31, hC, hM⟩ := bd_s hM
      refine cW_i [0, 1, 2, 3, 4, 5, 6] [] (va_runV (As := [.int (2 : Int32)]) (rest := []) ⟨hx, hb, hml, hown, hts⟩ (kX5_no (l := l) (D := D) (cI := cI) (cJ := cJ) N b (th := (0 : Int32)) (w := w) (h := h) (ms := ms) (mu := mu) (mb := mb) (me := me) (mf := mf) (mt := mt) (mv := mv) (ml := ml) (mk := mk) (p1 := (2 : Int32)) hC H.size) (cwV 1 hts gX5_setSum_X5_no rfl rfl rfl (by decide +kernel) ⟨Nat.le_of_ble_eq_true rfl, Nat.le_of_ble_eq_true rfl⟩) (preV [.int (2 : Int32)] hN hK hP hD (ci := 5) (q0 := 0) rfl rfl) rfl rfl hl.1 rfl (lv_room (Nat.le_of_ble_eq_true rfl)) dX5_setSum_31 ⟨Nat.le_of_ble_eq_true rfl, Nat.le_of_ble_eq_true rfl⟩) hP hD hS hA rfl (wr := []) rfl (by decide) (by decide) (fun r u31 H locs hw hP hD hS => ?_)
      replace hP : va_P D vwCl (mw b cI x31.2 w h ms mu mb me mf mt mv ml mk) H := hP
      replace hD : va_D A (mw b cI x31.2 w h ms mu mb me mf mt mv ml mk) := hD
      rw [hw]
      obtain rfl := Option.some.inj hM
      subst hQ hAe
      exact W.iret (v := x31.1) hx hb hr (fun t ht hW => ⟨⟨x31.1, (), rfl, rfl, ⟨by rw [ht]; exact hP, hD⟩⟩, hS.F ht⟩) hS.2.2 dX5_setSum_34
  · replace hM := it_p hcc hM
    refine lv_aload_n hx hb dX5_setSum_13 rfl (lv_at hl 0 rfl) ?_
    refine lv_iconst (v := 1) hx hb dX5_setSum_14 (by decide) ?_
    obtain ⟨x15, hC, hM⟩ := bd_s hM
    refine cW_i [0, 1, 2, 3, 4, 5, 6] [] (va_runV (As := [.int (1 : Int32)]) (rest := []) ⟨hx, hb, hml, hown, hts⟩ (kX5_no (l := l) (D := D) (cI := cI) (cJ := cJ) N b (th := (0 : Int32)) (w := w) (h := h) (ms := ms) (mu := mu) (mb := mb) (me := me) (mf := mf) (mt := mt) (mv := mv) (ml := ml) (mk := mk) (p1 := (1 : Int32)) hC H.size) (cwV 1 hts gX5_setSum_X5_no rfl rfl rfl (by decide +kernel) ⟨Nat.le_of_ble_eq_true rfl, Nat.le_of_ble_eq_true rfl⟩) (preV [.int (1 : Int32)] hN hK hP hD (ci := 5) (q0 := 0) rfl rfl) rfl rfl hl.1 rfl (lv_room (Nat.le_of_ble_eq_true rfl)) dX5_setSum_15 ⟨Nat.le_of_ble_eq_true rfl, Nat.le_of_ble_eq_true rfl⟩) hP hD hS hA rfl (wr := []) rfl (by decide) (by decide) (fun r u15 H locs hw hP hD hS => ?_)
    replace hP : va_P D vwCl (mw b cI x15.2 w h ms mu mb me mf mt mv ml mk) H := hP
    replace hD : va_D A (mw b cI x15.2 w h ms mu mb me mf mt mv ml mk) := hD
    rw [hw]
    obtain rfl := Option.some.inj hM
    subst hQ hAe
    exact W.iret (v := x15.1) hx hb hr (fun t ht hW => ⟨⟨x15.1, (), rfl, rfl, ⟨by rw [ht]; exact hP, hD⟩⟩, hS.F ht⟩) hS.2.2 dX5_setSum_18
def mX5_put (N : Nat) (th : Int32) (w : Int32) (h : Int32) (ms : RowI) (p1 : Int32) (p2 : Int32) : Option (Int32 × Int32 × RowI) :=
  ((mX5_isCell N w h p1).bind fun x7 =>
  (if x7 = 0 then
  ((mX5_no N (0 : Int32) (1 : Int32)).bind fun x15 =>
  some (x15.1, x15.2, ms))
  else
  ((mX5_isIn N p2 (0 : Int32) (9 : Int32)).bind fun x23 =>
  (if x23 = 0 then
  ((mX5_no N (0 : Int32) (2 : Int32)).bind fun x31 =>
  some (x31.1, x31.2, ms))
  else
  (if bad p1 36 then none else
  (if (ms p1.toNatClampNeg) = (-1 : Int32) then
  ((mX5_no N (0 : Int32) (3 : Int32)).bind fun x47 =>
  some (x47.1, x47.2, ms))
  else
  (if bad p1 36 then none else
  (if bad p1 36 then none else
  some ((ms p1.toNatClampNeg), (0 : Int32), (upd ms p1.toNatClampNeg p2))))))))))
abbrev rmX5_put : Room := { frames := 2, cells := 0, slots := 0, locals := 43 }
set_option maxHeartbeats 4000000 in
set_option maxRecDepth 100000 in
theorem kX5_put {l : Launch} {D : va_G} {cI cJ : ClassId} (N : Nat) (b : Nat → Nat) {th : Int32} {w : Int32} {h : Int32} {ms : RowI} {mu : RowI} {mb : RowI} {me : RowI} {mf : RowI} {mt : Int32} {mv : Int32} {ml : Int32} {mk : RowI} {p1 : Int32} {p2 : Int32} {o : (Int32 × Int32 × RowI)} (hM : mX5_put N th w h ms p1 p2 = some o) (sz : Nat) : Met l yX5_put wsX5_put rmX5_put (va_Pc [.ref (b 0), .int p1, .int p2] (Pre D cI cJ (mw b cI th w h ms mu mb me mf mt mv ml mk) sz)) (va_Qi (fun (r : Int32) (_ : Unit) => r = o.1) (aft D (mw b cI th w h ms mu mb me mf mt mv ml mk) sz (fun (_ : Unit) => (mw b cI o.2.1 w h o.2.2 mu mb me mf mt mv ml mk))) (va_A (mw b cI th w h ms mu mb me mf mt mv ml mk) sz)) 0 0 (va_A (mw b cI th w h ms mu mb me mf mt mv ml mk) sz) := by
  refine xofW (cc := cX5_put) (maxL := 4) (ret := (some .int)) rfl (by decide) rfl ?_
  intro p e s m args below meth c ls Q A hQ hAe hx hb hr hml hown hts hlocks hnm hN hK H locs hP hD hS hA hl
  replace hown : s.vm.findClass RX5 = some m.cls := hown
  replace hl : lv_has ls 4 [(0, .ref (b 0)), (1, .int p1), (2, .int p2)] := hl
  have iX5 : ∀ w ∈ wsX50, w ∈ wsX5_put := by decide +kernel
  have f16 := hts (.fieldLink RX5 16 "CryptSumsModel" "stones" "[I") (by decide +kernel)
  have f47 := hts (.fieldLink RX5 47 "CryptSumsModel" "thrown" "I") (by decide +kernel)
  rw [mX5_put] at hM
  refine lv_aload_n hx hb dX5_put_0 rfl (lv_at hl 0 rfl) ?_
  refine lv_iconst (v := 0) hx hb dX5_put_1 (by decide) ?_
  refine va_put (D := D) (ci := 5) (v := .int (0 : Int32)) (ty := .int) (C := RX5) (T := TX5) (N := 12) hx hb hts iX5 tyX5 tyX5_ok nmX5 hown hK hP hD hS 0 rfl rfl 0 (by decide) f47 (fun _ h9 => h9) rfl (by decide +kernel) rfl rfl (Nat.le_of_ble_eq_true rfl) dX5_put_2 (fun H locs hP hD hS => ?_)
  replace hP : va_P D vwCl (mw b cI (0 : Int32) w h ms mu mb me mf mt mv ml mk) H := hP
  replace hD : va_D A (mw b cI (0 : Int32) w h ms mu mb me mf mt mv ml mk) := hD
  refine lv_aload_n hx hb dX5_put_5 rfl (lv_at hl 0 rfl) ?_
  refine lv_iload_n hx hb dX5_put_6 rfl (lv_at hl 1 rfl) ?_
  obtain ⟨x7, hC, hM⟩ := bd_s hM
  refine cR_i (va_runV (As := [.int p1]) (rest := []) ⟨hx, hb, hml, hown, hts⟩ (kX5_isCell (l := l) (D := D) (cI := cI) (cJ := cJ) N b (th := (0 : Int32)) (w := w) (h := h) (ms := ms) (mu := mu) (mb := mb) (me := me) (mf := mf) (mt := mt) (mv := mv) (ml := ml) (mk := mk) (p1 := p1) hC H.size) (cwV 1 hts gX5_put_X5_isCell rfl rfl rfl (by decide +kernel) ⟨Nat.le_of_ble_eq_true rfl, Nat.le_of_ble_eq_true rfl⟩) (preV [.int p1] hN hK hP hD (ci := 5) (q0 := 0) rfl rfl) rfl rfl hl.1 rfl (lv_room (Nat.le_of_ble_eq_true rfl)) dX5_put_7 ⟨Nat.le_of_ble_eq_true rfl, Nat.le_of_ble_eq_true rfl⟩) hP hS (fun r u H locs hw hP hS => ?_)
  obtain ⟨hw, hz7⟩ := hw
  rw [hw] at hz7
  rw [hw]
  refine lv_if_ne (tgt := 19) hx hb dX5_put_10 (by decide) (fun hcc => ?_) (fun hcc => ?_)
  · replace hM := it_n hcc hM
    refine lv_iload_n hx hb dX5_put_19 rfl (lv_at hl 2 rfl) ?_
    refine lv_iconst (v := 0) hx hb dX5_put_20 (by decide) ?_
    refine lv_bipush (v := 9) hx hb dX5_put_21 (by decide) ?_
    obtain ⟨x23, hC, hM⟩ := bd_s hM
    refine cR_i (va_runS (As := [.int p2, .int (0 : Int32), .int (9 : Int32)]) (rest := []) ⟨hx, hb, hml, hown, hts⟩ (kX5_isIn (l := l) (D := D) (cI := cI) (cJ := cJ) N (p1 := p2) (p2 := (0 : Int32)) (p3 := (9 : Int32)) hC H.size) (va_cwS 3 hts gX5_put_X5_isIn rfl rfl rfl (by decide +kernel) ⟨Nat.le_of_ble_eq_true rfl, Nat.le_of_ble_eq_true rfl⟩) (preS [.int p2, .int (0 : Int32), .int (9 : Int32)] hN hK (hP.sub (ws' := zw) [] rfl) (hD.sub (ws' := zw) [] (by decide) rfl)) rfl rfl hl.1 rfl (lv_room (Nat.le_of_ble_eq_true rfl)) dX5_put_23 ⟨Nat.le_of_ble_eq_true rfl, Nat.le_of_ble_eq_true rfl⟩) hP hS (fun r u H locs hw hP hS => ?_)
    obtain ⟨hw, hz23⟩ := hw
    rw [hw] at hz23
    rw [hw]
    refine lv_if_ne (tgt := 35) hx hb dX5_put_26 (by decide) (fun hcc => ?_) (fun hcc => ?_)
    · replace hM := it_n hcc hM
      refine lv_aload_n hx hb dX5_put_35 rfl (lv_at hl 0 rfl) ?_
      refine va_get (D := D) (ci := 5) (v := .ref (b 1)) (C := RX5) (T := TX5) (N := 12) hx hb hts iX5 hown hK hP 0 rfl rfl 3 (by decide) f16 (fun _ h9 => h9) rfl dX5_put_36 ?_
      refine lv_iload_n hx hb dX5_put_39 rfl (lv_at hl 1 rfl) ?_
      obtain ⟨hb40, hM⟩ := it_x hM
      refine va_iald (D := D) hx hb hK hP 1 0 rfl rfl hb40 dX5_put_40 ?_
      refine lv_iconst (v := -1) hx hb dX5_put_41 (by decide) ?_
      refine lv_icmp_ne (tgt := 51) hx hb dX5_put_42 (by decide) (fun hcc => ?_) (fun hcc => ?_)
      · replace hM := it_n hcc hM
        refine lv_aload_n hx hb dX5_put_51 rfl (lv_at hl 0 rfl) ?_
        refine va_get (D := D) (ci := 5) (v := .ref (b 1)) (C := RX5) (T := TX5) (N := 12) hx hb hts iX5 hown hK hP 0 rfl rfl 3 (by decide) f16 (fun _ h9 => h9) rfl dX5_put_52 ?_
        refine lv_iload_n hx hb dX5_put_55 rfl (lv_at hl 1 rfl) ?_
        obtain ⟨hb56, hM⟩ := it_x hM
        refine va_iald (D := D) hx hb hK hP 1 0 rfl rfl hb56 dX5_put_56 ?_
        refine lv_istore_n (lv' := [(3, .int (ms p1.toNatClampNeg)), (0, .ref (b 0)), (1, .int p1), (2, .int p2)]) hx hb dX5_put_57 rfl hl (by decide) rfl (fun ls hl => ?_)
        refine lv_aload_n hx hb dX5_put_58 rfl (lv_at hl 1 rfl) ?_
        refine va_get (D := D) (ci := 5) (v := .ref (b 1)) (C := RX5) (T := TX5) (N := 12) hx hb hts iX5 hown hK hP 0 rfl rfl 3 (by decide) f16 (fun _ h9 => h9) rfl dX5_put_59 ?_
        refine lv_iload_n hx hb dX5_put_62 rfl (lv_at hl 2 rfl) ?_
        refine lv_iload_n hx hb dX5_put_63 rfl (lv_at hl 3 rfl) ?_
        obtain ⟨hb64, hM⟩ := it_x hM
        refine va_iast (D := D) hx hb hK hP hD hS 1 0 rfl rfl hb64 dX5_put_64 (fun H locs hP hD hS => ?_)
        replace hP : va_P D vwCl (mw b cI (0 : Int32) w h (upd ms p1.toNatClampNeg p2) mu mb me mf mt mv ml mk) H := hP
        replace hD : va_D A (mw b cI (0 : Int32) w h (upd ms p1.toNatClampNeg p2) mu mb me mf mt mv ml mk) := hD
        refine lv_iload_n hx hb dX5_put_65 rfl (lv_at hl 0 rfl) ?_
        obtain rfl := Option.some.inj hM
        subst hQ hAe
        exact W.iret (v := (ms p1.toNatClampNeg)) hx hb hr (fun t ht hW => ⟨⟨(ms p1.toNatClampNeg), (), rfl, rfl, ⟨by rw [ht]; exact hP, hD⟩⟩, hS.F ht⟩) hS.2.2 dX5_put_66
      · replace hM := it_p hcc hM
        refine lv_aload_n hx hb dX5_put_45 rfl (lv_at hl 0 rfl) ?_
        refine lv_iconst (v := 3) hx hb dX5_put_46 (by decide) ?_
        obtain ⟨x47, hC, hM⟩ := bd_s hM
        refine cW_i [0, 1, 2, 3, 4, 5, 6] [] (va_runV (As := [.int (3 : Int32)]) (rest := []) ⟨hx, hb, hml, hown, hts⟩ (kX5_no (l := l) (D := D) (cI := cI) (cJ := cJ) N b (th := (0 : Int32)) (w := w) (h := h) (ms := ms) (mu := mu) (mb := mb) (me := me) (mf := mf) (mt := mt) (mv := mv) (ml := ml) (mk := mk) (p1 := (3 : Int32)) hC H.size) (cwV 1 hts gX5_put_X5_no rfl rfl rfl (by decide +kernel) ⟨Nat.le_of_ble_eq_true rfl, Nat.le_of_ble_eq_true rfl⟩) (preV [.int (3 : Int32)] hN hK hP hD (ci := 5) (q0 := 0) rfl rfl) rfl rfl hl.1 rfl (lv_room (Nat.le_of_ble_eq_true rfl)) dX5_put_47 ⟨Nat.le_of_ble_eq_true rfl, Nat.le_of_ble_eq_true rfl⟩) hP hD hS hA rfl (wr := []) rfl (by decide) (by decide) (fun r u47 H locs hw hP hD hS => ?_)
        replace hP : va_P D vwCl (mw b cI x47.2 w h ms mu mb me mf mt mv ml mk) H := hP
        replace hD : va_D A (mw b cI x47.2 w h ms mu mb me mf mt mv ml mk) := hD
        rw [hw]
        obtain rfl := Option.some.inj hM
        subst hQ hAe
        exact W.iret (v := x47.1) hx hb hr (fun t ht hW => ⟨⟨x47.1, (), rfl, rfl, ⟨by rw [ht]; exact hP, hD⟩⟩, hS.F ht⟩) hS.2.2 dX5_put_50
    · replace hM := it_p hcc hM
      refine lv_aload_n hx hb dX5_put_29 rfl (lv_at hl 0 rfl) ?_
      refine lv_iconst (v := 2) hx hb dX5_put_30 (by decide) ?_
      obtain ⟨x31, hC, hM⟩ := bd_s hM
      refine cW_i [0, 1, 2, 3, 4, 5, 6] [] (va_runV (As := [.int (2 : Int32)]) (rest := []) ⟨hx, hb, hml, hown, hts⟩ (kX5_no (l := l) (D := D) (cI := cI) (cJ := cJ) N b (th := (0 : Int32)) (w := w) (h := h) (ms := ms) (mu := mu) (mb := mb) (me := me) (mf := mf) (mt := mt) (mv := mv) (ml := ml) (mk := mk) (p1 := (2 : Int32)) hC H.size) (cwV 1 hts gX5_put_X5_no rfl rfl rfl (by decide +kernel) ⟨Nat.le_of_ble_eq_true rfl, Nat.le_of_ble_eq_true rfl⟩) (preV [.int (2 : Int32)] hN hK hP hD (ci := 5) (q0 := 0) rfl rfl) rfl rfl hl.1 rfl (lv_room (Nat.le_of_ble_eq_true rfl)) dX5_put_31 ⟨Nat.le_of_ble_eq_true rfl, Nat.le_of_ble_eq_true rfl⟩) hP hD hS hA rfl (wr := []) rfl (by decide) (by decide) (fun r u31 H locs hw hP hD hS => ?_)
      replace hP : va_P D vwCl (mw b cI x31.2 w h ms mu mb me mf mt mv ml mk) H := hP
      replace hD : va_D A (mw b cI x31.2 w h ms mu mb me mf mt mv ml mk) := hD
      rw [hw]
      obtain rfl := Option.some.inj hM
      subst hQ hAe
      exact W.iret (v := x31.1) hx hb hr (fun t ht hW => ⟨⟨x31.1, (), rfl, rfl, ⟨by rw [ht]; exact hP, hD⟩⟩, hS.F ht⟩) hS.2.2 dX5_put_34
  · replace hM := it_p hcc hM
    refine lv_aload_n hx hb dX5_put_13 rfl (lv_at hl 0 rfl) ?_
    refine lv_iconst (v := 1) hx hb dX5_put_14 (by decide) ?_
    obtain ⟨x15, hC, hM⟩ := bd_s hM
    refine cW_i [0, 1, 2, 3, 4, 5, 6] [] (va_runV (As := [.int (1 : Int32)]) (rest := []) ⟨hx, hb, hml, hown, hts⟩ (kX5_no (l := l) (D := D) (cI := cI) (cJ := cJ) N b (th := (0 : Int32)) (w := w) (h := h) (ms := ms) (mu := mu) (mb := mb) (me := me) (mf := mf) (mt := mt) (mv := mv) (ml := ml) (mk := mk) (p1 := (1 : Int32)) hC H.size) (cwV 1 hts gX5_put_X5_no rfl rfl rfl (by decide +kernel) ⟨Nat.le_of_ble_eq_true rfl, Nat.le_of_ble_eq_true rfl⟩) (preV [.int (1 : Int32)] hN hK hP hD (ci := 5) (q0 := 0) rfl rfl) rfl rfl hl.1 rfl (lv_room (Nat.le_of_ble_eq_true rfl)) dX5_put_15 ⟨Nat.le_of_ble_eq_true rfl, Nat.le_of_ble_eq_true rfl⟩) hP hD hS hA rfl (wr := []) rfl (by decide) (by decide) (fun r u15 H locs hw hP hD hS => ?_)
    replace hP : va_P D vwCl (mw b cI x15.2 w h ms mu mb me mf mt mv ml mk) H := hP
    replace hD : va_D A (mw b cI x15.2 w h ms mu mb me mf mt mv ml mk) := hD
    rw [hw]
    obtain rfl := Option.some.inj hM
    subst hQ hAe
    exact W.iret (v := x15.1) hx hb hr (fun t ht hW => ⟨⟨x15.1, (), rfl, rfl, ⟨by rw [ht]; exact hP, hD⟩⟩, hS.F ht⟩) hS.2.2 dX5_put_18
def mX5_single_2 (N : Nat) (w : Int32) (h : Int32) (mu : RowI) (mb : RowI) (me : RowI) (mf : RowI) : Nat → Int32 → RowI → Option (Int32 × RowI)
  | 0 => fun _ _ => none
  | n + 1 => fun v1 ms' => (if (w * h) ≤ v1 then
  some ((-1 : Int32), ms')
  else
  ((mX5_canOf N w h ms' mu mb me mf v1).bind fun x17 =>
  (if (bc x17.1) = (1 : Int32) then
  some (v1, x17.2)
  else
  (mX5_single_2 N w h mu mb me mf n (v1 + 1) x17.2))))
def mX5_single (N : Nat) (w : Int32) (h : Int32) (ms : RowI) (mu : RowI) (mb : RowI) (me : RowI) (mf : RowI) : Option (Int32 × RowI) :=
  (mX5_single_2 N w h mu mb me mf N (0 : Int32) ms)
abbrev rmX5_single : Room := { frames := 4, cells := 0, slots := 0, locals := 98 }
set_option maxHeartbeats 4000000 in
set_option maxRecDepth 100000 in
theorem kX5_single {l : Launch} {D : va_G} {cI cJ : ClassId} (N : Nat) (b : Nat → Nat) {th : Int32} {w : Int32} {h : Int32} {ms : RowI} {mu : RowI} {mb : RowI} {me : RowI} {mf : RowI} {mt : Int32} {mv : Int32} {ml : Int32} {mk : RowI} {o : (Int32 × RowI)} (hM : mX5_single N w h ms mu mb me mf = some o) (sz : Nat) : Met l yX5_single wsX5_single rmX5_single (va_Pc [.ref (b 0)] (Pre D cI cJ (mw b cI th w h ms mu mb me mf mt mv ml mk) sz)) (va_Qi (fun (r : Int32) (_ : Unit) => r = o.1) (aft D (mw b cI th w h ms mu mb me mf mt mv ml mk) sz (fun (_ : Unit) => (mw b cI th w h o.2 mu mb me mf mt mv ml mk))) (va_A (mw b cI th w h ms mu mb me mf mt mv ml mk) sz)) 0 0 (va_A (mw b cI th w h ms mu mb me mf mt mv ml mk) sz) := by
  refine xofW (cc := cX5_single) (maxL := 2) (ret := (some .int)) rfl (by decide) rfl ?_
  intro p e s m args below meth c ls Q A hQ hAe hx hb hr hml hown hts hlocks hnm hN hK H locs hP hD hS hA hl
  replace hown : s.vm.findClass RX5 = some m.cls := hown
  replace hl : lv_has ls 2 [(0, .ref (b 0))] := hl
  have iX5 : ∀ w ∈ wsX50, w ∈ wsX5_single := by decide +kernel
  have f13 := hts (.fieldLink RX5 13 "CryptSumsModel" "h" "I") (by decide +kernel)
  have f7 := hts (.fieldLink RX5 7 "CryptSumsModel" "w" "I") (by decide +kernel)
  have c2 : ∀ (n : Nat), ∀ (v1 : Int32) (ms' : RowI), mX5_single_2 N w h mu mb me mf n v1 ms' = some o → ∀ (H : Heap) (locs : List Loc) (ls : Array Slot), va_P D vwCl (mw b cI th w h ms' mu mb me mf mt mv ml mk) H → va_D A (mw b cI th w h ms' mu mb me mf mt mv ml mk) → va_S A s.heap H locs → lv_has ls 2 [(0, .ref (b 0)), (1, .int v1)] → W p l e rmX5_single s m args below meth c H locs 0 0 Q (F0 m 2 ls []) := by
    intro n
    induction n with
    | zero =>
      intro v1 ms' hM
      rw [mX5_single_2] at hM
      cases hM
    | succ n ih =>
      intro v1 ms' hM H locs ls hP hD hS hl
      rw [mX5_single_2] at hM
      refine lv_iload_n hx hb dX5_single_2 rfl (lv_at hl 1 rfl) ?_
      refine lv_aload_n hx hb dX5_single_3 rfl (lv_at hl 0 rfl) ?_
      refine va_get (D := D) (ci := 5) (v := .int w) (C := RX5) (T := TX5) (N := 12) hx hb hts iX5 hown hK hP 0 rfl rfl 1 (by decide) f7 (fun _ h9 => h9) rfl dX5_single_4 ?_
      refine lv_aload_n hx hb dX5_single_7 rfl (lv_at hl 0 rfl) ?_
      refine va_get (D := D) (ci := 5) (v := .int h) (C := RX5) (T := TX5) (N := 12) hx hb hts iX5 hown hK hP 0 rfl rfl 2 (by decide) f13 (fun _ h9 => h9) rfl dX5_single_8 ?_
      refine lv_imul hx hb dX5_single_11 ?_
      refine lv_icmp_ge (tgt := 35) hx hb dX5_single_12 (by decide) (fun hcc => ?_) (fun hcc => ?_)
      · replace hM := it_p hcc hM
        refine lv_iconst (v := -1) hx hb dX5_single_35 (by decide) ?_
        obtain rfl := Option.some.inj hM
        subst hQ hAe
        exact W.iret (v := (-1 : Int32)) hx hb hr (fun t ht hW => ⟨⟨(-1 : Int32), (), rfl, rfl, ⟨by rw [ht]; exact hP, hD⟩⟩, hS.F ht⟩) hS.2.2 dX5_single_36
      · replace hM := it_n hcc hM
        refine lv_aload_n hx hb dX5_single_15 rfl (lv_at hl 0 rfl) ?_
        refine lv_iload_n hx hb dX5_single_16 rfl (lv_at hl 1 rfl) ?_
        obtain ⟨x17, hC, hM⟩ := bd_s hM
        refine cW_i [0, 1, 2, 3, 4, 5, 6] [] (va_runV (As := [.int v1]) (rest := []) ⟨hx, hb, hml, hown, hts⟩ (kX5_canOf (l := l) (D := D) (cI := cI) (cJ := cJ) N b (th := th) (w := w) (h := h) (ms := ms') (mu := mu) (mb := mb) (me := me) (mf := mf) (mt := mt) (mv := mv) (ml := ml) (mk := mk) (p1 := v1) hC H.size) (cwV 1 hts gX5_single_X5_canOf rfl rfl rfl (by decide +kernel) ⟨Nat.le_of_ble_eq_true rfl, Nat.le_of_ble_eq_true rfl⟩) (preV [.int v1] hN hK hP hD (ci := 5) (q0 := 0) rfl rfl) rfl rfl hl.1 rfl (lv_room (Nat.le_of_ble_eq_true rfl)) dX5_single_17 ⟨Nat.le_of_ble_eq_true rfl, Nat.le_of_ble_eq_true rfl⟩) hP hD hS hA rfl (wr := []) rfl (by decide) (by decide) (fun r u17 H locs hw hP hD hS => ?_)
        replace hP : va_P D vwCl (mw b cI th w h x17.2 mu mb me mf mt mv ml mk) H := hP
        replace hD : va_D A (mw b cI th w h x17.2 mu mb me mf mt mv ml mk) := hD
        rw [hw]
        refine cR_i (va_runS (As := [.int x17.1]) (rest := []) ⟨hx, hb, hml, hown, hts⟩ (kJ6_bitCount (D := D) (cI := cI) (cJ := cJ) x17.1 H.size) (va_cwS 1 hts gX5_single_J6_bitCount_0f7a4 rfl rfl rfl (by decide +kernel) ⟨Nat.le_of_ble_eq_true rfl, Nat.le_of_ble_eq_true rfl⟩) (preS [.int x17.1] hN hK (hP.sub (ws' := zw) [] rfl) (hD.sub (ws' := zw) [] (by decide) rfl)) rfl rfl hl.1 rfl (lv_room (Nat.le_of_ble_eq_true rfl)) dX5_single_20 ⟨Nat.le_of_ble_eq_true rfl, Nat.le_of_ble_eq_true rfl⟩) hP hS (fun r u H locs hw hP hS => ?_)
        rw [hw]
        refine lv_iconst (v := 1) hx hb dX5_single_23 (by decide) ?_
        refine lv_icmp_ne (tgt := 29) hx hb dX5_single_24 (by decide) (fun hcc => ?_) (fun hcc => ?_)
        · replace hM := it_n hcc hM
          refine lv_iinc (v := (v1 + 1)) (lv' := [(1, .int (v1 + 1)), (0, .ref (b 0))]) hx hb dX5_single_29 hl (k := 1) rfl (by rfl) (by decide) rfl (fun ls hl => ?_)
          refine lv_goto (tgt := 2) hx hb dX5_single_32 (by decide) ?_
          exact ih (v1 + 1) x17.2 hM H locs ls hP hD hS (lv_sub hl [1, 0] rfl)
        · replace hM := it_p hcc hM
          refine lv_iload_n hx hb dX5_single_27 rfl (lv_at hl 1 rfl) ?_
          obtain rfl := Option.some.inj hM
          subst hQ hAe
          exact W.iret (v := v1) hx hb hr (fun t ht hW => ⟨⟨v1, (), rfl, rfl, ⟨by rw [ht]; exact hP, hD⟩⟩, hS.F ht⟩) hS.2.2 dX5_single_28
  rw [mX5_single] at hM
  refine lv_iconst (v := 0) hx hb dX5_single_0 (by decide) ?_
  refine lv_istore_n (lv' := [(1, .int (0 : Int32)), (0, .ref (b 0))]) hx hb dX5_single_1 rfl hl (by decide) rfl (fun ls hl => ?_)
  exact c2 N (0 : Int32) ms hM H locs ls hP hD hS (lv_sub hl [1, 0] rfl)
def mX5_force_12 (N : Nat) (w : Int32) (h : Int32) (mu : RowI) (mb : RowI) (me : RowI) (mf : RowI) : Nat → Int32 → Int32 → Int32 → RowI → Option (Int32 × Int32 × RowI)
  | 0 => fun _ _ _ _ => none
  | n + 1 => fun v1 v2 th' ms' => (if v2 = (-1 : Int32) then
  some (v1, th', ms')
  else
  ((mX5_canOf N w h ms' mu mb me mf v2).bind fun x24 =>
  ((mJ6_numberOfTrailingZeros N x24.1).bind fun x27 =>
  (if bad v2 36 then none else
  ((mX5_single N w h (upd x24.2 v2.toNatClampNeg x27) mu mb me mf).bind fun x35 =>
  (mX5_force_12 N w h mu mb me mf n (v1 + 1) x35.1 th' x35.2))))))
def mX5_force (N : Nat) (th : Int32) (w : Int32) (h : Int32) (ms : RowI) (mu : RowI) (mb : RowI) (me : RowI) (mf : RowI) : Option (Int32 × Int32 × RowI) :=
  ((mX5_single N w h ms mu mb me mf).bind fun x8 =>
  (mX5_force_12 N w h mu mb me mf N (0 : Int32) x8.1 (0 : Int32) x8.2))
abbrev rmX5_force : Room := { frames := 5, cells := 0, slots := 0, locals := 119 }
set_option maxHeartbeats 4000000 in
set_option maxRecDepth 100000 in
theorem kX5_force {l : Launch} {D : va_G} {cI cJ : ClassId} (N : Nat) (b : Nat → Nat) {th : Int32} {w : Int32} {h : Int32} {ms : RowI} {mu : RowI} {mb : RowI} {me : RowI} {mf : RowI} {mt : Int32} {mv : Int32} {ml : Int32} {mk : RowI} {o : (Int32 × Int32 × RowI)} (hM : mX5_force N th w h ms mu mb me mf = some o) (sz : Nat) : Met l yX5_force wsX5_force rmX5_force (va_Pc [.ref (b 0)] (Pre D cI cJ (mw b cI th w h ms mu mb me mf mt mv ml mk) sz)) (va_Qi (fun (r : Int32) (_ : Unit) => r = o.1) (aft D (mw b cI th w h ms mu mb me mf mt mv ml mk) sz (fun (_ : Unit) => (mw b cI o.2.1 w h o.2.2 mu mb me mf mt mv ml mk))) (va_A (mw b cI th w h ms mu mb me mf mt mv ml mk) sz)) 0 0 (va_A (mw b cI th w h ms mu mb me mf mt mv ml mk) sz) := by
  refine xofW (cc := cX5_force) (maxL := 3) (ret := (some .int)) rfl (by decide) rfl ?_
  intro p e s m args below meth c ls Q A hQ hAe hx hb hr hml hown hts hlocks hnm hN hK H locs hP hD hS hA hl
  replace hown : s.vm.findClass RX5 = some m.cls := hown
  replace hl : lv_has ls 3 [(0, .ref (b 0))] := hl
  have iX5 : ∀ w ∈ wsX50, w ∈ wsX5_force := by decide +kernel
  have f16 := hts (.fieldLink RX5 16 "CryptSumsModel" "stones" "[I") (by decide +kernel)
  have f47 := hts (.fieldLink RX5 47 "CryptSumsModel" "thrown" "I") (by decide +kernel)
  have c12 : ∀ (n : Nat), ∀ (v1 : Int32) (v2 : Int32) (th' : Int32) (ms' : RowI), mX5_force_12 N w h mu mb me mf n v1 v2 th' ms' = some o → ∀ (H : Heap) (locs : List Loc) (ls : Array Slot), va_P D vwCl (mw b cI th' w h ms' mu mb me mf mt mv ml mk) H → va_D A (mw b cI th' w h ms' mu mb me mf mt mv ml mk) → va_S A s.heap H locs → lv_has ls 3 [(0, .ref (b 0)), (1, .int v1), (2, .int v2)] → W p l e rmX5_force s m args below meth c H locs 0 0 Q (F0 m 12 ls []) := by
    intro n
    induction n with
    | zero =>
      intro v1 v2 th' ms' hM
      rw [mX5_force_12] at hM
      cases hM
    | succ n ih =>
      intro v1 v2 th' ms' hM H locs ls hP hD hS hl
      rw [mX5_force_12] at hM
      refine lv_iload_n hx hb dX5_force_12 rfl (lv_at hl 2 rfl) ?_
      refine lv_iconst (v := -1) hx hb dX5_force_13 (by decide) ?_
      refine lv_icmp_eq (tgt := 42) hx hb dX5_force_14 (by decide) (fun hcc => ?_) (fun hcc => ?_)
      · replace hM := it_p hcc hM
        refine lv_iload_n hx hb dX5_force_42 rfl (lv_at hl 1 rfl) ?_
        obtain rfl := Option.some.inj hM
        subst hQ hAe
        exact W.iret (v := v1) hx hb hr (fun t ht hW => ⟨⟨v1, (), rfl, rfl, ⟨by rw [ht]; exact hP, hD⟩⟩, hS.F ht⟩) hS.2.2 dX5_force_43
      · replace hM := it_n hcc hM
        refine lv_aload_n hx hb dX5_force_17 rfl (lv_at hl 0 rfl) ?_
        refine va_get (D := D) (ci := 5) (v := .ref (b 1)) (C := RX5) (T := TX5) (N := 12) hx hb hts iX5 hown hK hP 0 rfl rfl 3 (by decide) f16 (fun _ h9 => h9) rfl dX5_force_18 ?_
        refine lv_iload_n hx hb dX5_force_21 rfl (lv_at hl 2 rfl) ?_
        refine lv_aload_n hx hb dX5_force_22 rfl (lv_at hl 0 rfl) ?_
        refine lv_iload_n hx hb dX5_force_23 rfl (lv_at hl 2 rfl) ?_
        obtain ⟨x24, hC, hM⟩ := bd_s hM
        refine cW_i [0, 1, 2, 3, 4, 5, 6] [] (va_runV (As := [.int v2]) (rest := [.int v2, .ref (b 1)]) ⟨hx, hb, hml, hown, hts⟩ (kX5_canOf (l := l) (D := D) (cI := cI) (cJ := cJ) N b (th := th') (w := w) (h := h) (ms := ms') (mu := mu) (mb := mb) (me := me) (mf := mf) (mt := mt) (mv := mv) (ml := ml) (mk := mk) (p1 := v2) hC H.size) (cwV 1 hts gX5_force_X5_canOf rfl rfl rfl (by decide +kernel) ⟨Nat.le_of_ble_eq_true rfl, Nat.le_of_ble_eq_true rfl⟩) (preV [.int v2] hN hK hP hD (ci := 5) (q0 := 0) rfl rfl) rfl rfl hl.1 rfl (lv_room (Nat.le_of_ble_eq_true rfl)) dX5_force_24 ⟨Nat.le_of_ble_eq_true rfl, Nat.le_of_ble_eq_true rfl⟩) hP hD hS hA rfl (wr := []) rfl (by decide) (by decide) (fun r u24 H locs hw hP hD hS => ?_)
        replace hP : va_P D vwCl (mw b cI th' w h x24.2 mu mb me mf mt mv ml mk) H := hP
        replace hD : va_D A (mw b cI th' w h x24.2 mu mb me mf mt mv ml mk) := hD
        rw [hw]
        obtain ⟨x27, hC, hM⟩ := bd_s hM
        refine cR_i (va_runS (As := [.int x24.1]) (rest := [.int v2, .ref (b 1)]) ⟨hx, hb, hml, hown, hts⟩ (kJ6_numberOfTrailingZeros (l := l) (D := D) (cI := cI) (cJ := cJ) N (p1 := x24.1) hC H.size) (va_cwS 1 hts gX5_force_J6_numberOfTrailingZeros_0f7a4 rfl rfl rfl (by decide +kernel) ⟨Nat.le_of_ble_eq_true rfl, Nat.le_of_ble_eq_true rfl⟩) (preS [.int x24.1] hN hK (hP.sub (ws' := zw) [] rfl) (hD.sub (ws' := zw) [] (by decide) rfl)) rfl rfl hl.1 rfl (lv_room (Nat.le_of_ble_eq_true rfl)) dX5_force_27 ⟨Nat.le_of_ble_eq_true rfl, Nat.le_of_ble_eq_true rfl⟩) hP hS (fun r u H locs hw hP hS => ?_)
        rw [hw]
        obtain ⟨hb30, hM⟩ := it_x hM
        refine va_iast (D := D) hx hb hK hP hD hS 1 0 rfl rfl hb30 dX5_force_30 (fun H locs hP hD hS => ?_)
        replace hP : va_P D vwCl (mw b cI th' w h (upd x24.2 v2.toNatClampNeg x27) mu mb me mf mt mv ml mk) H := hP
        replace hD : va_D A (mw b cI th' w h (upd x24.2 v2.toNatClampNeg x27) mu mb me mf mt mv ml mk) := hD
        refine lv_iinc (v := (v1 + 1)) (lv' := [(1, .int (v1 + 1)), (0, .ref (b 0)), (2, .int v2)]) hx hb dX5_force_31 hl (k := 1) rfl (by rfl) (by decide) rfl (fun ls hl => ?_)
        refine lv_aload_n hx hb dX5_force_34 rfl (lv_at hl 1 rfl) ?_
        obtain ⟨x35, hC, hM⟩ := bd_s hM
        refine cW_i [0, 1, 2, 3, 4, 5, 6] [] (va_runV (As := []) (rest := []) ⟨hx, hb, hml, hown, hts⟩ (kX5_single (l := l) (D := D) (cI := cI) (cJ := cJ) N b (th := th') (w := w) (h := h) (ms := (upd x24.2 v2.toNatClampNeg x27)) (mu := mu) (mb := mb) (me := me) (mf := mf) (mt := mt) (mv := mv) (ml := ml) (mk := mk) hC H.size) (cwV 0 hts gX5_force_X5_single rfl rfl rfl (by decide +kernel) ⟨Nat.le_of_ble_eq_true rfl, Nat.le_of_ble_eq_true rfl⟩) (preV [] hN hK hP hD (ci := 5) (q0 := 0) rfl rfl) rfl rfl hl.1 rfl (lv_room (Nat.le_of_ble_eq_true rfl)) dX5_force_35 ⟨Nat.le_of_ble_eq_true rfl, Nat.le_of_ble_eq_true rfl⟩) hP hD hS hA rfl (wr := []) rfl (by decide) (by decide) (fun r u35 H locs hw hP hD hS => ?_)
        replace hP : va_P D vwCl (mw b cI th' w h x35.2 mu mb me mf mt mv ml mk) H := hP
        replace hD : va_D A (mw b cI th' w h x35.2 mu mb me mf mt mv ml mk) := hD
        rw [hw]
        refine lv_istore_n (lv' := [(2, .int x35.1), (1, .int (v1 + 1)), (0, .ref (b 0))]) hx hb dX5_force_38 rfl hl (by decide) rfl (fun ls hl => ?_)
        refine lv_goto (tgt := 12) hx hb dX5_force_39 (by decide) ?_
        exact ih (v1 + 1) x35.1 th' x35.2 hM H locs ls hP hD hS (lv_sub hl [2, 1, 0] rfl)
  rw [mX5_force] at hM
  refine lv_aload_n hx hb dX5_force_0 rfl (lv_at hl 0 rfl) ?_
  refine lv_iconst (v := 0) hx hb dX5_force_1 (by decide) ?_
  refine va_put (D := D) (ci := 5) (v := .int (0 : Int32)) (ty := .int) (C := RX5) (T := TX5) (N := 12) hx hb hts iX5 tyX5 tyX5_ok nmX5 hown hK hP hD hS 0 rfl rfl 0 (by decide) f47 (fun _ h9 => h9) rfl (by decide +kernel) rfl rfl (Nat.le_of_ble_eq_true rfl) dX5_force_2 (fun H locs hP hD hS => ?_)
  replace hP : va_P D vwCl (mw b cI (0 : Int32) w h ms mu mb me mf mt mv ml mk) H := hP
  replace hD : va_D A (mw b cI (0 : Int32) w h ms mu mb me mf mt mv ml mk) := hD
  refine lv_iconst (v := 0) hx hb dX5_force_5 (by decide) ?_
  refine lv_istore_n (lv' := [(1, .int (0 : Int32)), (0, .ref (b 0))]) hx hb dX5_force_6 rfl hl (by decide) rfl (fun ls hl => ?_)
  refine lv_aload_n hx hb dX5_force_7 rfl (lv_at hl 1 rfl) ?_
  obtain ⟨x8, hC, hM⟩ := bd_s hM
  refine cW_i [0, 1, 2, 3, 4, 5, 6] [] (va_runV (As := []) (rest := []) ⟨hx, hb, hml, hown, hts⟩ (kX5_single (l := l) (D := D) (cI := cI) (cJ := cJ) N b (th := (0 : Int32)) (w := w) (h := h) (ms := ms) (mu := mu) (mb := mb) (me := me) (mf := mf) (mt := mt) (mv := mv) (ml := ml) (mk := mk) hC H.size) (cwV 0 hts gX5_force_X5_single rfl rfl rfl (by decide +kernel) ⟨Nat.le_of_ble_eq_true rfl, Nat.le_of_ble_eq_true rfl⟩) (preV [] hN hK hP hD (ci := 5) (q0 := 0) rfl rfl) rfl rfl hl.1 rfl (lv_room (Nat.le_of_ble_eq_true rfl)) dX5_force_8 ⟨Nat.le_of_ble_eq_true rfl, Nat.le_of_ble_eq_true rfl⟩) hP hD hS hA rfl (wr := []) rfl (by decide) (by decide) (fun r u8 H locs hw hP hD hS => ?_)
  replace hP : va_P D vwCl (mw b cI (0 : Int32) w h x8.2 mu mb me mf mt mv ml mk) H := hP
  replace hD : va_D A (mw b cI (0 : Int32) w h x8.2 mu mb me mf mt mv ml mk) := hD
  rw [hw]
  refine lv_istore_n (lv' := [(2, .int x8.1), (1, .int (0 : Int32)), (0, .ref (b 0))]) hx hb dX5_force_11 rfl hl (by decide) rfl (fun ls hl => ?_)
  exact c12 N (0 : Int32) x8.1 (0 : Int32) x8.2 hM H locs ls hP hD hS (lv_sub hl [2, 1, 0] rfl)
def mX5_stone (N : Nat) (th : Int32) (w : Int32) (h : Int32) (ms : RowI) (p1 : Int32) : Option (Int32 × Int32) :=
  ((mX5_isCell N w h p1).bind fun x7 =>
  (if x7 = 0 then
  ((mX5_no N (0 : Int32) (1 : Int32)).bind fun x24 =>
  some (x24.1, x24.2))
  else
  (if bad p1 36 then none else
  some ((ms p1.toNatClampNeg), (0 : Int32)))))
abbrev rmX5_stone : Room := { frames := 2, cells := 0, slots := 0, locals := 43 }
set_option maxHeartbeats 4000000 in
set_option maxRecDepth 100000 in
theorem kX5_stone {l : Launch} {D : va_G} {cI cJ : ClassId} (N : Nat) (b : Nat → Nat) {th : Int32} {w : Int32} {h : Int32} {ms : RowI} {mu : RowI} {mb : RowI} {me : RowI} {mf : RowI} {mt : Int32} {mv : Int32} {ml : Int32} {mk : RowI} {p1 : Int32} {o : (Int32 × Int32)} (hM : mX5_stone N th w h ms p1 = some o) (sz : Nat) : Met l yX5_stone wsX5_stone rmX5_stone (va_Pc [.ref (b 0), .int p1] (Pre D cI cJ (mw b cI th w h ms mu mb me mf mt mv ml mk) sz)) (va_Qi (fun (r : Int32) (_ : Unit) => r = o.1) (aft D (mw b cI th w h ms mu mb me mf mt mv ml mk) sz (fun (_ : Unit) => (mw b cI o.2 w h ms mu mb me mf mt mv ml mk))) (va_A (mw b cI th w h ms mu mb me mf mt mv ml mk) sz)) 0 0 (va_A (mw b cI th w h ms mu mb me mf mt mv ml mk) sz) := by
  refine xofW (cc := cX5_stone) (maxL := 2) (ret := (some .int)) rfl (by decide) rfl ?_
  intro p e s m args below meth c ls Q A hQ hAe hx hb hr hml hown hts hlocks hnm hN hK H locs hP hD hS hA hl
  replace hown : s.vm.findClass RX5 = some m.cls := hown
  replace hl : lv_has ls 2 [(0, .ref (b 0)), (1, .int p1)] := hl
  have iX5 : ∀ w ∈ wsX50, w ∈ wsX5_stone := by decide +kernel
  have f16 := hts (.fieldLink RX5 16 "CryptSumsModel" "stones" "[I") (by decide +kernel)
  have f47 := hts (.fieldLink RX5 47 "CryptSumsModel" "thrown" "I") (by decide +kernel)
  rw [mX5_stone] at hM
  refine lv_aload_n hx hb dX5_stone_0 rfl (lv_at hl 0 rfl) ?_
  refine lv_iconst (v := 0) hx hb dX5_stone_1 (by decide) ?_
  refine va_put (D := D) (ci := 5) (v := .int (0 : Int32)) (ty := .int) (C := RX5) (T := TX5) (N := 12) hx hb hts iX5 tyX5 tyX5_ok nmX5 hown hK hP hD hS 0 rfl rfl 0 (by decide) f47 (fun _ h9 => h9) rfl (by decide +kernel) rfl rfl (Nat.le_of_ble_eq_true rfl) dX5_stone_2 (fun H locs hP hD hS => ?_)
  replace hP : va_P D vwCl (mw b cI (0 : Int32) w h ms mu mb me mf mt mv ml mk) H := hP
  replace hD : va_D A (mw b cI (0 : Int32) w h ms mu mb me mf mt mv ml mk) := hD
  refine lv_aload_n hx hb dX5_stone_5 rfl (lv_at hl 0 rfl) ?_
  refine lv_iload_n hx hb dX5_stone_6 rfl (lv_at hl 1 rfl) ?_
  obtain ⟨x7, hC, hM⟩ := bd_s hM
  refine cR_i (va_runV (As := [.int p1]) (rest := []) ⟨hx, hb, hml, hown, hts⟩ (kX5_isCell (l := l) (D := D) (cI := cI) (cJ := cJ) N b (th := (0 : Int32)) (w := w) (h := h) (ms := ms) (mu := mu) (mb := mb) (me := me) (mf := mf) (mt := mt) (mv := mv) (ml := ml) (mk := mk) (p1 := p1) hC H.size) (cwV 1 hts gX5_stone_X5_isCell rfl rfl rfl (by decide +kernel) ⟨Nat.le_of_ble_eq_true rfl, Nat.le_of_ble_eq_true rfl⟩) (preV [.int p1] hN hK hP hD (ci := 5) (q0 := 0) rfl rfl) rfl rfl hl.1 rfl (lv_room (Nat.le_of_ble_eq_true rfl)) dX5_stone_7 ⟨Nat.le_of_ble_eq_true rfl, Nat.le_of_ble_eq_true rfl⟩) hP hS (fun r u H locs hw hP hS => ?_)
  obtain ⟨hw, hz7⟩ := hw
  rw [hw] at hz7
  rw [hw]
  refine lv_if_eq (tgt := 22) hx hb dX5_stone_10 (by decide) (fun hcc => ?_) (fun hcc => ?_)
  · replace hM := it_p hcc hM
    refine lv_aload_n hx hb dX5_stone_22 rfl (lv_at hl 0 rfl) ?_
    refine lv_iconst (v := 1) hx hb dX5_stone_23 (by decide) ?_
    obtain ⟨x24, hC, hM⟩ := bd_s hM
    refine cW_i [0, 1, 2, 3, 4, 5, 6] [] (va_runV (As := [.int (1 : Int32)]) (rest := []) ⟨hx, hb, hml, hown, hts⟩ (kX5_no (l := l) (D := D) (cI := cI) (cJ := cJ) N b (th := (0 : Int32)) (w := w) (h := h) (ms := ms) (mu := mu) (mb := mb) (me := me) (mf := mf) (mt := mt) (mv := mv) (ml := ml) (mk := mk) (p1 := (1 : Int32)) hC H.size) (cwV 1 hts gX5_stone_X5_no rfl rfl rfl (by decide +kernel) ⟨Nat.le_of_ble_eq_true rfl, Nat.le_of_ble_eq_true rfl⟩) (preV [.int (1 : Int32)] hN hK hP hD (ci := 5) (q0 := 0) rfl rfl) rfl rfl hl.1 rfl (lv_room (Nat.le_of_ble_eq_true rfl)) dX5_stone_24 ⟨Nat.le_of_ble_eq_true rfl, Nat.le_of_ble_eq_true rfl⟩) hP hD hS hA rfl (wr := []) rfl (by decide) (by decide) (fun r u24 H locs hw hP hD hS => ?_)
    replace hP : va_P D vwCl (mw b cI x24.2 w h ms mu mb me mf mt mv ml mk) H := hP
    replace hD : va_D A (mw b cI x24.2 w h ms mu mb me mf mt mv ml mk) := hD
    rw [hw]
    obtain rfl := Option.some.inj hM
    subst hQ hAe
    exact W.iret (v := x24.1) hx hb hr (fun t ht hW => ⟨⟨x24.1, (), rfl, rfl, ⟨by rw [ht]; exact hP, hD⟩⟩, hS.F ht⟩) hS.2.2 dX5_stone_27
  · replace hM := it_n hcc hM
    refine lv_aload_n hx hb dX5_stone_13 rfl (lv_at hl 0 rfl) ?_
    refine va_get (D := D) (ci := 5) (v := .ref (b 1)) (C := RX5) (T := TX5) (N := 12) hx hb hts iX5 hown hK hP 0 rfl rfl 3 (by decide) f16 (fun _ h9 => h9) rfl dX5_stone_14 ?_
    refine lv_iload_n hx hb dX5_stone_17 rfl (lv_at hl 1 rfl) ?_
    obtain ⟨hb18, hM⟩ := it_x hM
    refine va_iald (D := D) hx hb hK hP 1 0 rfl rfl hb18 dX5_stone_18 ?_
    refine lv_goto (tgt := 27) hx hb dX5_stone_19 (by decide) ?_
    obtain rfl := Option.some.inj hM
    subst hQ hAe
    exact W.iret (v := (ms p1.toNatClampNeg)) hx hb hr (fun t ht hW => ⟨⟨(ms p1.toNatClampNeg), (), rfl, rfl, ⟨by rw [ht]; exact hP, hD⟩⟩, hS.F ht⟩) hS.2.2 dX5_stone_27
def mX5_corridorTold_62 (N : Nat) (w : Int32) (h : Int32) (ms : RowI) (mu : RowI) (mb : RowI) (me : RowI) (mf : RowI) (p1 : Int32) (p2 : Int32) (p3 : Int32) (K33 : Int32 → Int32 → Int32 → Int32 → Int32 → Option Int32) (v4 : Int32) (v5 : Int32) (v7 : Int32) (v8 : Int32) (s0 : Int32) (s1 : Int32) : Option Int32 :=
  (if bad v8 36 then none else
  ((mX5_behind N w h v8 p2).bind fun x81 =>
  (K33 v4 v5 (s1 + s0) (v7 + (ms v8.toNatClampNeg)) x81)))
def mX5_corridorTold_33 (N : Nat) (w : Int32) (h : Int32) (ms : RowI) (mu : RowI) (mb : RowI) (me : RowI) (mf : RowI) (p1 : Int32) (p2 : Int32) (p3 : Int32) : Nat → Int32 → Int32 → Int32 → Int32 → Int32 → Option Int32
  | 0 => fun _ _ _ _ _ => none
  | n + 1 => fun v4 v5 v6 v7 v8 => ((mX5_isOpen N ms v8).bind fun x36 =>
  (if x36 = 0 then
  (if p3 = 0 then
  some v4
  else (if p3 = 1 then
  some v5
  else (if p3 = 2 then
  (if bad (((36 : Int32) * p2) + v4) 72 then none else
  some (mu (((36 : Int32) * p2) + v4).toNatClampNeg))
  else (if p3 = 3 then
  some v6
  else (if p3 = 4 then
  some v7
  else ((mX5_isWell N w h ms mu mb me mf p1 p2).bind fun x152 =>
  (if x152 = 0 then
  some (0 : Int32)
  else
  some (1 : Int32))))))))
  else
  (if bad v8 36 then none else
  (if (ms v8.toNatClampNeg) ≤ 0 then
  (mX5_corridorTold_62 N w h ms mu mb me mf p1 p2 p3 (mX5_corridorTold_33 N w h ms mu mb me mf p1 p2 p3 n) v4 (v5 + 1) v7 v8 (0 : Int32) v6)
  else
  (mX5_corridorTold_62 N w h ms mu mb me mf p1 p2 p3 (mX5_corridorTold_33 N w h ms mu mb me mf p1 p2 p3 n) v4 (v5 + 1) v7 v8 (1 : Int32) v6)))))
def mX5_corridorTold (N : Nat) (w : Int32) (h : Int32) (ms : RowI) (mu : RowI) (mb : RowI) (me : RowI) (mf : RowI) (p1 : Int32) (p2 : Int32) (p3 : Int32) : Option Int32 :=
  (if bad p1 36 then none else
  (if (ms p1.toNatClampNeg) = (-1 : Int32) then
  some (-1 : Int32)
  else
  ((mX5_beginOf N mb p1 p2).bind fun x15 =>
  (mX5_corridorTold_33 N w h ms mu mb me mf p1 p2 p3 N x15 (0 : Int32) (0 : Int32) (0 : Int32) x15))))
abbrev rmX5_corridorTold : Room := { frames := 2, cells := 0, slots := 0, locals := 52 }
set_option maxHeartbeats 4000000 in
set_option maxRecDepth 100000 in
theorem kX5_corridorTold {l : Launch} {D : va_G} {cI cJ : ClassId} (N : Nat) (b : Nat → Nat) {th : Int32} {w : Int32} {h : Int32} {ms : RowI} {mu : RowI} {mb : RowI} {me : RowI} {mf : RowI} {mt : Int32} {mv : Int32} {ml : Int32} {mk : RowI} {p1 : Int32} {p2 : Int32} {p3 : Int32} {o : Int32} (hM : mX5_corridorTold N w h ms mu mb me mf p1 p2 p3 = some o) (sz : Nat) : Met l yX5_corridorTold wsX5_corridorTold rmX5_corridorTold (va_Pc [.ref (b 0), .int p1, .int p2, .int p3] (Pre D cI cJ (mw b cI th w h ms mu mb me mf mt mv ml mk) sz)) (va_Qi (fun (r : Int32) (_ : Unit) => r = o) (fun _ _ => True) (fun _ => False)) 0 0 (fun _ => False) := by
  refine xofR (cc := cX5_corridorTold) (maxL := 9) (ret := (some .int)) rfl (by decide) rfl ?_
  intro p e s m args below meth c ls Q A hQ hAe hx hb hr hml hown hts hlocks hN hK H locs hP hD hS hl
  replace hown : s.vm.findClass RX5 = some m.cls := hown
  replace hl : lv_has ls 9 [(0, .ref (b 0)), (1, .int p1), (2, .int p2), (3, .int p3)] := hl
  have iX5 : ∀ w ∈ wsX50, w ∈ wsX5_corridorTold := by decide +kernel
  have f16 := hts (.fieldLink RX5 16 "CryptSumsModel" "stones" "[I") (by decide +kernel)
  have f20 := hts (.fieldLink RX5 20 "CryptSumsModel" "sums" "[I") (by decide +kernel)
  have c62 : ∀ (K33 : Int32 → Int32 → Int32 → Int32 → Int32 → Option Int32) (hK33 : ∀ (v4 : Int32) (v5 : Int32) (v6 : Int32) (v7 : Int32) (v8 : Int32), K33 v4 v5 v6 v7 v8 = some o → ∀ (H : Heap) (locs : List Loc) (ls : Array Slot), va_P D vwCl (mw b cI th w h ms mu mb me mf mt mv ml mk) H → va_S A s.heap H locs → lv_has ls 9 [(0, .ref (b 0)), (1, .int p1), (2, .int p2), (3, .int p3), (4, .int v4), (5, .int v5), (6, .int v6), (7, .int v7), (8, .int v8)] → W p l e rmX5_corridorTold s m args below meth c H locs 0 0 Q (F0 m 33 ls [])) , ∀ (v4 : Int32) (v5 : Int32) (v7 : Int32) (v8 : Int32) (s0 : Int32) (s1 : Int32), mX5_corridorTold_62 N w h ms mu mb me mf p1 p2 p3 K33 v4 v5 v7 v8 s0 s1 = some o → ∀ (H : Heap) (locs : List Loc) (ls : Array Slot), va_P D vwCl (mw b cI th w h ms mu mb me mf mt mv ml mk) H → va_S A s.heap H locs → lv_has ls 9 [(0, .ref (b 0)), (1, .int p1), (2, .int p2), (3, .int p3), (4, .int v4), (5, .int v5), (7, .int v7), (8, .int v8)] → W p l e rmX5_corridorTold s m args below meth c H locs 0 0 Q (F0 m 62 ls [.int s0, .int s1]) := by
      intro K33 hK33 v4 v5 v7 v8 s0 s1 hM H locs ls hP hS hl
      rw [mX5_corridorTold_62] at hM
      refine lv_iadd hx hb dX5_corridorTold_62 ?_
      refine lv_istore (lv' := [(6, .int (s1 + s0)), (0, .ref (b 0)), (1, .int p1), (2, .int p2), (3, .int p3), (4, .int v4), (5, .int v5), (7, .int v7), (8, .int v8)]) hx hb dX5_corridorTold_63 hl (by decide) rfl (fun ls hl => ?_)
      refine lv_iload hx hb dX5_corridorTold_65 (lv_at hl 7 rfl) ?_
      refine lv_aload_n hx hb dX5_corridorTold_67 rfl (lv_at hl 1 rfl) ?_
      refine va_get (D := D) (ci := 5) (v := .ref (b 1)) (C := RX5) (T := TX5) (N := 12) hx hb hts iX5 hown hK hP 0 rfl rfl 3 (by decide) f16 (fun _ h9 => h9) rfl dX5_corridorTold_68 ?_
      refine lv_iload hx hb dX5_corridorTold_71 (lv_at hl 8 rfl) ?_
      obtain ⟨hb73, hM⟩ := it_x hM
      refine va_iald (D := D) hx hb hK hP 1 0 rfl rfl hb73 dX5_corridorTold_73 ?_
      refine lv_iadd hx hb dX5_corridorTold_74 ?_
      refine lv_istore (lv' := [(7, .int (v7 + (ms v8.toNatClampNeg))), (6, .int (s1 + s0)), (0, .ref (b 0)), (1, .int p1), (2, .int p2), (3, .int p3), (4, .int v4), (5, .int v5), (8, .int v8)]) hx hb dX5_corridorTold_75 hl (by decide) rfl (fun ls hl => ?_)
      refine lv_aload_n hx hb dX5_corridorTold_77 rfl (lv_at hl 2 rfl) ?_
      refine lv_iload hx hb dX5_corridorTold_78 (lv_at hl 8 rfl) ?_
      refine lv_iload_n hx hb dX5_corridorTold_80 rfl (lv_at hl 4 rfl) ?_
      obtain ⟨x81, hC, hM⟩ := bd_s hM
      refine cR_i (va_runV (As := [.int v8, .int p2]) (rest := []) ⟨hx, hb, hml, hown, hts⟩ (kX5_behind (l := l) (D := D) (cI := cI) (cJ := cJ) N b (th := th) (w := w) (h := h) (ms := ms) (mu := mu) (mb := mb) (me := me) (mf := mf) (mt := mt) (mv := mv) (ml := ml) (mk := mk) (p1 := v8) (p2 := p2) hC H.size) (cwV 2 hts gX5_corridorTold_X5_behind rfl rfl rfl (by decide +kernel) ⟨Nat.le_of_ble_eq_true rfl, Nat.le_of_ble_eq_true rfl⟩) (preV [.int v8, .int p2] hN hK hP hD (ci := 5) (q0 := 0) rfl rfl) rfl rfl hl.1 rfl (lv_room (Nat.le_of_ble_eq_true rfl)) dX5_corridorTold_81 ⟨Nat.le_of_ble_eq_true rfl, Nat.le_of_ble_eq_true rfl⟩) hP hS (fun r u H locs hw hP hS => ?_)
      rw [hw]
      refine lv_istore (lv' := [(8, .int x81), (7, .int (v7 + (ms v8.toNatClampNeg))), (6, .int (s1 + s0)), (0, .ref (b 0)), (1, .int p1), (2, .int p2), (3, .int p3), (4, .int v4), (5, .int v5)]) hx hb dX5_corridorTold_84 hl (by decide) rfl (fun ls hl => ?_)
      refine lv_goto (tgt := 33) hx hb dX5_corridorTold_86 (by decide) ?_
      exact hK33 v4 v5 (s1 + s0) (v7 + (ms v8.toNatClampNeg)) x81 hM H locs ls hP hS (lv_sub hl [3, 4, 5, 6, 7, 8, 2, 1, 0] rfl)
  have c33 : ∀ (n : Nat), ∀ (v4 : Int32) (v5 : Int32) (v6 : Int32) (v7 : Int32) (v8 : Int32), mX5_corridorTold_33 N w h ms mu mb me mf p1 p2 p3 n v4 v5 v6 v7 v8 = some o → ∀ (H : Heap) (locs : List Loc) (ls : Array Slot), va_P D vwCl (mw b cI th w h ms mu mb me mf mt mv ml mk) H → va_S A s.heap H locs → lv_has ls 9 [(0, .ref (b 0)), (1, .int p1), (2, .int p2), (3, .int p3), (4, .int v4), (5, .int v5), (6, .int v6), (7, .int v7), (8, .int v8)] → W p l e rmX5_corridorTold s m args below meth c H locs 0 0 Q (F0 m 33 ls []) := by
    intro n
    induction n with
    | zero =>
      intro v4 v5 v6 v7 v8 hM
      rw [mX5_corridorTold_33] at hM
      cases hM
    | succ n ih =>
      intro v4 v5 v6 v7 v8 hM H locs ls hP hS hl
      rw [mX5_corridorTold_33] at hM
      refine lv_aload_n hx hb dX5_corridorTold_33 rfl (lv_at hl 0 rfl) ?_
      refine lv_iload hx hb dX5_corridorTold_34 (lv_at hl 8 rfl) ?_
      obtain ⟨x36, hC, hM⟩ := bd_s hM
      refine cR_i (va_runV (As := [.int v8]) (rest := []) ⟨hx, hb, hml, hown, hts⟩ (kX5_isOpen (l := l) (D := D) (cI := cI) (cJ := cJ) N b (th := th) (w := w) (h := h) (ms := ms) (mu := mu) (mb := mb) (me := me) (mf := mf) (mt := mt) (mv := mv) (ml := ml) (mk := mk) (p1 := v8) hC H.size) (cwV 1 hts gX5_corridorTold_X5_isOpen rfl rfl rfl (by decide +kernel) ⟨Nat.le_of_ble_eq_true rfl, Nat.le_of_ble_eq_true rfl⟩) (preV [.int v8] hN hK hP hD (ci := 5) (q0 := 0) rfl rfl) rfl rfl hl.1 rfl (lv_room (Nat.le_of_ble_eq_true rfl)) dX5_corridorTold_36 ⟨Nat.le_of_ble_eq_true rfl, Nat.le_of_ble_eq_true rfl⟩) hP hS (fun r u H locs hw hP hS => ?_)
      obtain ⟨hw, hz36⟩ := hw
      rw [hw] at hz36
      rw [hw]
      refine lv_if_eq (tgt := 89) hx hb dX5_corridorTold_39 (by decide) (fun hcc => ?_) (fun hcc => ?_)
      · replace hM := it_p hcc hM
        refine lv_iload_n hx hb dX5_corridorTold_89 rfl (lv_at hl 3 rfl) ?_
        by_cases hs0 : p3 = 0
        · replace hM := it_p hs0 hM
          refine lv_tableIn (tgt := 124) hx hb dX5_corridorTold_90 (by rw [hs0]; decide) (by rw [hs0]; decide) (by rw [hs0]; rfl) (by decide) ?_
          refine lv_iload hx hb dX5_corridorTold_124 (lv_at hl 4 rfl) ?_
          obtain rfl := Option.some.inj hM
          subst hQ hAe
          exact W.iret (v := v4) hx hb hr (fun t ht hW => ⟨⟨v4, (), rfl, rfl, trivial⟩, hS.F ht⟩) hS.2.2 dX5_corridorTold_126
        replace hM := it_n hs0 hM
        by_cases hs1 : p3 = 1
        · replace hM := it_p hs1 hM
          refine lv_tableIn (tgt := 127) hx hb dX5_corridorTold_90 (by rw [hs1]; decide) (by rw [hs1]; decide) (by rw [hs1]; rfl) (by decide) ?_
          refine lv_iload hx hb dX5_corridorTold_127 (lv_at hl 5 rfl) ?_
          obtain rfl := Option.some.inj hM
          subst hQ hAe
          exact W.iret (v := v5) hx hb hr (fun t ht hW => ⟨⟨v5, (), rfl, rfl, trivial⟩, hS.F ht⟩) hS.2.2 dX5_corridorTold_129
        replace hM := it_n hs1 hM
        by_cases hs2 : p3 = 2
        · replace hM := it_p hs2 hM
          refine lv_tableIn (tgt := 130) hx hb dX5_corridorTold_90 (by rw [hs2]; decide) (by rw [hs2]; decide) (by rw [hs2]; rfl) (by decide) ?_
          refine lv_aload_n hx hb dX5_corridorTold_130 rfl (lv_at hl 0 rfl) ?_
          refine va_get (D := D) (ci := 5) (v := .ref (b 2)) (C := RX5) (T := TX5) (N := 12) hx hb hts iX5 hown hK hP 0 rfl rfl 4 (by decide) f20 (fun _ h9 => h9) rfl dX5_corridorTold_131 ?_
          refine lv_bipush (v := 36) hx hb dX5_corridorTold_134 (by decide) ?_
          refine lv_iload_n hx hb dX5_corridorTold_136 rfl (lv_at hl 2 rfl) ?_
          refine lv_imul hx hb dX5_corridorTold_137 ?_
          refine lv_iload hx hb dX5_corridorTold_138 (lv_at hl 4 rfl) ?_
          refine lv_iadd hx hb dX5_corridorTold_140 ?_
          obtain ⟨hb141, hM⟩ := it_x hM
          refine va_iald (D := D) hx hb hK hP 2 0 rfl rfl hb141 dX5_corridorTold_141 ?_
          obtain rfl := Option.some.inj hM
          subst hQ hAe
          exact W.iret (v := (mu (((36 : Int32) * p2) + v4).toNatClampNeg)) hx hb hr (fun t ht hW => ⟨⟨(mu (((36 : Int32) * p2) + v4).toNatClampNeg), (), rfl, rfl, trivial⟩, hS.F ht⟩) hS.2.2 dX5_corridorTold_142
        replace hM := it_n hs2 hM
        by_cases hs3 : p3 = 3
        · replace hM := it_p hs3 hM
          refine lv_tableIn (tgt := 143) hx hb dX5_corridorTold_90 (by rw [hs3]; decide) (by rw [hs3]; decide) (by rw [hs3]; rfl) (by decide) ?_
          refine lv_iload hx hb dX5_corridorTold_143 (lv_at hl 6 rfl) ?_
          obtain rfl := Option.some.inj hM
          subst hQ hAe
          exact W.iret (v := v6) hx hb hr (fun t ht hW => ⟨⟨v6, (), rfl, rfl, trivial⟩, hS.F ht⟩) hS.2.2 dX5_corridorTold_145
        replace hM := it_n hs3 hM
        by_cases hs4 : p3 = 4
        · replace hM := it_p hs4 hM
          refine lv_tableIn (tgt := 146) hx hb dX5_corridorTold_90 (by rw [hs4]; decide) (by rw [hs4]; decide) (by rw [hs4]; rfl) (by decide) ?_
          refine lv_iload hx hb dX5_corridorTold_146 (lv_at hl 7 rfl) ?_
          obtain rfl := Option.some.inj hM
          subst hQ hAe
          exact W.iret (v := v7) hx hb hr (fun t ht hW => ⟨⟨v7, (), rfl, rfl, trivial⟩, hS.F ht⟩) hS.2.2 dX5_corridorTold_148
        replace hM := it_n hs4 hM
        have ho : ∀ k : Nat, k ≤ 4 → ¬ p3 = Int32.ofNat k := by
          intro k hk
          have hk2 : k = 0 ∨ k = 1 ∨ k = 2 ∨ k = 3 ∨ k = 4 := by omega
          rcases hk2 with rfl | rfl | rfl | rfl | rfl
          · exact hs0
          · exact hs1
          · exact hs2
          · exact hs3
          · exact hs4
        refine lv_tableOut (tgt := 149) hx hb dX5_corridorTold_90 (sw_out 4 ho) (by decide) ?_
        refine lv_aload_n hx hb dX5_corridorTold_149 rfl (lv_at hl 0 rfl) ?_
        refine lv_iload_n hx hb dX5_corridorTold_150 rfl (lv_at hl 1 rfl) ?_
        refine lv_iload_n hx hb dX5_corridorTold_151 rfl (lv_at hl 2 rfl) ?_
        obtain ⟨x152, hC, hM⟩ := bd_s hM
        refine cR_i (va_runV (As := [.int p1, .int p2]) (rest := []) ⟨hx, hb, hml, hown, hts⟩ (kX5_isWell (l := l) (D := D) (cI := cI) (cJ := cJ) N b (th := th) (w := w) (h := h) (ms := ms) (mu := mu) (mb := mb) (me := me) (mf := mf) (mt := mt) (mv := mv) (ml := ml) (mk := mk) (p1 := p1) (p2 := p2) hC H.size) (cwV 2 hts gX5_corridorTold_X5_isWell rfl rfl rfl (by decide +kernel) ⟨Nat.le_of_ble_eq_true rfl, Nat.le_of_ble_eq_true rfl⟩) (preV [.int p1, .int p2] hN hK hP hD (ci := 5) (q0 := 0) rfl rfl) rfl rfl hl.1 rfl (lv_room (Nat.le_of_ble_eq_true rfl)) dX5_corridorTold_152 ⟨Nat.le_of_ble_eq_true rfl, Nat.le_of_ble_eq_true rfl⟩) hP hS (fun r u H locs hw hP hS => ?_)
        obtain ⟨hw, hz152⟩ := hw
        rw [hw] at hz152
        rw [hw]
        refine lv_if_eq (tgt := 162) hx hb dX5_corridorTold_155 (by decide) (fun hcc => ?_) (fun hcc => ?_)
        · replace hM := it_p hcc hM
          refine lv_iconst (v := 0) hx hb dX5_corridorTold_162 (by decide) ?_
          obtain rfl := Option.some.inj hM
          subst hQ hAe
          exact W.iret (v := (0 : Int32)) hx hb hr (fun t ht hW => ⟨⟨(0 : Int32), (), rfl, rfl, trivial⟩, hS.F ht⟩) hS.2.2 dX5_corridorTold_163
        · replace hM := it_n hcc hM
          refine lv_iconst (v := 1) hx hb dX5_corridorTold_158 (by decide) ?_
          refine lv_goto (tgt := 163) hx hb dX5_corridorTold_159 (by decide) ?_
          obtain rfl := Option.some.inj hM
          subst hQ hAe
          exact W.iret (v := (1 : Int32)) hx hb hr (fun t ht hW => ⟨⟨(1 : Int32), (), rfl, rfl, trivial⟩, hS.F ht⟩) hS.2.2 dX5_corridorTold_163
      · replace hM := it_n hcc hM
        refine lv_iinc (v := (v5 + 1)) (lv' := [(5, .int (v5 + 1)), (0, .ref (b 0)), (1, .int p1), (2, .int p2), (3, .int p3), (4, .int v4), (6, .int v6), (7, .int v7), (8, .int v8)]) hx hb dX5_corridorTold_42 hl (k := 5) rfl (by rfl) (by decide) rfl (fun ls hl => ?_)
        refine lv_iload hx hb dX5_corridorTold_45 (lv_at hl 6 rfl) ?_
        refine lv_aload_n hx hb dX5_corridorTold_47 rfl (lv_at hl 1 rfl) ?_
        refine va_get (D := D) (ci := 5) (v := .ref (b 1)) (C := RX5) (T := TX5) (N := 12) hx hb hts iX5 hown hK hP 0 rfl rfl 3 (by decide) f16 (fun _ h9 => h9) rfl dX5_corridorTold_48 ?_
        refine lv_iload hx hb dX5_corridorTold_51 (lv_at hl 8 rfl) ?_
        obtain ⟨hb53, hM⟩ := it_x hM
        refine va_iald (D := D) hx hb hK hP 1 0 rfl rfl hb53 dX5_corridorTold_53 ?_
        refine lv_if_le (tgt := 61) hx hb dX5_corridorTold_54 (by decide) (fun hcc => ?_) (fun hcc => ?_)
        · replace hM := it_p hcc hM
          refine lv_iconst (v := 0) hx hb dX5_corridorTold_61 (by decide) ?_
          exact c62 (mX5_corridorTold_33 N w h ms mu mb me mf p1 p2 p3 n) ih v4 (v5 + 1) v7 v8 (0 : Int32) v6 hM H locs ls hP hS (lv_sub hl [1, 2, 3, 4, 5, 0, 7, 8] rfl)
        · replace hM := it_n hcc hM
          refine lv_iconst (v := 1) hx hb dX5_corridorTold_57 (by decide) ?_
          refine lv_goto (tgt := 62) hx hb dX5_corridorTold_58 (by decide) ?_
          exact c62 (mX5_corridorTold_33 N w h ms mu mb me mf p1 p2 p3 n) ih v4 (v5 + 1) v7 v8 (1 : Int32) v6 hM H locs ls hP hS (lv_sub hl [1, 2, 3, 4, 5, 0, 7, 8] rfl)
  rw [mX5_corridorTold] at hM
  refine lv_aload_n hx hb dX5_corridorTold_0 rfl (lv_at hl 0 rfl) ?_
  refine va_get (D := D) (ci := 5) (v := .ref (b 1)) (C := RX5) (T := TX5) (N := 12) hx hb hts iX5 hown hK hP 0 rfl rfl 3 (by decide) f16 (fun _ h9 => h9) rfl dX5_corridorTold_1 ?_
  refine lv_iload_n hx hb dX5_corridorTold_4 rfl (lv_at hl 1 rfl) ?_
  obtain ⟨hb5, hM⟩ := it_x hM
  refine va_iald (D := D) hx hb hK hP 1 0 rfl rfl hb5 dX5_corridorTold_5 ?_
  refine lv_iconst (v := -1) hx hb dX5_corridorTold_6 (by decide) ?_
  refine lv_icmp_ne (tgt := 12) hx hb dX5_corridorTold_7 (by decide) (fun hcc => ?_) (fun hcc => ?_)
  · replace hM := it_n hcc hM
    refine lv_aload_n hx hb dX5_corridorTold_12 rfl (lv_at hl 0 rfl) ?_
    refine lv_iload_n hx hb dX5_corridorTold_13 rfl (lv_at hl 1 rfl) ?_
    refine lv_iload_n hx hb dX5_corridorTold_14 rfl (lv_at hl 2 rfl) ?_
    obtain ⟨x15, hC, hM⟩ := bd_s hM
    refine cR_i (va_runV (As := [.int p1, .int p2]) (rest := []) ⟨hx, hb, hml, hown, hts⟩ (kX5_beginOf (l := l) (D := D) (cI := cI) (cJ := cJ) N b (th := th) (w := w) (h := h) (ms := ms) (mu := mu) (mb := mb) (me := me) (mf := mf) (mt := mt) (mv := mv) (ml := ml) (mk := mk) (p1 := p1) (p2 := p2) hC H.size) (cwV 2 hts gX5_corridorTold_X5_beginOf rfl rfl rfl (by decide +kernel) ⟨Nat.le_of_ble_eq_true rfl, Nat.le_of_ble_eq_true rfl⟩) (preV [.int p1, .int p2] hN hK hP hD (ci := 5) (q0 := 0) rfl rfl) rfl rfl hl.1 rfl (lv_room (Nat.le_of_ble_eq_true rfl)) dX5_corridorTold_15 ⟨Nat.le_of_ble_eq_true rfl, Nat.le_of_ble_eq_true rfl⟩) hP hS (fun r u H locs hw hP hS => ?_)
    rw [hw]
    refine lv_istore (lv' := [(4, .int x15), (0, .ref (b 0)), (1, .int p1), (2, .int p2), (3, .int p3)]) hx hb dX5_corridorTold_18 hl (by decide) rfl (fun ls hl => ?_)
    refine lv_iconst (v := 0) hx hb dX5_corridorTold_20 (by decide) ?_
    refine lv_istore (lv' := [(5, .int (0 : Int32)), (4, .int x15), (0, .ref (b 0)), (1, .int p1), (2, .int p2), (3, .int p3)]) hx hb dX5_corridorTold_21 hl (by decide) rfl (fun ls hl => ?_)
    refine lv_iconst (v := 0) hx hb dX5_corridorTold_23 (by decide) ?_
    refine lv_istore (lv' := [(6, .int (0 : Int32)), (5, .int (0 : Int32)), (4, .int x15), (0, .ref (b 0)), (1, .int p1), (2, .int p2), (3, .int p3)]) hx hb dX5_corridorTold_24 hl (by decide) rfl (fun ls hl => ?_)
    refine lv_iconst (v := 0) hx hb dX5_corridorTold_26 (by decide) ?_
    refine lv_istore (lv' := [(7, .int (0 : Int32)), (6, .int (0 : Int32)), (5, .int (0 : Int32)), (4, .int x15), (0, .ref (b 0)), (1, .int p1), (2, .int p2), (3, .int p3)]) hx hb dX5_corridorTold_27 hl (by decide) rfl (fun ls hl => ?_)
    refine lv_iload hx hb dX5_corridorTold_29 (lv_at hl 3 rfl) ?_
    refine lv_istore (lv' := [(8, .int x15), (7, .int (0 : Int32)), (6, .int (0 : Int32)), (5, .int (0 : Int32)), (4, .int x15), (0, .ref (b 0)), (1, .int p1), (2, .int p2), (3, .int p3)]) hx hb dX5_corridorTold_31 hl (by decide) rfl (fun ls hl => ?_)
    exact c33 N x15 (0 : Int32) (0 : Int32) (0 : Int32) x15 hM H locs ls hP hS (lv_sub hl [5, 6, 7, 8, 4, 3, 2, 1, 0] rfl)
  · replace hM := it_p hcc hM
    refine lv_iconst (v := -1) hx hb dX5_corridorTold_10 (by decide) ?_
    obtain rfl := Option.some.inj hM
    subst hQ hAe
    exact W.iret (v := (-1 : Int32)) hx hb hr (fun t ht hW => ⟨⟨(-1 : Int32), (), rfl, rfl, trivial⟩, hS.F ht⟩) hS.2.2 dX5_corridorTold_11
def mX5_corridor_40 (N : Nat) (th' : Int32) : Option (Int32 × Int32) :=
  ((mX5_no N th' (1 : Int32)).bind fun x42 =>
  some (x42.1, x42.2))
def mX5_corridor_33 (N : Nat) (w : Int32) (h : Int32) (ms : RowI) (mu : RowI) (mb : RowI) (me : RowI) (mf : RowI) (p3 : Int32) (s0 : Int32) (s1 : Int32) (th' : Int32) : Option (Int32 × Int32) :=
  ((mX5_corridorTold N w h ms mu mb me mf s1 s0 p3).bind fun x34 =>
  some (x34, th'))
def mX5_corridor (N : Nat) (th : Int32) (w : Int32) (h : Int32) (ms : RowI) (mu : RowI) (mb : RowI) (me : RowI) (mf : RowI) (p1 : Int32) (p2 : Int32) (p3 : Int32) : Option (Int32 × Int32) :=
  ((mX5_isCell N w h p1).bind fun x7 =>
  (if x7 = 0 then
  (mX5_corridor_40 N (0 : Int32))
  else
  ((mX5_isIn N p3 (0 : Int32) (5 : Int32)).bind fun x16 =>
  (if x16 = 0 then
  (mX5_corridor_40 N (0 : Int32))
  else
  (if p2 = 0 then
  (mX5_corridor_33 N w h ms mu mb me mf p3 (0 : Int32) p1 (0 : Int32))
  else
  (mX5_corridor_33 N w h ms mu mb me mf p3 (1 : Int32) p1 (0 : Int32)))))))
abbrev rmX5_corridor : Room := { frames := 3, cells := 0, slots := 0, locals := 80 }
set_option maxHeartbeats 4000000 in
set_option maxRecDepth 100000 in
theorem kX5_corridor {l : Launch} {D : va_G} {cI cJ : ClassId} (N : Nat) (b : Nat → Nat) {th : Int32} {w : Int32} {h : Int32} {ms : RowI} {mu : RowI} {mb : RowI} {me : RowI} {mf : RowI} {mt : Int32} {mv : Int32} {ml : Int32} {mk : RowI} {p1 : Int32} {p2 : Int32} {p3 : Int32} {o : (Int32 × Int32)} (hM : mX5_corridor N th w h ms mu mb me mf p1 p2 p3 = some o) (sz : Nat) : Met l yX5_corridor wsX5_corridor rmX5_corridor (va_Pc [.ref (b 0), .int p1, .int p2, .int p3] (Pre D cI cJ (mw b cI th w h ms mu mb me mf mt mv ml mk) sz)) (va_Qi (fun (r : Int32) (_ : Unit) => r = o.1) (aft D (mw b cI th w h ms mu mb me mf mt mv ml mk) sz (fun (_ : Unit) => (mw b cI o.2 w h ms mu mb me mf mt mv ml mk))) (va_A (mw b cI th w h ms mu mb me mf mt mv ml mk) sz)) 0 0 (va_A (mw b cI th w h ms mu mb me mf mt mv ml mk) sz) := by
  refine xofW (cc := cX5_corridor) (maxL := 4) (ret := (some .int)) rfl (by decide) rfl ?_
  intro p e s m args below meth c ls Q A hQ hAe hx hb hr hml hown hts hlocks hnm hN hK H locs hP hD hS hA hl
  replace hown : s.vm.findClass RX5 = some m.cls := hown
  replace hl : lv_has ls 4 [(0, .ref (b 0)), (1, .int p1), (2, .int p2), (3, .int p3)] := hl
  have iX5 : ∀ w ∈ wsX50, w ∈ wsX5_corridor := by decide +kernel
  have f47 := hts (.fieldLink RX5 47 "CryptSumsModel" "thrown" "I") (by decide +kernel)
  have c40 : ∀ (th' : Int32), mX5_corridor_40 N th' = some o → ∀ (H : Heap) (locs : List Loc) (ls : Array Slot), va_P D vwCl (mw b cI th' w h ms mu mb me mf mt mv ml mk) H → va_D A (mw b cI th' w h ms mu mb me mf mt mv ml mk) → va_S A s.heap H locs → lv_has ls 4 [(0, .ref (b 0))] → W p l e rmX5_corridor s m args below meth c H locs 0 0 Q (F0 m 40 ls []) := by
      intro  th' hM H locs ls hP hD hS hl
      rw [mX5_corridor_40] at hM
      refine lv_aload_n hx hb dX5_corridor_40 rfl (lv_at hl 0 rfl) ?_
      refine lv_iconst (v := 1) hx hb dX5_corridor_41 (by decide) ?_
      obtain ⟨x42, hC, hM⟩ := bd_s hM
      refine cW_i [0, 1, 2, 3, 4, 5, 6] [] (va_runV (As := [.int (1 : Int32)]) (rest := []) ⟨hx, hb, hml, hown, hts⟩ (kX5_no (l := l) (D := D) (cI := cI) (cJ := cJ) N b (th := th') (w := w) (h := h) (ms := ms) (mu := mu) (mb := mb) (me := me) (mf := mf) (mt := mt) (mv := mv) (ml := ml) (mk := mk) (p1 := (1 : Int32)) hC H.size) (cwV 1 hts gX5_corridor_X5_no rfl rfl rfl (by decide +kernel) ⟨Nat.le_of_ble_eq_true rfl, Nat.le_of_ble_eq_true rfl⟩) (preV [.int (1 : Int32)] hN hK hP hD (ci := 5) (q0 := 0) rfl rfl) rfl rfl hl.1 rfl (lv_room (Nat.le_of_ble_eq_true rfl)) dX5_corridor_42 ⟨Nat.le_of_ble_eq_true rfl, Nat.le_of_ble_eq_true rfl⟩) hP hD hS hA rfl (wr := []) rfl (by decide) (by decide) (fun r u42 H locs hw hP hD hS => ?_)
      replace hP : va_P D vwCl (mw b cI x42.2 w h ms mu mb me mf mt mv ml mk) H := hP
      replace hD : va_D A (mw b cI x42.2 w h ms mu mb me mf mt mv ml mk) := hD
      rw [hw]
      obtain rfl := Option.some.inj hM
      subst hQ hAe
      exact W.iret (v := x42.1) hx hb hr (fun t ht hW => ⟨⟨x42.1, (), rfl, rfl, ⟨by rw [ht]; exact hP, hD⟩⟩, hS.F ht⟩) hS.2.2 dX5_corridor_45
  have c33 : ∀ (s0 : Int32) (s1 : Int32) (th' : Int32), mX5_corridor_33 N w h ms mu mb me mf p3 s0 s1 th' = some o → ∀ (H : Heap) (locs : List Loc) (ls : Array Slot), va_P D vwCl (mw b cI th' w h ms mu mb me mf mt mv ml mk) H → va_D A (mw b cI th' w h ms mu mb me mf mt mv ml mk) → va_S A s.heap H locs → lv_has ls 4 [(3, .int p3)] → W p l e rmX5_corridor s m args below meth c H locs 0 0 Q (F0 m 33 ls [.int s0, .int s1, .ref (b 0)]) := by
      intro  s0 s1 th' hM H locs ls hP hD hS hl
      rw [mX5_corridor_33] at hM
      refine lv_iload_n hx hb dX5_corridor_33 rfl (lv_at hl 0 rfl) ?_
      obtain ⟨x34, hC, hM⟩ := bd_s hM
      refine cR_i (va_runV (As := [.int s1, .int s0, .int p3]) (rest := []) ⟨hx, hb, hml, hown, hts⟩ (kX5_corridorTold (l := l) (D := D) (cI := cI) (cJ := cJ) N b (th := th') (w := w) (h := h) (ms := ms) (mu := mu) (mb := mb) (me := me) (mf := mf) (mt := mt) (mv := mv) (ml := ml) (mk := mk) (p1 := s1) (p2 := s0) (p3 := p3) hC H.size) (cwV 3 hts gX5_corridor_X5_corridorTold rfl rfl rfl (by decide +kernel) ⟨Nat.le_of_ble_eq_true rfl, Nat.le_of_ble_eq_true rfl⟩) (preV [.int s1, .int s0, .int p3] hN hK hP hD (ci := 5) (q0 := 0) rfl rfl) rfl rfl hl.1 rfl (lv_room (Nat.le_of_ble_eq_true rfl)) dX5_corridor_34 ⟨Nat.le_of_ble_eq_true rfl, Nat.le_of_ble_eq_true rfl⟩) hP hS (fun r u H locs hw hP hS => ?_)
      rw [hw]
      refine lv_goto (tgt := 45) hx hb dX5_corridor_37 (by decide) ?_
      obtain rfl := Option.some.inj hM
      subst hQ hAe
      exact W.iret (v := x34) hx hb hr (fun t ht hW => ⟨⟨x34, (), rfl, rfl, ⟨by rw [ht]; exact hP, hD⟩⟩, hS.F ht⟩) hS.2.2 dX5_corridor_45
  rw [mX5_corridor] at hM
  refine lv_aload_n hx hb dX5_corridor_0 rfl (lv_at hl 0 rfl) ?_
  refine lv_iconst (v := 0) hx hb dX5_corridor_1 (by decide) ?_
  refine va_put (D := D) (ci := 5) (v := .int (0 : Int32)) (ty := .int) (C := RX5) (T := TX5) (N := 12) hx hb hts iX5 tyX5 tyX5_ok nmX5 hown hK hP hD hS 0 rfl rfl 0 (by decide) f47 (fun _ h9 => h9) rfl (by decide +kernel) rfl rfl (Nat.le_of_ble_eq_true rfl) dX5_corridor_2 (fun H locs hP hD hS => ?_)
  replace hP : va_P D vwCl (mw b cI (0 : Int32) w h ms mu mb me mf mt mv ml mk) H := hP
  replace hD : va_D A (mw b cI (0 : Int32) w h ms mu mb me mf mt mv ml mk) := hD
  refine lv_aload_n hx hb dX5_corridor_5 rfl (lv_at hl 0 rfl) ?_
  refine lv_iload_n hx hb dX5_corridor_6 rfl (lv_at hl 1 rfl) ?_
  obtain ⟨x7, hC, hM⟩ := bd_s hM
  refine cR_i (va_runV (As := [.int p1]) (rest := []) ⟨hx, hb, hml, hown, hts⟩ (kX5_isCell (l := l) (D := D) (cI := cI) (cJ := cJ) N b (th := (0 : Int32)) (w := w) (h := h) (ms := ms) (mu := mu) (mb := mb) (me := me) (mf := mf) (mt := mt) (mv := mv) (ml := ml) (mk := mk) (p1 := p1) hC H.size) (cwV 1 hts gX5_corridor_X5_isCell rfl rfl rfl (by decide +kernel) ⟨Nat.le_of_ble_eq_true rfl, Nat.le_of_ble_eq_true rfl⟩) (preV [.int p1] hN hK hP hD (ci := 5) (q0 := 0) rfl rfl) rfl rfl hl.1 rfl (lv_room (Nat.le_of_ble_eq_true rfl)) dX5_corridor_7 ⟨Nat.le_of_ble_eq_true rfl, Nat.le_of_ble_eq_true rfl⟩) hP hS (fun r u H locs hw hP hS => ?_)
  obtain ⟨hw, hz7⟩ := hw
  rw [hw] at hz7
  rw [hw]
  refine lv_if_eq (tgt := 40) hx hb dX5_corridor_10 (by decide) (fun hcc => ?_) (fun hcc => ?_)
  · replace hM := it_p hcc hM
    exact c40 (0 : Int32) hM H locs ls hP hD hS (lv_sub hl [0] rfl)
  · replace hM := it_n hcc hM
    refine lv_iload_n hx hb dX5_corridor_13 rfl (lv_at hl 3 rfl) ?_
    refine lv_iconst (v := 0) hx hb dX5_corridor_14 (by decide) ?_
    refine lv_iconst (v := 5) hx hb dX5_corridor_15 (by decide) ?_
    obtain ⟨x16, hC, hM⟩ := bd_s hM
    refine cR_i (va_runS (As := [.int p3, .int (0 : Int32), .int (5 : Int32)]) (rest := []) ⟨hx, hb, hml, hown, hts⟩ (kX5_isIn (l := l) (D := D) (cI := cI) (cJ := cJ) N (p1 := p3) (p2 := (0 : Int32)) (p3 := (5 : Int32)) hC H.size) (va_cwS 3 hts gX5_corridor_X5_isIn rfl rfl rfl (by decide +kernel) ⟨Nat.le_of_ble_eq_true rfl, Nat.le_of_ble_eq_true rfl⟩) (preS [.int p3, .int (0 : Int32), .int (5 : Int32)] hN hK (hP.sub (ws' := zw) [] rfl) (hD.sub (ws' := zw) [] (by decide) rfl)) rfl rfl hl.1 rfl (lv_room (Nat.le_of_ble_eq_true rfl)) dX5_corridor_16 ⟨Nat.le_of_ble_eq_true rfl, Nat.le_of_ble_eq_true rfl⟩) hP hS (fun r u H locs hw hP hS => ?_)
    obtain ⟨hw, hz16⟩ := hw
    rw [hw] at hz16
    rw [hw]
    refine lv_if_eq (tgt := 40) hx hb dX5_corridor_19 (by decide) (fun hcc => ?_) (fun hcc => ?_)
    · replace hM := it_p hcc hM
      exact c40 (0 : Int32) hM H locs ls hP hD hS (lv_sub hl [0] rfl)
    · replace hM := it_n hcc hM
      refine lv_aload_n hx hb dX5_corridor_22 rfl (lv_at hl 0 rfl) ?_
      refine lv_iload_n hx hb dX5_corridor_23 rfl (lv_at hl 1 rfl) ?_
      refine lv_iload_n hx hb dX5_corridor_24 rfl (lv_at hl 2 rfl) ?_
      refine lv_if_eq (tgt := 32) hx hb dX5_corridor_25 (by decide) (fun hcc => ?_) (fun hcc => ?_)
      · replace hM := it_p hcc hM
        refine lv_iconst (v := 0) hx hb dX5_corridor_32 (by decide) ?_
        exact c33 (0 : Int32) p1 (0 : Int32) hM H locs ls hP hD hS (lv_sub hl [3] rfl)
      · replace hM := it_n hcc hM
        refine lv_iconst (v := 1) hx hb dX5_corridor_28 (by decide) ?_
        refine lv_goto (tgt := 33) hx hb dX5_corridor_29 (by decide) ?_
        exact c33 (1 : Int32) p1 (0 : Int32) hM H locs ls hP hD hS (lv_sub hl [3] rfl)
def mX5_can (N : Nat) (th : Int32) (w : Int32) (h : Int32) (ms : RowI) (mu : RowI) (mb : RowI) (me : RowI) (mf : RowI) (p1 : Int32) : Option (Int32 × Int32 × RowI) :=
  ((mX5_isCell N w h p1).bind fun x7 =>
  (if x7 = 0 then
  ((mX5_no N (0 : Int32) (1 : Int32)).bind fun x23 =>
  some (x23.1, x23.2, ms))
  else
  ((mX5_canOf N w h ms mu mb me mf p1).bind fun x15 =>
  some (x15.1, (0 : Int32), x15.2))))
abbrev rmX5_can : Room := { frames := 4, cells := 0, slots := 0, locals := 98 }
set_option maxHeartbeats 4000000 in
set_option maxRecDepth 100000 in
theorem kX5_can {l : Launch} {D : va_G} {cI cJ : ClassId} (N : Nat) (b : Nat → Nat) {th : Int32} {w : Int32} {h : Int32} {ms : RowI} {mu : RowI} {mb : RowI} {me : RowI} {mf : RowI} {mt : Int32} {mv : Int32} {ml : Int32} {mk : RowI} {p1 : Int32} {o : (Int32 × Int32 × RowI)} (hM : mX5_can N th w h ms mu mb me mf p1 = some o) (sz : Nat) : Met l yX5_can wsX5_can rmX5_can (va_Pc [.ref (b 0), .int p1] (Pre D cI cJ (mw b cI th w h ms mu mb me mf mt mv ml mk) sz)) (va_Qi (fun (r : Int32) (_ : Unit) => r = o.1) (aft D (mw b cI th w h ms mu mb me mf mt mv ml mk) sz (fun (_ : Unit) => (mw b cI o.2.1 w h o.2.2 mu mb me mf mt mv ml mk))) (va_A (mw b cI th w h ms mu mb me mf mt mv ml mk) sz)) 0 0 (va_A (mw b cI th w h ms mu mb me mf mt mv ml mk) sz) := by
  refine xofW (cc := cX5_can) (maxL := 2) (ret := (some .int)) rfl (by decide) rfl ?_
  intro p e s m args below meth c ls Q A hQ hAe hx hb hr hml hown hts hlocks hnm hN hK H locs hP hD hS hA hl
  replace hown : s.vm.findClass RX5 = some m.cls := hown
  replace hl : lv_has ls 2 [(0, .ref (b 0)), (1, .int p1)] := hl
  have iX5 : ∀ w ∈ wsX50, w ∈ wsX5_can := by decide +kernel
  have f47 := hts (.fieldLink RX5 47 "CryptSumsModel" "thrown" "I") (by decide +kernel)
  rw [mX5_can] at hM
  refine lv_aload_n hx hb dX5_can_0 rfl (lv_at hl 0 rfl) ?_
  refine lv_iconst (v := 0) hx hb dX5_can_1 (by decide) ?_
  refine va_put (D := D) (ci := 5) (v := .int (0 : Int32)) (ty := .int) (C := RX5) (T := TX5) (N := 12) hx hb hts iX5 tyX5 tyX5_ok nmX5 hown hK hP hD hS 0 rfl rfl 0 (by decide) f47 (fun _ h9 => h9) rfl (by decide +kernel) rfl rfl (Nat.le_of_ble_eq_true rfl) dX5_can_2 (fun H locs hP hD hS => ?_)
  replace hP : va_P D vwCl (mw b cI (0 : Int32) w h ms mu mb me mf mt mv ml mk) H := hP
  replace hD : va_D A (mw b cI (0 : Int32) w h ms mu mb me mf mt mv ml mk) := hD
  refine lv_aload_n hx hb dX5_can_5 rfl (lv_at hl 0 rfl) ?_
  refine lv_iload_n hx hb dX5_can_6 rfl (lv_at hl 1 rfl) ?_
  obtain ⟨x7, hC, hM⟩ := bd_s hM
  refine cR_i (va_runV (As := [.int p1]) (rest := []) ⟨hx, hb, hml, hown, hts⟩ (kX5_isCell (l := l) (D := D) (cI := cI) (cJ := cJ) N b (th := (0 : Int32)) (w := w) (h := h) (ms := ms) (mu := mu) (mb := mb) (me := me) (mf := mf) (mt := mt) (mv := mv) (ml := ml) (mk := mk) (p1 := p1) hC H.size) (cwV 1 hts gX5_can_X5_isCell rfl rfl rfl (by decide +kernel) ⟨Nat.le_of_ble_eq_true rfl, Nat.le_of_ble_eq_true rfl⟩) (preV [.int p1] hN hK hP hD (ci := 5) (q0 := 0) rfl rfl) rfl rfl hl.1 rfl (lv_room (Nat.le_of_ble_eq_true rfl)) dX5_can_7 ⟨Nat.le_of_ble_eq_true rfl, Nat.le_of_ble_eq_true rfl⟩) hP hS (fun r u H locs hw hP hS => ?_)
  obtain ⟨hw, hz7⟩ := hw
  rw [hw] at hz7
  rw [hw]
  refine lv_if_eq (tgt := 21) hx hb dX5_can_10 (by decide) (fun hcc => ?_) (fun hcc => ?_)
  · replace hM := it_p hcc hM
    refine lv_aload_n hx hb dX5_can_21 rfl (lv_at hl 0 rfl) ?_
    refine lv_iconst (v := 1) hx hb dX5_can_22 (by decide) ?_
    obtain ⟨x23, hC, hM⟩ := bd_s hM
    refine cW_i [0, 1, 2, 3, 4, 5, 6] [] (va_runV (As := [.int (1 : Int32)]) (rest := []) ⟨hx, hb, hml, hown, hts⟩ (kX5_no (l := l) (D := D) (cI := cI) (cJ := cJ) N b (th := (0 : Int32)) (w := w) (h := h) (ms := ms) (mu := mu) (mb := mb) (me := me) (mf := mf) (mt := mt) (mv := mv) (ml := ml) (mk := mk) (p1 := (1 : Int32)) hC H.size) (cwV 1 hts gX5_can_X5_no rfl rfl rfl (by decide +kernel) ⟨Nat.le_of_ble_eq_true rfl, Nat.le_of_ble_eq_true rfl⟩) (preV [.int (1 : Int32)] hN hK hP hD (ci := 5) (q0 := 0) rfl rfl) rfl rfl hl.1 rfl (lv_room (Nat.le_of_ble_eq_true rfl)) dX5_can_23 ⟨Nat.le_of_ble_eq_true rfl, Nat.le_of_ble_eq_true rfl⟩) hP hD hS hA rfl (wr := []) rfl (by decide) (by decide) (fun r u23 H locs hw hP hD hS => ?_)
    replace hP : va_P D vwCl (mw b cI x23.2 w h ms mu mb me mf mt mv ml mk) H := hP
    replace hD : va_D A (mw b cI x23.2 w h ms mu mb me mf mt mv ml mk) := hD
    rw [hw]
    obtain rfl := Option.some.inj hM
    subst hQ hAe
    exact W.iret (v := x23.1) hx hb hr (fun t ht hW => ⟨⟨x23.1, (), rfl, rfl, ⟨by rw [ht]; exact hP, hD⟩⟩, hS.F ht⟩) hS.2.2 dX5_can_26
  · replace hM := it_n hcc hM
    refine lv_aload_n hx hb dX5_can_13 rfl (lv_at hl 0 rfl) ?_
    refine lv_iload_n hx hb dX5_can_14 rfl (lv_at hl 1 rfl) ?_
    obtain ⟨x15, hC, hM⟩ := bd_s hM
    refine cW_i [0, 1, 2, 3, 4, 5, 6] [] (va_runV (As := [.int p1]) (rest := []) ⟨hx, hb, hml, hown, hts⟩ (kX5_canOf (l := l) (D := D) (cI := cI) (cJ := cJ) N b (th := (0 : Int32)) (w := w) (h := h) (ms := ms) (mu := mu) (mb := mb) (me := me) (mf := mf) (mt := mt) (mv := mv) (ml := ml) (mk := mk) (p1 := p1) hC H.size) (cwV 1 hts gX5_can_X5_canOf rfl rfl rfl (by decide +kernel) ⟨Nat.le_of_ble_eq_true rfl, Nat.le_of_ble_eq_true rfl⟩) (preV [.int p1] hN hK hP hD (ci := 5) (q0 := 0) rfl rfl) rfl rfl hl.1 rfl (lv_room (Nat.le_of_ble_eq_true rfl)) dX5_can_15 ⟨Nat.le_of_ble_eq_true rfl, Nat.le_of_ble_eq_true rfl⟩) hP hD hS hA rfl (wr := []) rfl (by decide) (by decide) (fun r u15 H locs hw hP hD hS => ?_)
    replace hP : va_P D vwCl (mw b cI (0 : Int32) w h x15.2 mu mb me mf mt mv ml mk) H := hP
    replace hD : va_D A (mw b cI (0 : Int32) w h x15.2 mu mb me mf mt mv ml mk) := hD
    rw [hw]
    refine lv_goto (tgt := 26) hx hb dX5_can_18 (by decide) ?_
    obtain rfl := Option.some.inj hM
    subst hQ hAe
    exact W.iret (v := x15.1) hx hb hr (fun t ht hW => ⟨⟨x15.1, (), rfl, rfl, ⟨by rw [ht]; exact hP, hD⟩⟩, hS.F ht⟩) hS.2.2 dX5_can_26
def mX5_corridors_83 (N : Nat) (w : Int32) (h : Int32) (ms : RowI) (mu : RowI) (mb : RowI) (me : RowI) (mf : RowI) (p1 : Int32) (K4 : Int32 → Int32 → Option Int32) (v3 : Int32) (v4 : Int32) (v5 : Int32) (s0 : Int32) : Option Int32 :=
  (if p1 = (6 : Int32) then
  ((mX5_isWell N w h ms mu mb me mf v4 v5).bind fun x94 =>
  (if x94 = 0 then
  (K4 (s0 + (0 : Int32)) (v3 + 1))
  else
  (K4 (s0 + (1 : Int32)) (v3 + 1))))
  else
  (K4 (s0 + (0 : Int32)) (v3 + 1)))
def mX5_corridors_4 (N : Nat) (w : Int32) (h : Int32) (ms : RowI) (mu : RowI) (mb : RowI) (me : RowI) (mf : RowI) (p1 : Int32) : Nat → Int32 → Int32 → Option Int32
  | 0 => fun _ _ => none
  | n + 1 => fun v2 v3 => (if (((2 : Int32) * w) * h) ≤ v3 then
  some v2
  else
  (if (2 : Int32) = 0 then none else
  (if (2 : Int32) = 0 then none else
  (if bad (v3 / (2 : Int32)) 36 then none else
  (if (ms (v3 / (2 : Int32)).toNatClampNeg) = (-1 : Int32) then
  (mX5_corridors_4 N w h ms mu mb me mf p1 n v2 (v3 + 1))
  else
  ((mX5_beginOf N mb (v3 / (2 : Int32)) (v3 - v3 / (2 : Int32) * (2 : Int32))).bind fun x45 =>
  (if x45 = (v3 / (2 : Int32)) then
  (if p1 = (4 : Int32) then
  (mX5_corridors_4 N w h ms mu mb me mf p1 n (v2 + (1 : Int32)) (v3 + 1))
  else
  (if p1 = (5 : Int32) then
  (if bad (((36 : Int32) * (v3 - v3 / (2 : Int32) * (2 : Int32))) + (v3 / (2 : Int32))) 72 then none else
  (if 0 < (mu (((36 : Int32) * (v3 - v3 / (2 : Int32) * (2 : Int32))) + (v3 / (2 : Int32))).toNatClampNeg) then
  (mX5_corridors_4 N w h ms mu mb me mf p1 n (v2 + (1 : Int32)) (v3 + 1))
  else
  (mX5_corridors_83 N w h ms mu mb me mf p1 (mX5_corridors_4 N w h ms mu mb me mf p1 n) v3 (v3 / (2 : Int32)) (v3 - v3 / (2 : Int32) * (2 : Int32)) v2)))
  else
  (mX5_corridors_83 N w h ms mu mb me mf p1 (mX5_corridors_4 N w h ms mu mb me mf p1 n) v3 (v3 / (2 : Int32)) (v3 - v3 / (2 : Int32) * (2 : Int32)) v2)))
  else
  (mX5_corridors_4 N w h ms mu mb me mf p1 n v2 (v3 + 1)))))))))
def mX5_corridors (N : Nat) (w : Int32) (h : Int32) (ms : RowI) (mu : RowI) (mb : RowI) (me : RowI) (mf : RowI) (p1 : Int32) : Option Int32 :=
  (mX5_corridors_4 N w h ms mu mb me mf p1 N (0 : Int32) (0 : Int32))
abbrev rmX5_corridors : Room := { frames := 2, cells := 0, slots := 0, locals := 52 }
set_option maxHeartbeats 4000000 in
set_option maxRecDepth 100000 in
theorem kX5_corridors {l : Launch} {D : va_G} {cI cJ : ClassId} (N : Nat) (b : Nat → Nat) {th : Int32} {w : Int32} {h : Int32} {ms : RowI} {mu : RowI} {mb : RowI} {me : RowI} {mf : RowI} {mt : Int32} {mv : Int32} {ml : Int32} {mk : RowI} {p1 : Int32} {o : Int32} (hM : mX5_corridors N w h ms mu mb me mf p1 = some o) (sz : Nat) : Met l yX5_corridors wsX5_corridors rmX5_corridors (va_Pc [.ref (b 0), .int p1] (Pre D cI cJ (mw b cI th w h ms mu mb me mf mt mv ml mk) sz)) (va_Qi (fun (r : Int32) (_ : Unit) => r = o) (fun _ _ => True) (fun _ => False)) 0 0 (fun _ => False) := by
  refine xofR (cc := cX5_corridors) (maxL := 6) (ret := (some .int)) rfl (by decide) rfl ?_
  intro p e s m args below meth c ls Q A hQ hAe hx hb hr hml hown hts hlocks hN hK H locs hP hD hS hl
  replace hown : s.vm.findClass RX5 = some m.cls := hown
  replace hl : lv_has ls 6 [(0, .ref (b 0)), (1, .int p1)] := hl
  have iX5 : ∀ w ∈ wsX50, w ∈ wsX5_corridors := by decide +kernel
  have f13 := hts (.fieldLink RX5 13 "CryptSumsModel" "h" "I") (by decide +kernel)
  have f16 := hts (.fieldLink RX5 16 "CryptSumsModel" "stones" "[I") (by decide +kernel)
  have f20 := hts (.fieldLink RX5 20 "CryptSumsModel" "sums" "[I") (by decide +kernel)
  have f7 := hts (.fieldLink RX5 7 "CryptSumsModel" "w" "I") (by decide +kernel)
  have c83 : ∀ (K4 : Int32 → Int32 → Option Int32) (hK4 : ∀ (v2 : Int32) (v3 : Int32), K4 v2 v3 = some o → ∀ (H : Heap) (locs : List Loc) (ls : Array Slot), va_P D vwCl (mw b cI th w h ms mu mb me mf mt mv ml mk) H → va_S A s.heap H locs → lv_has ls 6 [(0, .ref (b 0)), (1, .int p1), (2, .int v2), (3, .int v3)] → W p l e rmX5_corridors s m args below meth c H locs 0 0 Q (F0 m 4 ls [])) , ∀ (v3 : Int32) (v4 : Int32) (v5 : Int32) (s0 : Int32), mX5_corridors_83 N w h ms mu mb me mf p1 K4 v3 v4 v5 s0 = some o → ∀ (H : Heap) (locs : List Loc) (ls : Array Slot), va_P D vwCl (mw b cI th w h ms mu mb me mf mt mv ml mk) H → va_S A s.heap H locs → lv_has ls 6 [(0, .ref (b 0)), (1, .int p1), (3, .int v3), (4, .int v4), (5, .int v5)] → W p l e rmX5_corridors s m args below meth c H locs 0 0 Q (F0 m 83 ls [.int s0]) := by
      intro K4 hK4 v3 v4 v5 s0 hM H locs ls hP hS hl
      rw [mX5_corridors_83] at hM
      refine lv_iload_n hx hb dX5_corridors_83 rfl (lv_at hl 1 rfl) ?_
      refine lv_bipush (v := 6) hx hb dX5_corridors_84 (by decide) ?_
      refine lv_icmp_ne (tgt := 104) hx hb dX5_corridors_86 (by decide) (fun hcc => ?_) (fun hcc => ?_)
      · replace hM := it_n hcc hM
        refine lv_iconst (v := 0) hx hb dX5_corridors_104 (by decide) ?_
        refine lv_iadd hx hb dX5_corridors_105 ?_
        refine lv_istore_n (lv' := [(2, .int (s0 + (0 : Int32))), (0, .ref (b 0)), (1, .int p1), (3, .int v3), (4, .int v4), (5, .int v5)]) hx hb dX5_corridors_106 rfl hl (by decide) rfl (fun ls hl => ?_)
        refine lv_iinc (v := (v3 + 1)) (lv' := [(3, .int (v3 + 1)), (2, .int (s0 + (0 : Int32))), (0, .ref (b 0)), (1, .int p1), (4, .int v4), (5, .int v5)]) hx hb dX5_corridors_107 hl (k := 3) rfl (by rfl) (by decide) rfl (fun ls hl => ?_)
        refine lv_goto (tgt := 4) hx hb dX5_corridors_110 (by decide) ?_
        exact hK4 (s0 + (0 : Int32)) (v3 + 1) hM H locs ls hP hS (lv_sub hl [2, 3, 1, 0] rfl)
      · replace hM := it_p hcc hM
        refine lv_aload_n hx hb dX5_corridors_89 rfl (lv_at hl 0 rfl) ?_
        refine lv_iload hx hb dX5_corridors_90 (lv_at hl 3 rfl) ?_
        refine lv_iload hx hb dX5_corridors_92 (lv_at hl 4 rfl) ?_
        obtain ⟨x94, hC, hM⟩ := bd_s hM
        refine cR_i (va_runV (As := [.int v4, .int v5]) (rest := [.int s0]) ⟨hx, hb, hml, hown, hts⟩ (kX5_isWell (l := l) (D := D) (cI := cI) (cJ := cJ) N b (th := th) (w := w) (h := h) (ms := ms) (mu := mu) (mb := mb) (me := me) (mf := mf) (mt := mt) (mv := mv) (ml := ml) (mk := mk) (p1 := v4) (p2 := v5) hC H.size) (cwV 2 hts gX5_corridors_X5_isWell rfl rfl rfl (by decide +kernel) ⟨Nat.le_of_ble_eq_true rfl, Nat.le_of_ble_eq_true rfl⟩) (preV [.int v4, .int v5] hN hK hP hD (ci := 5) (q0 := 0) rfl rfl) rfl rfl hl.1 rfl (lv_room (Nat.le_of_ble_eq_true rfl)) dX5_corridors_94 ⟨Nat.le_of_ble_eq_true rfl, Nat.le_of_ble_eq_true rfl⟩) hP hS (fun r u H locs hw hP hS => ?_)
        obtain ⟨hw, hz94⟩ := hw
        rw [hw] at hz94
        rw [hw]
        refine lv_if_eq (tgt := 104) hx hb dX5_corridors_97 (by decide) (fun hcc => ?_) (fun hcc => ?_)
        · replace hM := it_p hcc hM
          refine lv_iconst (v := 0) hx hb dX5_corridors_104 (by decide) ?_
          refine lv_iadd hx hb dX5_corridors_105 ?_
          refine lv_istore_n (lv' := [(2, .int (s0 + (0 : Int32))), (0, .ref (b 0)), (1, .int p1), (3, .int v3), (4, .int v4), (5, .int v5)]) hx hb dX5_corridors_106 rfl hl (by decide) rfl (fun ls hl => ?_)
          refine lv_iinc (v := (v3 + 1)) (lv' := [(3, .int (v3 + 1)), (2, .int (s0 + (0 : Int32))), (0, .ref (b 0)), (1, .int p1), (4, .int v4), (5, .int v5)]) hx hb dX5_corridors_107 hl (k := 3) rfl (by rfl) (by decide) rfl (fun ls hl => ?_)
          refine lv_goto (tgt := 4) hx hb dX5_corridors_110 (by decide) ?_
          exact hK4 (s0 + (0 : Int32)) (v3 + 1) hM H locs ls hP hS (lv_sub hl [2, 3, 1, 0] rfl)
        · replace hM := it_n hcc hM
          refine lv_iconst (v := 1) hx hb dX5_corridors_100 (by decide) ?_
          refine lv_goto (tgt := 105) hx hb dX5_corridors_101 (by decide) ?_
          refine lv_iadd hx hb dX5_corridors_105 ?_
          refine lv_istore_n (lv' := [(2, .int (s0 + (1 : Int32))), (0, .ref (b 0)), (1, .int p1), (3, .int v3), (4, .int v4), (5, .int v5)]) hx hb dX5_corridors_106 rfl hl (by decide) rfl (fun ls hl => ?_)
          refine lv_iinc (v := (v3 + 1)) (lv' := [(3, .int (v3 + 1)), (2, .int (s0 + (1 : Int32))), (0, .ref (b 0)), (1, .int p1), (4, .int v4), (5, .int v5)]) hx hb dX5_corridors_107 hl (k := 3) rfl (by rfl) (by decide) rfl (fun ls hl => ?_)
          refine lv_goto (tgt := 4) hx hb dX5_corridors_110 (by decide) ?_
          exact hK4 (s0 + (1 : Int32)) (v3 + 1) hM H locs ls hP hS (lv_sub hl [2, 3, 1, 0] rfl)
  have c4 : ∀ (n : Nat), ∀ (v2 : Int32) (v3 : Int32), mX5_corridors_4 N w h ms mu mb me mf p1 n v2 v3 = some o → ∀ (H : Heap) (locs : List Loc) (ls : Array Slot), va_P D vwCl (mw b cI th w h ms mu mb me mf mt mv ml mk) H → va_S A s.heap H locs → lv_has ls 6 [(0, .ref (b 0)), (1, .int p1), (2, .int v2), (3, .int v3)] → W p l e rmX5_corridors s m args below meth c H locs 0 0 Q (F0 m 4 ls []) := by
    intro n
    induction n with
    | zero =>
      intro v2 v3 hM
      rw [mX5_corridors_4] at hM
      cases hM
    | succ n ih =>
      intro v2 v3 hM H locs ls hP hS hl
      rw [mX5_corridors_4] at hM
      refine lv_iload_n hx hb dX5_corridors_4 rfl (lv_at hl 3 rfl) ?_
      refine lv_iconst (v := 2) hx hb dX5_corridors_5 (by decide) ?_
      refine lv_aload_n hx hb dX5_corridors_6 rfl (lv_at hl 0 rfl) ?_
      refine va_get (D := D) (ci := 5) (v := .int w) (C := RX5) (T := TX5) (N := 12) hx hb hts iX5 hown hK hP 0 rfl rfl 1 (by decide) f7 (fun _ h9 => h9) rfl dX5_corridors_7 ?_
      refine lv_imul hx hb dX5_corridors_10 ?_
      refine lv_aload_n hx hb dX5_corridors_11 rfl (lv_at hl 0 rfl) ?_
      refine va_get (D := D) (ci := 5) (v := .int h) (C := RX5) (T := TX5) (N := 12) hx hb hts iX5 hown hK hP 0 rfl rfl 2 (by decide) f13 (fun _ h9 => h9) rfl dX5_corridors_12 ?_
      refine lv_imul hx hb dX5_corridors_15 ?_
      refine lv_icmp_ge (tgt := 113) hx hb dX5_corridors_16 (by decide) (fun hcc => ?_) (fun hcc => ?_)
      · replace hM := it_p hcc hM
        refine lv_iload_n hx hb dX5_corridors_113 rfl (lv_at hl 2 rfl) ?_
        obtain rfl := Option.some.inj hM
        subst hQ hAe
        exact W.iret (v := v2) hx hb hr (fun t ht hW => ⟨⟨v2, (), rfl, rfl, trivial⟩, hS.F ht⟩) hS.2.2 dX5_corridors_114
      · replace hM := it_n hcc hM
        refine lv_iload_n hx hb dX5_corridors_19 rfl (lv_at hl 3 rfl) ?_
        refine lv_iconst (v := 2) hx hb dX5_corridors_20 (by decide) ?_
        obtain ⟨hz21, hM⟩ := it_x hM
        refine lv_idiv hx hb dX5_corridors_21 hz21 ?_
        refine lv_istore (lv' := [(4, .int (v3 / (2 : Int32))), (0, .ref (b 0)), (1, .int p1), (2, .int v2), (3, .int v3)]) hx hb dX5_corridors_22 hl (by decide) rfl (fun ls hl => ?_)
        refine lv_iload_n hx hb dX5_corridors_24 rfl (lv_at hl 4 rfl) ?_
        refine lv_iconst (v := 2) hx hb dX5_corridors_25 (by decide) ?_
        obtain ⟨hz26, hM⟩ := it_x hM
        refine lv_irem hx hb dX5_corridors_26 hz26 ?_
        refine lv_istore (lv' := [(5, .int (v3 - v3 / (2 : Int32) * (2 : Int32))), (4, .int (v3 / (2 : Int32))), (0, .ref (b 0)), (1, .int p1), (2, .int v2), (3, .int v3)]) hx hb dX5_corridors_27 hl (by decide) rfl (fun ls hl => ?_)
        refine lv_aload_n hx hb dX5_corridors_29 rfl (lv_at hl 2 rfl) ?_
        refine va_get (D := D) (ci := 5) (v := .ref (b 1)) (C := RX5) (T := TX5) (N := 12) hx hb hts iX5 hown hK hP 0 rfl rfl 3 (by decide) f16 (fun _ h9 => h9) rfl dX5_corridors_30 ?_
        refine lv_iload hx hb dX5_corridors_33 (lv_at hl 1 rfl) ?_
        obtain ⟨hb35, hM⟩ := it_x hM
        refine va_iald (D := D) hx hb hK hP 1 0 rfl rfl hb35 dX5_corridors_35 ?_
        refine lv_iconst (v := -1) hx hb dX5_corridors_36 (by decide) ?_
        refine lv_icmp_eq (tgt := 107) hx hb dX5_corridors_37 (by decide) (fun hcc => ?_) (fun hcc => ?_)
        · replace hM := it_p hcc hM
          refine lv_iinc (v := (v3 + 1)) (lv' := [(3, .int (v3 + 1)), (5, .int (v3 - v3 / (2 : Int32) * (2 : Int32))), (4, .int (v3 / (2 : Int32))), (0, .ref (b 0)), (1, .int p1), (2, .int v2)]) hx hb dX5_corridors_107 hl (k := 5) rfl (by rfl) (by decide) rfl (fun ls hl => ?_)
          refine lv_goto (tgt := 4) hx hb dX5_corridors_110 (by decide) ?_
          exact ih v2 (v3 + 1) hM H locs ls hP hS (lv_sub hl [3, 4, 5, 0] rfl)
        · replace hM := it_n hcc hM
          refine lv_aload_n hx hb dX5_corridors_40 rfl (lv_at hl 2 rfl) ?_
          refine lv_iload hx hb dX5_corridors_41 (lv_at hl 1 rfl) ?_
          refine lv_iload hx hb dX5_corridors_43 (lv_at hl 0 rfl) ?_
          obtain ⟨x45, hC, hM⟩ := bd_s hM
          refine cR_i (va_runV (As := [.int (v3 / (2 : Int32)), .int (v3 - v3 / (2 : Int32) * (2 : Int32))]) (rest := []) ⟨hx, hb, hml, hown, hts⟩ (kX5_beginOf (l := l) (D := D) (cI := cI) (cJ := cJ) N b (th := th) (w := w) (h := h) (ms := ms) (mu := mu) (mb := mb) (me := me) (mf := mf) (mt := mt) (mv := mv) (ml := ml) (mk := mk) (p1 := (v3 / (2 : Int32))) (p2 := (v3 - v3 / (2 : Int32) * (2 : Int32))) hC H.size) (cwV 2 hts gX5_corridors_X5_beginOf rfl rfl rfl (by decide +kernel) ⟨Nat.le_of_ble_eq_true rfl, Nat.le_of_ble_eq_true rfl⟩) (preV [.int (v3 / (2 : Int32)), .int (v3 - v3 / (2 : Int32) * (2 : Int32))] hN hK hP hD (ci := 5) (q0 := 0) rfl rfl) rfl rfl hl.1 rfl (lv_room (Nat.le_of_ble_eq_true rfl)) dX5_corridors_45 ⟨Nat.le_of_ble_eq_true rfl, Nat.le_of_ble_eq_true rfl⟩) hP hS (fun r u H locs hw hP hS => ?_)
          rw [hw]
          refine lv_iload hx hb dX5_corridors_48 (lv_at hl 1 rfl) ?_
          refine lv_icmp_eq (tgt := 56) hx hb dX5_corridors_50 (by decide) (fun hcc => ?_) (fun hcc => ?_)
          · replace hM := it_p hcc hM
            refine lv_iload_n hx hb dX5_corridors_56 rfl (lv_at hl 4 rfl) ?_
            refine lv_iload_n hx hb dX5_corridors_57 rfl (lv_at hl 3 rfl) ?_
            refine lv_iconst (v := 4) hx hb dX5_corridors_58 (by decide) ?_
            refine lv_icmp_eq (tgt := 100) hx hb dX5_corridors_59 (by decide) (fun hcc => ?_) (fun hcc => ?_)
            · replace hM := it_p hcc hM
              refine lv_iconst (v := 1) hx hb dX5_corridors_100 (by decide) ?_
              refine lv_goto (tgt := 105) hx hb dX5_corridors_101 (by decide) ?_
              refine lv_iadd hx hb dX5_corridors_105 ?_
              refine lv_istore_n (lv' := [(2, .int (v2 + (1 : Int32))), (5, .int (v3 - v3 / (2 : Int32) * (2 : Int32))), (4, .int (v3 / (2 : Int32))), (0, .ref (b 0)), (1, .int p1), (3, .int v3)]) hx hb dX5_corridors_106 rfl hl (by decide) rfl (fun ls hl => ?_)
              refine lv_iinc (v := (v3 + 1)) (lv' := [(3, .int (v3 + 1)), (2, .int (v2 + (1 : Int32))), (5, .int (v3 - v3 / (2 : Int32) * (2 : Int32))), (4, .int (v3 / (2 : Int32))), (0, .ref (b 0)), (1, .int p1)]) hx hb dX5_corridors_107 hl (k := 5) rfl (by rfl) (by decide) rfl (fun ls hl => ?_)
              refine lv_goto (tgt := 4) hx hb dX5_corridors_110 (by decide) ?_
              exact ih (v2 + (1 : Int32)) (v3 + 1) hM H locs ls hP hS (lv_sub hl [4, 5, 1, 0] rfl)
            · replace hM := it_n hcc hM
              refine lv_iload_n hx hb dX5_corridors_62 rfl (lv_at hl 3 rfl) ?_
              refine lv_iconst (v := 5) hx hb dX5_corridors_63 (by decide) ?_
              refine lv_icmp_ne (tgt := 83) hx hb dX5_corridors_64 (by decide) (fun hcc => ?_) (fun hcc => ?_)
              · replace hM := it_n hcc hM
                exact c83 (mX5_corridors_4 N w h ms mu mb me mf p1 n) ih v3 (v3 / (2 : Int32)) (v3 - v3 / (2 : Int32) * (2 : Int32)) v2 hM H locs ls hP hS (lv_sub hl [2, 3, 5, 1, 0] rfl)
              · replace hM := it_p hcc hM
                refine lv_aload_n hx hb dX5_corridors_67 rfl (lv_at hl 2 rfl) ?_
                refine va_get (D := D) (ci := 5) (v := .ref (b 2)) (C := RX5) (T := TX5) (N := 12) hx hb hts iX5 hown hK hP 0 rfl rfl 4 (by decide) f20 (fun _ h9 => h9) rfl dX5_corridors_68 ?_
                refine lv_bipush (v := 36) hx hb dX5_corridors_71 (by decide) ?_
                refine lv_iload hx hb dX5_corridors_73 (lv_at hl 0 rfl) ?_
                refine lv_imul hx hb dX5_corridors_75 ?_
                refine lv_iload hx hb dX5_corridors_76 (lv_at hl 1 rfl) ?_
                refine lv_iadd hx hb dX5_corridors_78 ?_
                obtain ⟨hb79, hM⟩ := it_x hM
                refine va_iald (D := D) hx hb hK hP 2 0 rfl rfl hb79 dX5_corridors_79 ?_
                refine lv_if_gt (tgt := 100) hx hb dX5_corridors_80 (by decide) (fun hcc => ?_) (fun hcc => ?_)
                · replace hM := it_p hcc hM
                  refine lv_iconst (v := 1) hx hb dX5_corridors_100 (by decide) ?_
                  refine lv_goto (tgt := 105) hx hb dX5_corridors_101 (by decide) ?_
                  refine lv_iadd hx hb dX5_corridors_105 ?_
                  refine lv_istore_n (lv' := [(2, .int (v2 + (1 : Int32))), (5, .int (v3 - v3 / (2 : Int32) * (2 : Int32))), (4, .int (v3 / (2 : Int32))), (0, .ref (b 0)), (1, .int p1), (3, .int v3)]) hx hb dX5_corridors_106 rfl hl (by decide) rfl (fun ls hl => ?_)
                  refine lv_iinc (v := (v3 + 1)) (lv' := [(3, .int (v3 + 1)), (2, .int (v2 + (1 : Int32))), (5, .int (v3 - v3 / (2 : Int32) * (2 : Int32))), (4, .int (v3 / (2 : Int32))), (0, .ref (b 0)), (1, .int p1)]) hx hb dX5_corridors_107 hl (k := 5) rfl (by rfl) (by decide) rfl (fun ls hl => ?_)
                  refine lv_goto (tgt := 4) hx hb dX5_corridors_110 (by decide) ?_
                  exact ih (v2 + (1 : Int32)) (v3 + 1) hM H locs ls hP hS (lv_sub hl [4, 5, 1, 0] rfl)
                · replace hM := it_n hcc hM
                  exact c83 (mX5_corridors_4 N w h ms mu mb me mf p1 n) ih v3 (v3 / (2 : Int32)) (v3 - v3 / (2 : Int32) * (2 : Int32)) v2 hM H locs ls hP hS (lv_sub hl [2, 3, 5, 1, 0] rfl)
          · replace hM := it_n hcc hM
            refine lv_goto (tgt := 107) hx hb dX5_corridors_53 (by decide) ?_
            refine lv_iinc (v := (v3 + 1)) (lv' := [(3, .int (v3 + 1)), (5, .int (v3 - v3 / (2 : Int32) * (2 : Int32))), (4, .int (v3 / (2 : Int32))), (0, .ref (b 0)), (1, .int p1), (2, .int v2)]) hx hb dX5_corridors_107 hl (k := 5) rfl (by rfl) (by decide) rfl (fun ls hl => ?_)
            refine lv_goto (tgt := 4) hx hb dX5_corridors_110 (by decide) ?_
            exact ih v2 (v3 + 1) hM H locs ls hP hS (lv_sub hl [3, 4, 5, 0] rfl)
  rw [mX5_corridors] at hM
  refine lv_iconst (v := 0) hx hb dX5_corridors_0 (by decide) ?_
  refine lv_istore_n (lv' := [(2, .int (0 : Int32)), (0, .ref (b 0)), (1, .int p1)]) hx hb dX5_corridors_1 rfl hl (by decide) rfl (fun ls hl => ?_)
  refine lv_iconst (v := 0) hx hb dX5_corridors_2 (by decide) ?_
  refine lv_istore_n (lv' := [(3, .int (0 : Int32)), (2, .int (0 : Int32)), (0, .ref (b 0)), (1, .int p1)]) hx hb dX5_corridors_3 rfl hl (by decide) rfl (fun ls hl => ?_)
  exact c4 N (0 : Int32) (0 : Int32) hM H locs ls hP hS (lv_sub hl [2, 3, 1, 0] rfl)
def mX5_counted_148 (N : Nat) (w : Int32) (h : Int32) (mu : RowI) (mb : RowI) (me : RowI) (mf : RowI) (p1 : Int32) : Nat → Int32 → Int32 → RowI → Option (Int32 × RowI)
  | 0 => fun _ _ _ => none
  | n + 1 => fun v2 v3 ms' => (if (w * h) ≤ v3 then
  some (v2, ms')
  else
  (if bad v3 36 then none else
  (if (ms' v3.toNatClampNeg) = 0 then
  ((mX5_canOf N w h ms' mu mb me mf v3).bind fun x173 =>
  (if (bc x173.1) = ((8 : Int32) - p1) then
  (mX5_counted_148 N w h mu mb me mf p1 n (v2 + (1 : Int32)) (v3 + 1) x173.2)
  else
  (mX5_counted_148 N w h mu mb me mf p1 n (v2 + (0 : Int32)) (v3 + 1) x173.2)))
  else
  (mX5_counted_148 N w h mu mb me mf p1 n (v2 + (0 : Int32)) (v3 + 1) ms'))))
def mX5_counted_102 (N : Nat) (w : Int32) (h : Int32) (ms : RowI) : Nat → Int32 → Int32 → Option (Int32 × RowI)
  | 0 => fun _ _ => none
  | n + 1 => fun v2 v3 => (if (w * h) ≤ v3 then
  some (v2, ms)
  else
  (if bad v3 36 then none else
  (if (ms v3.toNatClampNeg) ≤ 0 then
  (mX5_counted_102 N w h ms n (v2 + (0 : Int32)) (v3 + 1))
  else
  (mX5_counted_102 N w h ms n (v2 + (1 : Int32)) (v3 + 1)))))
def mX5_counted_61 (N : Nat) (w : Int32) (h : Int32) (ms : RowI) : Nat → Int32 → Int32 → Option (Int32 × RowI)
  | 0 => fun _ _ => none
  | n + 1 => fun v2 v3 => (if (w * h) ≤ v3 then
  some (v2, ms)
  else
  (if bad v3 36 then none else
  (if (ms v3.toNatClampNeg) = (-1 : Int32) then
  (mX5_counted_61 N w h ms n (v2 + (0 : Int32)) (v3 + 1))
  else
  (mX5_counted_61 N w h ms n (v2 + (1 : Int32)) (v3 + 1)))))
def mX5_counted (N : Nat) (w : Int32) (h : Int32) (ms : RowI) (mu : RowI) (mb : RowI) (me : RowI) (mf : RowI) (p1 : Int32) : Option (Int32 × RowI) :=
  (if p1 = 0 then
  some ((w * h), ms)
  else (if p1 = 1 then
  some (w, ms)
  else (if p1 = 2 then
  (mX5_counted_61 N w h ms N (0 : Int32) (0 : Int32))
  else (if p1 = 3 then
  (mX5_counted_102 N w h ms N (0 : Int32) (0 : Int32))
  else (if p1 = 4 then
  ((mX5_corridors N w h ms mu mb me mf p1).bind fun x142 =>
  some (x142, ms))
  else (if p1 = 5 then
  ((mX5_corridors N w h ms mu mb me mf p1).bind fun x142 =>
  some (x142, ms))
  else (if p1 = 6 then
  ((mX5_corridors N w h ms mu mb me mf p1).bind fun x142 =>
  some (x142, ms))
  else (mX5_counted_148 N w h mu mb me mf p1 N (0 : Int32) (0 : Int32) ms))))))))
abbrev rmX5_counted : Room := { frames := 4, cells := 0, slots := 0, locals := 98 }
set_option maxHeartbeats 4000000 in
set_option maxRecDepth 100000 in
theorem kX5_counted {l : Launch} {D : va_G} {cI cJ : ClassId} (N : Nat) (b : Nat → Nat) {th : Int32} {w : Int32} {h : Int32} {ms : RowI} {mu : RowI} {mb : RowI} {me : RowI} {mf : RowI} {mt : Int32} {mv : Int32} {ml : Int32} {mk : RowI} {p1 : Int32} {o : (Int32 × RowI)} (hM : mX5_counted N w h ms mu mb me mf p1 = some o) (sz : Nat) : Met l yX5_counted wsX5_counted rmX5_counted (va_Pc [.ref (b 0), .int p1] (Pre D cI cJ (mw b cI th w h ms mu mb me mf mt mv ml mk) sz)) (va_Qi (fun (r : Int32) (_ : Unit) => r = o.1) (aft D (mw b cI th w h ms mu mb me mf mt mv ml mk) sz (fun (_ : Unit) => (mw b cI th w h o.2 mu mb me mf mt mv ml mk))) (va_A (mw b cI th w h ms mu mb me mf mt mv ml mk) sz)) 0 0 (va_A (mw b cI th w h ms mu mb me mf mt mv ml mk) sz) := by
  refine xofW (cc := cX5_counted) (maxL := 4) (ret := (some .int)) rfl (by decide) rfl ?_
  intro p e s m args below meth c ls Q A hQ hAe hx hb hr hml hown hts hlocks hnm hN hK H locs hP hD hS hA hl
  replace hown : s.vm.findClass RX5 = some m.cls := hown
  replace hl : lv_has ls 4 [(0, .ref (b 0)), (1, .int p1)] := hl
  have iX5 : ∀ w ∈ wsX50, w ∈ wsX5_counted := by decide +kernel
  have f13 := hts (.fieldLink RX5 13 "CryptSumsModel" "h" "I") (by decide +kernel)
  have f16 := hts (.fieldLink RX5 16 "CryptSumsModel" "stones" "[I") (by decide +kernel)
  have f7 := hts (.fieldLink RX5 7 "CryptSumsModel" "w" "I") (by decide +kernel)
  have c148 : ∀ (n : Nat), ∀ (v2 : Int32) (v3 : Int32) (ms' : RowI), mX5_counted_148 N w h mu mb me mf p1 n v2 v3 ms' = some o → ∀ (H : Heap) (locs : List Loc) (ls : Array Slot), va_P D vwCl (mw b cI th w h ms' mu mb me mf mt mv ml mk) H → va_D A (mw b cI th w h ms' mu mb me mf mt mv ml mk) → va_S A s.heap H locs → lv_has ls 4 [(0, .ref (b 0)), (1, .int p1), (2, .int v2), (3, .int v3)] → W p l e rmX5_counted s m args below meth c H locs 0 0 Q (F0 m 148 ls []) := by
    intro n
    induction n with
    | zero =>
      intro v2 v3 ms' hM
      rw [mX5_counted_148] at hM
      cases hM
    | succ n ih =>
      intro v2 v3 ms' hM H locs ls hP hD hS hl
      rw [mX5_counted_148] at hM
      refine lv_iload_n hx hb dX5_counted_148 rfl (lv_at hl 3 rfl) ?_
      refine lv_aload_n hx hb dX5_counted_149 rfl (lv_at hl 0 rfl) ?_
      refine va_get (D := D) (ci := 5) (v := .int w) (C := RX5) (T := TX5) (N := 12) hx hb hts iX5 hown hK hP 0 rfl rfl 1 (by decide) f7 (fun _ h9 => h9) rfl dX5_counted_150 ?_
      refine lv_aload_n hx hb dX5_counted_153 rfl (lv_at hl 0 rfl) ?_
      refine va_get (D := D) (ci := 5) (v := .int h) (C := RX5) (T := TX5) (N := 12) hx hb hts iX5 hown hK hP 0 rfl rfl 2 (by decide) f13 (fun _ h9 => h9) rfl dX5_counted_154 ?_
      refine lv_imul hx hb dX5_counted_157 ?_
      refine lv_icmp_ge (tgt := 199) hx hb dX5_counted_158 (by decide) (fun hcc => ?_) (fun hcc => ?_)
      · replace hM := it_p hcc hM
        refine lv_iload_n hx hb dX5_counted_199 rfl (lv_at hl 2 rfl) ?_
        obtain rfl := Option.some.inj hM
        subst hQ hAe
        exact W.iret (v := v2) hx hb hr (fun t ht hW => ⟨⟨v2, (), rfl, rfl, ⟨by rw [ht]; exact hP, hD⟩⟩, hS.F ht⟩) hS.2.2 dX5_counted_200
      · replace hM := it_n hcc hM
        refine lv_iload_n hx hb dX5_counted_161 rfl (lv_at hl 2 rfl) ?_
        refine lv_aload_n hx hb dX5_counted_162 rfl (lv_at hl 0 rfl) ?_
        refine va_get (D := D) (ci := 5) (v := .ref (b 1)) (C := RX5) (T := TX5) (N := 12) hx hb hts iX5 hown hK hP 0 rfl rfl 3 (by decide) f16 (fun _ h9 => h9) rfl dX5_counted_163 ?_
        refine lv_iload_n hx hb dX5_counted_166 rfl (lv_at hl 3 rfl) ?_
        obtain ⟨hb167, hM⟩ := it_x hM
        refine va_iald (D := D) hx hb hK hP 1 0 rfl rfl hb167 dX5_counted_167 ?_
        refine lv_if_ne (tgt := 190) hx hb dX5_counted_168 (by decide) (fun hcc => ?_) (fun hcc => ?_)
        · replace hM := it_n hcc hM
          refine lv_iconst (v := 0) hx hb dX5_counted_190 (by decide) ?_
          refine lv_iadd hx hb dX5_counted_191 ?_
          refine lv_istore_n (lv' := [(2, .int (v2 + (0 : Int32))), (0, .ref (b 0)), (1, .int p1), (3, .int v3)]) hx hb dX5_counted_192 rfl hl (by decide) rfl (fun ls hl => ?_)
          refine lv_iinc (v := (v3 + 1)) (lv' := [(3, .int (v3 + 1)), (2, .int (v2 + (0 : Int32))), (0, .ref (b 0)), (1, .int p1)]) hx hb dX5_counted_193 hl (k := 3) rfl (by rfl) (by decide) rfl (fun ls hl => ?_)
          refine lv_goto (tgt := 148) hx hb dX5_counted_196 (by decide) ?_
          exact ih (v2 + (0 : Int32)) (v3 + 1) ms' hM H locs ls hP hD hS (lv_sub hl [2, 3, 1, 0] rfl)
        · replace hM := it_p hcc hM
          refine lv_aload_n hx hb dX5_counted_171 rfl (lv_at hl 0 rfl) ?_
          refine lv_iload_n hx hb dX5_counted_172 rfl (lv_at hl 3 rfl) ?_
          obtain ⟨x173, hC, hM⟩ := bd_s hM
          refine cW_i [0, 1, 2, 3, 4, 5, 6] [] (va_runV (As := [.int v3]) (rest := [.int v2]) ⟨hx, hb, hml, hown, hts⟩ (kX5_canOf (l := l) (D := D) (cI := cI) (cJ := cJ) N b (th := th) (w := w) (h := h) (ms := ms') (mu := mu) (mb := mb) (me := me) (mf := mf) (mt := mt) (mv := mv) (ml := ml) (mk := mk) (p1 := v3) hC H.size) (cwV 1 hts gX5_counted_X5_canOf rfl rfl rfl (by decide +kernel) ⟨Nat.le_of_ble_eq_true rfl, Nat.le_of_ble_eq_true rfl⟩) (preV [.int v3] hN hK hP hD (ci := 5) (q0 := 0) rfl rfl) rfl rfl hl.1 rfl (lv_room (Nat.le_of_ble_eq_true rfl)) dX5_counted_173 ⟨Nat.le_of_ble_eq_true rfl, Nat.le_of_ble_eq_true rfl⟩) hP hD hS hA rfl (wr := []) rfl (by decide) (by decide) (fun r u173 H locs hw hP hD hS => ?_)
          replace hP : va_P D vwCl (mw b cI th w h x173.2 mu mb me mf mt mv ml mk) H := hP
          replace hD : va_D A (mw b cI th w h x173.2 mu mb me mf mt mv ml mk) := hD
          rw [hw]
          refine cR_i (va_runS (As := [.int x173.1]) (rest := [.int v2]) ⟨hx, hb, hml, hown, hts⟩ (kJ6_bitCount (D := D) (cI := cI) (cJ := cJ) x173.1 H.size) (va_cwS 1 hts gX5_counted_J6_bitCount_0f7a4 rfl rfl rfl (by decide +kernel) ⟨Nat.le_of_ble_eq_true rfl, Nat.le_of_ble_eq_true rfl⟩) (preS [.int x173.1] hN hK (hP.sub (ws' := zw) [] rfl) (hD.sub (ws' := zw) [] (by decide) rfl)) rfl rfl hl.1 rfl (lv_room (Nat.le_of_ble_eq_true rfl)) dX5_counted_176 ⟨Nat.le_of_ble_eq_true rfl, Nat.le_of_ble_eq_true rfl⟩) hP hS (fun r u H locs hw hP hS => ?_)
          rw [hw]
          refine lv_bipush (v := 8) hx hb dX5_counted_179 (by decide) ?_
          refine lv_iload_n hx hb dX5_counted_181 rfl (lv_at hl 1 rfl) ?_
          refine lv_isub hx hb dX5_counted_182 ?_
          refine lv_icmp_ne (tgt := 190) hx hb dX5_counted_183 (by decide) (fun hcc => ?_) (fun hcc => ?_)
          · replace hM := it_n hcc hM
            refine lv_iconst (v := 0) hx hb dX5_counted_190 (by decide) ?_
            refine lv_iadd hx hb dX5_counted_191 ?_
            refine lv_istore_n (lv' := [(2, .int (v2 + (0 : Int32))), (0, .ref (b 0)), (1, .int p1), (3, .int v3)]) hx hb dX5_counted_192 rfl hl (by decide) rfl (fun ls hl => ?_)
            refine lv_iinc (v := (v3 + 1)) (lv' := [(3, .int (v3 + 1)), (2, .int (v2 + (0 : Int32))), (0, .ref (b 0)), (1, .int p1)]) hx hb dX5_counted_193 hl (k := 3) rfl (by rfl) (by decide) rfl (fun ls hl => ?_)
            refine lv_goto (tgt := 148) hx hb dX5_counted_196 (by decide) ?_
            exact ih (v2 + (0 : Int32)) (v3 + 1) x173.2 hM H locs ls hP hD hS (lv_sub hl [2, 3, 1, 0] rfl)
          · replace hM := it_p hcc hM
            refine lv_iconst (v := 1) hx hb dX5_counted_186 (by decide) ?_
            refine lv_goto (tgt := 191) hx hb dX5_counted_187 (by decide) ?_
            refine lv_iadd hx hb dX5_counted_191 ?_
            refine lv_istore_n (lv' := [(2, .int (v2 + (1 : Int32))), (0, .ref (b 0)), (1, .int p1), (3, .int v3)]) hx hb dX5_counted_192 rfl hl (by decide) rfl (fun ls hl => ?_)
            refine lv_iinc (v := (v3 + 1)) (lv' := [(3, .int (v3 + 1)), (2, .int (v2 + (1 : Int32))), (0, .ref (b 0)), (1, .int p1)]) hx hb dX5_counted_193 hl (k := 3) rfl (by rfl) (by decide) rfl (fun ls hl => ?_)
            refine lv_goto (tgt := 148) hx hb dX5_counted_196 (by decide) ?_
            exact ih (v2 + (1 : Int32)) (v3 + 1) x173.2 hM H locs ls hP hD hS (lv_sub hl [2, 3, 1, 0] rfl)
  have c102 : ∀ (n : Nat), ∀ (v2 : Int32) (v3 : Int32), mX5_counted_102 N w h ms n v2 v3 = some o → ∀ (H : Heap) (locs : List Loc) (ls : Array Slot), va_P D vwCl (mw b cI th w h ms mu mb me mf mt mv ml mk) H → va_D A (mw b cI th w h ms mu mb me mf mt mv ml mk) → va_S A s.heap H locs → lv_has ls 4 [(0, .ref (b 0)), (2, .int v2), (3, .int v3)] → W p l e rmX5_counted s m args below meth c H locs 0 0 Q (F0 m 102 ls []) := by
    intro n
    induction n with
    | zero =>
      intro v2 v3 hM
      rw [mX5_counted_102] at hM
      cases hM
    | succ n ih =>
      intro v2 v3 hM H locs ls hP hD hS hl
      rw [mX5_counted_102] at hM
      refine lv_iload_n hx hb dX5_counted_102 rfl (lv_at hl 2 rfl) ?_
      refine lv_aload_n hx hb dX5_counted_103 rfl (lv_at hl 0 rfl) ?_
      refine va_get (D := D) (ci := 5) (v := .int w) (C := RX5) (T := TX5) (N := 12) hx hb hts iX5 hown hK hP 0 rfl rfl 1 (by decide) f7 (fun _ h9 => h9) rfl dX5_counted_104 ?_
      refine lv_aload_n hx hb dX5_counted_107 rfl (lv_at hl 0 rfl) ?_
      refine va_get (D := D) (ci := 5) (v := .int h) (C := RX5) (T := TX5) (N := 12) hx hb hts iX5 hown hK hP 0 rfl rfl 2 (by decide) f13 (fun _ h9 => h9) rfl dX5_counted_108 ?_
      refine lv_imul hx hb dX5_counted_111 ?_
      refine lv_icmp_ge (tgt := 138) hx hb dX5_counted_112 (by decide) (fun hcc => ?_) (fun hcc => ?_)
      · replace hM := it_p hcc hM
        refine lv_iload_n hx hb dX5_counted_138 rfl (lv_at hl 1 rfl) ?_
        obtain rfl := Option.some.inj hM
        subst hQ hAe
        exact W.iret (v := v2) hx hb hr (fun t ht hW => ⟨⟨v2, (), rfl, rfl, ⟨by rw [ht]; exact hP, hD⟩⟩, hS.F ht⟩) hS.2.2 dX5_counted_139
      · replace hM := it_n hcc hM
        refine lv_iload_n hx hb dX5_counted_115 rfl (lv_at hl 1 rfl) ?_
        refine lv_aload_n hx hb dX5_counted_116 rfl (lv_at hl 0 rfl) ?_
        refine va_get (D := D) (ci := 5) (v := .ref (b 1)) (C := RX5) (T := TX5) (N := 12) hx hb hts iX5 hown hK hP 0 rfl rfl 3 (by decide) f16 (fun _ h9 => h9) rfl dX5_counted_117 ?_
        refine lv_iload_n hx hb dX5_counted_120 rfl (lv_at hl 2 rfl) ?_
        obtain ⟨hb121, hM⟩ := it_x hM
        refine va_iald (D := D) hx hb hK hP 1 0 rfl rfl hb121 dX5_counted_121 ?_
        refine lv_if_le (tgt := 129) hx hb dX5_counted_122 (by decide) (fun hcc => ?_) (fun hcc => ?_)
        · replace hM := it_p hcc hM
          refine lv_iconst (v := 0) hx hb dX5_counted_129 (by decide) ?_
          refine lv_iadd hx hb dX5_counted_130 ?_
          refine lv_istore_n (lv' := [(2, .int (v2 + (0 : Int32))), (0, .ref (b 0)), (3, .int v3)]) hx hb dX5_counted_131 rfl hl (by decide) rfl (fun ls hl => ?_)
          refine lv_iinc (v := (v3 + 1)) (lv' := [(3, .int (v3 + 1)), (2, .int (v2 + (0 : Int32))), (0, .ref (b 0))]) hx hb dX5_counted_132 hl (k := 2) rfl (by rfl) (by decide) rfl (fun ls hl => ?_)
          refine lv_goto (tgt := 102) hx hb dX5_counted_135 (by decide) ?_
          exact ih (v2 + (0 : Int32)) (v3 + 1) hM H locs ls hP hD hS (lv_sub hl [2, 1, 0] rfl)
        · replace hM := it_n hcc hM
          refine lv_iconst (v := 1) hx hb dX5_counted_125 (by decide) ?_
          refine lv_goto (tgt := 130) hx hb dX5_counted_126 (by decide) ?_
          refine lv_iadd hx hb dX5_counted_130 ?_
          refine lv_istore_n (lv' := [(2, .int (v2 + (1 : Int32))), (0, .ref (b 0)), (3, .int v3)]) hx hb dX5_counted_131 rfl hl (by decide) rfl (fun ls hl => ?_)
          refine lv_iinc (v := (v3 + 1)) (lv' := [(3, .int (v3 + 1)), (2, .int (v2 + (1 : Int32))), (0, .ref (b 0))]) hx hb dX5_counted_132 hl (k := 2) rfl (by rfl) (by decide) rfl (fun ls hl => ?_)
          refine lv_goto (tgt := 102) hx hb dX5_counted_135 (by decide) ?_
          exact ih (v2 + (1 : Int32)) (v3 + 1) hM H locs ls hP hD hS (lv_sub hl [2, 1, 0] rfl)
  have c61 : ∀ (n : Nat), ∀ (v2 : Int32) (v3 : Int32), mX5_counted_61 N w h ms n v2 v3 = some o → ∀ (H : Heap) (locs : List Loc) (ls : Array Slot), va_P D vwCl (mw b cI th w h ms mu mb me mf mt mv ml mk) H → va_D A (mw b cI th w h ms mu mb me mf mt mv ml mk) → va_S A s.heap H locs → lv_has ls 4 [(0, .ref (b 0)), (2, .int v2), (3, .int v3)] → W p l e rmX5_counted s m args below meth c H locs 0 0 Q (F0 m 61 ls []) := by
    intro n
    induction n with
    | zero =>
      intro v2 v3 hM
      rw [mX5_counted_61] at hM
      cases hM
    | succ n ih =>
      intro v2 v3 hM H locs ls hP hD hS hl
      rw [mX5_counted_61] at hM
      refine lv_iload_n hx hb dX5_counted_61 rfl (lv_at hl 2 rfl) ?_
      refine lv_aload_n hx hb dX5_counted_62 rfl (lv_at hl 0 rfl) ?_
      refine va_get (D := D) (ci := 5) (v := .int w) (C := RX5) (T := TX5) (N := 12) hx hb hts iX5 hown hK hP 0 rfl rfl 1 (by decide) f7 (fun _ h9 => h9) rfl dX5_counted_63 ?_
      refine lv_aload_n hx hb dX5_counted_66 rfl (lv_at hl 0 rfl) ?_
      refine va_get (D := D) (ci := 5) (v := .int h) (C := RX5) (T := TX5) (N := 12) hx hb hts iX5 hown hK hP 0 rfl rfl 2 (by decide) f13 (fun _ h9 => h9) rfl dX5_counted_67 ?_
      refine lv_imul hx hb dX5_counted_70 ?_
      refine lv_icmp_ge (tgt := 98) hx hb dX5_counted_71 (by decide) (fun hcc => ?_) (fun hcc => ?_)
      · replace hM := it_p hcc hM
        refine lv_iload_n hx hb dX5_counted_98 rfl (lv_at hl 1 rfl) ?_
        obtain rfl := Option.some.inj hM
        subst hQ hAe
        exact W.iret (v := v2) hx hb hr (fun t ht hW => ⟨⟨v2, (), rfl, rfl, ⟨by rw [ht]; exact hP, hD⟩⟩, hS.F ht⟩) hS.2.2 dX5_counted_99
      · replace hM := it_n hcc hM
        refine lv_iload_n hx hb dX5_counted_74 rfl (lv_at hl 1 rfl) ?_
        refine lv_aload_n hx hb dX5_counted_75 rfl (lv_at hl 0 rfl) ?_
        refine va_get (D := D) (ci := 5) (v := .ref (b 1)) (C := RX5) (T := TX5) (N := 12) hx hb hts iX5 hown hK hP 0 rfl rfl 3 (by decide) f16 (fun _ h9 => h9) rfl dX5_counted_76 ?_
        refine lv_iload_n hx hb dX5_counted_79 rfl (lv_at hl 2 rfl) ?_
        obtain ⟨hb80, hM⟩ := it_x hM
        refine va_iald (D := D) hx hb hK hP 1 0 rfl rfl hb80 dX5_counted_80 ?_
        refine lv_iconst (v := -1) hx hb dX5_counted_81 (by decide) ?_
        refine lv_icmp_ne (tgt := 89) hx hb dX5_counted_82 (by decide) (fun hcc => ?_) (fun hcc => ?_)
        · replace hM := it_n hcc hM
          refine lv_iconst (v := 1) hx hb dX5_counted_89 (by decide) ?_
          refine lv_iadd hx hb dX5_counted_90 ?_
          refine lv_istore_n (lv' := [(2, .int (v2 + (1 : Int32))), (0, .ref (b 0)), (3, .int v3)]) hx hb dX5_counted_91 rfl hl (by decide) rfl (fun ls hl => ?_)
          refine lv_iinc (v := (v3 + 1)) (lv' := [(3, .int (v3 + 1)), (2, .int (v2 + (1 : Int32))), (0, .ref (b 0))]) hx hb dX5_counted_92 hl (k := 2) rfl (by rfl) (by decide) rfl (fun ls hl => ?_)
          refine lv_goto (tgt := 61) hx hb dX5_counted_95 (by decide) ?_
          exact ih (v2 + (1 : Int32)) (v3 + 1) hM H locs ls hP hD hS (lv_sub hl [2, 1, 0] rfl)
        · replace hM := it_p hcc hM
          refine lv_iconst (v := 0) hx hb dX5_counted_85 (by decide) ?_
          refine lv_goto (tgt := 90) hx hb dX5_counted_86 (by decide) ?_
          refine lv_iadd hx hb dX5_counted_90 ?_
          refine lv_istore_n (lv' := [(2, .int (v2 + (0 : Int32))), (0, .ref (b 0)), (3, .int v3)]) hx hb dX5_counted_91 rfl hl (by decide) rfl (fun ls hl => ?_)
          refine lv_iinc (v := (v3 + 1)) (lv' := [(3, .int (v3 + 1)), (2, .int (v2 + (0 : Int32))), (0, .ref (b 0))]) hx hb dX5_counted_92 hl (k := 2) rfl (by rfl) (by decide) rfl (fun ls hl => ?_)
          refine lv_goto (tgt := 61) hx hb dX5_counted_95 (by decide) ?_
          exact ih (v2 + (0 : Int32)) (v3 + 1) hM H locs ls hP hD hS (lv_sub hl [2, 1, 0] rfl)
  rw [mX5_counted] at hM
  refine lv_iconst (v := 0) hx hb dX5_counted_0 (by decide) ?_
  refine lv_istore_n (lv' := [(2, .int (0 : Int32)), (0, .ref (b 0)), (1, .int p1)]) hx hb dX5_counted_1 rfl hl (by decide) rfl (fun ls hl => ?_)
  refine lv_iload_n hx hb dX5_counted_2 rfl (lv_at hl 2 rfl) ?_
  by_cases hs0 : p1 = 0
  · replace hM := it_p hs0 hM
    refine lv_tableIn (tgt := 44) hx hb dX5_counted_3 (by rw [hs0]; decide) (by rw [hs0]; decide) (by rw [hs0]; rfl) (by decide) ?_
    refine lv_aload_n hx hb dX5_counted_44 rfl (lv_at hl 1 rfl) ?_
    refine va_get (D := D) (ci := 5) (v := .int w) (C := RX5) (T := TX5) (N := 12) hx hb hts iX5 hown hK hP 0 rfl rfl 1 (by decide) f7 (fun _ h9 => h9) rfl dX5_counted_45 ?_
    refine lv_aload_n hx hb dX5_counted_48 rfl (lv_at hl 1 rfl) ?_
    refine va_get (D := D) (ci := 5) (v := .int h) (C := RX5) (T := TX5) (N := 12) hx hb hts iX5 hown hK hP 0 rfl rfl 2 (by decide) f13 (fun _ h9 => h9) rfl dX5_counted_49 ?_
    refine lv_imul hx hb dX5_counted_52 ?_
    obtain rfl := Option.some.inj hM
    subst hQ hAe
    exact W.iret (v := (w * h)) hx hb hr (fun t ht hW => ⟨⟨(w * h), (), rfl, rfl, ⟨by rw [ht]; exact hP, hD⟩⟩, hS.F ht⟩) hS.2.2 dX5_counted_53
  replace hM := it_n hs0 hM
  by_cases hs1 : p1 = 1
  · replace hM := it_p hs1 hM
    refine lv_tableIn (tgt := 54) hx hb dX5_counted_3 (by rw [hs1]; decide) (by rw [hs1]; decide) (by rw [hs1]; rfl) (by decide) ?_
    refine lv_aload_n hx hb dX5_counted_54 rfl (lv_at hl 1 rfl) ?_
    refine va_get (D := D) (ci := 5) (v := .int w) (C := RX5) (T := TX5) (N := 12) hx hb hts iX5 hown hK hP 0 rfl rfl 1 (by decide) f7 (fun _ h9 => h9) rfl dX5_counted_55 ?_
    obtain rfl := Option.some.inj hM
    subst hQ hAe
    exact W.iret (v := w) hx hb hr (fun t ht hW => ⟨⟨w, (), rfl, rfl, ⟨by rw [ht]; exact hP, hD⟩⟩, hS.F ht⟩) hS.2.2 dX5_counted_58
  replace hM := it_n hs1 hM
  by_cases hs2 : p1 = 2
  · replace hM := it_p hs2 hM
    refine lv_tableIn (tgt := 59) hx hb dX5_counted_3 (by rw [hs2]; decide) (by rw [hs2]; decide) (by rw [hs2]; rfl) (by decide) ?_
    refine lv_iconst (v := 0) hx hb dX5_counted_59 (by decide) ?_
    refine lv_istore_n (lv' := [(3, .int (0 : Int32)), (2, .int (0 : Int32)), (0, .ref (b 0)), (1, .int p1)]) hx hb dX5_counted_60 rfl hl (by decide) rfl (fun ls hl => ?_)
    exact c61 N (0 : Int32) (0 : Int32) hM H locs ls hP hD hS (lv_sub hl [2, 1, 0] rfl)
  replace hM := it_n hs2 hM
  by_cases hs3 : p1 = 3
  · replace hM := it_p hs3 hM
    refine lv_tableIn (tgt := 100) hx hb dX5_counted_3 (by rw [hs3]; decide) (by rw [hs3]; decide) (by rw [hs3]; rfl) (by decide) ?_
    refine lv_iconst (v := 0) hx hb dX5_counted_100 (by decide) ?_
    refine lv_istore_n (lv' := [(3, .int (0 : Int32)), (2, .int (0 : Int32)), (0, .ref (b 0)), (1, .int p1)]) hx hb dX5_counted_101 rfl hl (by decide) rfl (fun ls hl => ?_)
    exact c102 N (0 : Int32) (0 : Int32) hM H locs ls hP hD hS (lv_sub hl [2, 1, 0] rfl)
  replace hM := it_n hs3 hM
  by_cases hs4 : p1 = 4
  · replace hM := it_p hs4 hM
    refine lv_tableIn (tgt := 140) hx hb dX5_counted_3 (by rw [hs4]; decide) (by rw [hs4]; decide) (by rw [hs4]; rfl) (by decide) ?_
    refine lv_aload_n hx hb dX5_counted_140 rfl (lv_at hl 1 rfl) ?_
    refine lv_iload_n hx hb dX5_counted_141 rfl (lv_at hl 2 rfl) ?_
    obtain ⟨x142, hC, hM⟩ := bd_s hM
    refine cR_i (va_runV (As := [.int p1]) (rest := []) ⟨hx, hb, hml, hown, hts⟩ (kX5_corridors (l := l) (D := D) (cI := cI) (cJ := cJ) N b (th := th) (w := w) (h := h) (ms := ms) (mu := mu) (mb := mb) (me := me) (mf := mf) (mt := mt) (mv := mv) (ml := ml) (mk := mk) (p1 := p1) hC H.size) (cwV 1 hts gX5_counted_X5_corridors rfl rfl rfl (by decide +kernel) ⟨Nat.le_of_ble_eq_true rfl, Nat.le_of_ble_eq_true rfl⟩) (preV [.int p1] hN hK hP hD (ci := 5) (q0 := 0) rfl rfl) rfl rfl hl.1 rfl (lv_room (Nat.le_of_ble_eq_true rfl)) dX5_counted_142 ⟨Nat.le_of_ble_eq_true rfl, Nat.le_of_ble_eq_true rfl⟩) hP hS (fun r u H locs hw hP hS => ?_)
    rw [hw]
    obtain rfl := Option.some.inj hM
    subst hQ hAe
    exact W.iret (v := x142) hx hb hr (fun t ht hW => ⟨⟨x142, (), rfl, rfl, ⟨by rw [ht]; exact hP, hD⟩⟩, hS.F ht⟩) hS.2.2 dX5_counted_145
  replace hM := it_n hs4 hM
  by_cases hs5 : p1 = 5
  · replace hM := it_p hs5 hM
    refine lv_tableIn (tgt := 140) hx hb dX5_counted_3 (by rw [hs5]; decide) (by rw [hs5]; decide) (by rw [hs5]; rfl) (by decide) ?_
    refine lv_aload_n hx hb dX5_counted_140 rfl (lv_at hl 1 rfl) ?_
    refine lv_iload_n hx hb dX5_counted_141 rfl (lv_at hl 2 rfl) ?_
    obtain ⟨x142, hC, hM⟩ := bd_s hM
    refine cR_i (va_runV (As := [.int p1]) (rest := []) ⟨hx, hb, hml, hown, hts⟩ (kX5_corridors (l := l) (D := D) (cI := cI) (cJ := cJ) N b (th := th) (w := w) (h := h) (ms := ms) (mu := mu) (mb := mb) (me := me) (mf := mf) (mt := mt) (mv := mv) (ml := ml) (mk := mk) (p1 := p1) hC H.size) (cwV 1 hts gX5_counted_X5_corridors rfl rfl rfl (by decide +kernel) ⟨Nat.le_of_ble_eq_true rfl, Nat.le_of_ble_eq_true rfl⟩) (preV [.int p1] hN hK hP hD (ci := 5) (q0 := 0) rfl rfl) rfl rfl hl.1 rfl (lv_room (Nat.le_of_ble_eq_true rfl)) dX5_counted_142 ⟨Nat.le_of_ble_eq_true rfl, Nat.le_of_ble_eq_true rfl⟩) hP hS (fun r u H locs hw hP hS => ?_)
    rw [hw]
    obtain rfl := Option.some.inj hM
    subst hQ hAe
    exact W.iret (v := x142) hx hb hr (fun t ht hW => ⟨⟨x142, (), rfl, rfl, ⟨by rw [ht]; exact hP, hD⟩⟩, hS.F ht⟩) hS.2.2 dX5_counted_145
  replace hM := it_n hs5 hM
  by_cases hs6 : p1 = 6
  · replace hM := it_p hs6 hM
    refine lv_tableIn (tgt := 140) hx hb dX5_counted_3 (by rw [hs6]; decide) (by rw [hs6]; decide) (by rw [hs6]; rfl) (by decide) ?_
    refine lv_aload_n hx hb dX5_counted_140 rfl (lv_at hl 1 rfl) ?_
    refine lv_iload_n hx hb dX5_counted_141 rfl (lv_at hl 2 rfl) ?_
    obtain ⟨x142, hC, hM⟩ := bd_s hM
    refine cR_i (va_runV (As := [.int p1]) (rest := []) ⟨hx, hb, hml, hown, hts⟩ (kX5_corridors (l := l) (D := D) (cI := cI) (cJ := cJ) N b (th := th) (w := w) (h := h) (ms := ms) (mu := mu) (mb := mb) (me := me) (mf := mf) (mt := mt) (mv := mv) (ml := ml) (mk := mk) (p1 := p1) hC H.size) (cwV 1 hts gX5_counted_X5_corridors rfl rfl rfl (by decide +kernel) ⟨Nat.le_of_ble_eq_true rfl, Nat.le_of_ble_eq_true rfl⟩) (preV [.int p1] hN hK hP hD (ci := 5) (q0 := 0) rfl rfl) rfl rfl hl.1 rfl (lv_room (Nat.le_of_ble_eq_true rfl)) dX5_counted_142 ⟨Nat.le_of_ble_eq_true rfl, Nat.le_of_ble_eq_true rfl⟩) hP hS (fun r u H locs hw hP hS => ?_)
    rw [hw]
    obtain rfl := Option.some.inj hM
    subst hQ hAe
    exact W.iret (v := x142) hx hb hr (fun t ht hW => ⟨⟨x142, (), rfl, rfl, ⟨by rw [ht]; exact hP, hD⟩⟩, hS.F ht⟩) hS.2.2 dX5_counted_145
  replace hM := it_n hs6 hM
  have ho : ∀ k : Nat, k ≤ 6 → ¬ p1 = Int32.ofNat k := by
    intro k hk
    have hk2 : k = 0 ∨ k = 1 ∨ k = 2 ∨ k = 3 ∨ k = 4 ∨ k = 5 ∨ k = 6 := by omega
    rcases hk2 with rfl | rfl | rfl | rfl | rfl | rfl | rfl
    · exact hs0
    · exact hs1
    · exact hs2
    · exact hs3
    · exact hs4
    · exact hs5
    · exact hs6
  refine lv_tableOut (tgt := 146) hx hb dX5_counted_3 (sw_out 6 ho) (by decide) ?_
  refine lv_iconst (v := 0) hx hb dX5_counted_146 (by decide) ?_
  refine lv_istore_n (lv' := [(3, .int (0 : Int32)), (2, .int (0 : Int32)), (0, .ref (b 0)), (1, .int p1)]) hx hb dX5_counted_147 rfl hl (by decide) rfl (fun ls hl => ?_)
  exact c148 N (0 : Int32) (0 : Int32) ms hM H locs ls hP hD hS (lv_sub hl [2, 3, 1, 0] rfl)
def mX5_count (N : Nat) (th : Int32) (w : Int32) (h : Int32) (ms : RowI) (mu : RowI) (mb : RowI) (me : RowI) (mf : RowI) (p1 : Int32) : Option (Int32 × Int32 × RowI) :=
  ((mX5_isIn N p1 (0 : Int32) (8 : Int32)).bind fun x9 =>
  (if x9 = 0 then
  ((mX5_no N (0 : Int32) (1 : Int32)).bind fun x25 =>
  some (x25.1, x25.2, ms))
  else
  ((mX5_counted N w h ms mu mb me mf p1).bind fun x17 =>
  some (x17.1, (0 : Int32), x17.2))))
abbrev rmX5_count : Room := { frames := 5, cells := 0, slots := 0, locals := 121 }
set_option maxHeartbeats 4000000 in
set_option maxRecDepth 100000 in
theorem kX5_count {l : Launch} {D : va_G} {cI cJ : ClassId} (N : Nat) (b : Nat → Nat) {th : Int32} {w : Int32} {h : Int32} {ms : RowI} {mu : RowI} {mb : RowI} {me : RowI} {mf : RowI} {mt : Int32} {mv : Int32} {ml : Int32} {mk : RowI} {p1 : Int32} {o : (Int32 × Int32 × RowI)} (hM : mX5_count N th w h ms mu mb me mf p1 = some o) (sz : Nat) : Met l yX5_count wsX5_count rmX5_count (va_Pc [.ref (b 0), .int p1] (Pre D cI cJ (mw b cI th w h ms mu mb me mf mt mv ml mk) sz)) (va_Qi (fun (r : Int32) (_ : Unit) => r = o.1) (aft D (mw b cI th w h ms mu mb me mf mt mv ml mk) sz (fun (_ : Unit) => (mw b cI o.2.1 w h o.2.2 mu mb me mf mt mv ml mk))) (va_A (mw b cI th w h ms mu mb me mf mt mv ml mk) sz)) 0 0 (va_A (mw b cI th w h ms mu mb me mf mt mv ml mk) sz) := by
  refine xofW (cc := cX5_count) (maxL := 2) (ret := (some .int)) rfl (by decide) rfl ?_
  intro p e s m args below meth c ls Q A hQ hAe hx hb hr hml hown hts hlocks hnm hN hK H locs hP hD hS hA hl
  replace hown : s.vm.findClass RX5 = some m.cls := hown
  replace hl : lv_has ls 2 [(0, .ref (b 0)), (1, .int p1)] := hl
  have iX5 : ∀ w ∈ wsX50, w ∈ wsX5_count := by decide +kernel
  have f47 := hts (.fieldLink RX5 47 "CryptSumsModel" "thrown" "I") (by decide +kernel)
  rw [mX5_count] at hM
  refine lv_aload_n hx hb dX5_count_0 rfl (lv_at hl 0 rfl) ?_
  refine lv_iconst (v := 0) hx hb dX5_count_1 (by decide) ?_
  refine va_put (D := D) (ci := 5) (v := .int (0 : Int32)) (ty := .int) (C := RX5) (T := TX5) (N := 12) hx hb hts iX5 tyX5 tyX5_ok nmX5 hown hK hP hD hS 0 rfl rfl 0 (by decide) f47 (fun _ h9 => h9) rfl (by decide +kernel) rfl rfl (Nat.le_of_ble_eq_true rfl) dX5_count_2 (fun H locs hP hD hS => ?_)
  replace hP : va_P D vwCl (mw b cI (0 : Int32) w h ms mu mb me mf mt mv ml mk) H := hP
  replace hD : va_D A (mw b cI (0 : Int32) w h ms mu mb me mf mt mv ml mk) := hD
  refine lv_iload_n hx hb dX5_count_5 rfl (lv_at hl 1 rfl) ?_
  refine lv_iconst (v := 0) hx hb dX5_count_6 (by decide) ?_
  refine lv_bipush (v := 8) hx hb dX5_count_7 (by decide) ?_
  obtain ⟨x9, hC, hM⟩ := bd_s hM
  refine cR_i (va_runS (As := [.int p1, .int (0 : Int32), .int (8 : Int32)]) (rest := []) ⟨hx, hb, hml, hown, hts⟩ (kX5_isIn (l := l) (D := D) (cI := cI) (cJ := cJ) N (p1 := p1) (p2 := (0 : Int32)) (p3 := (8 : Int32)) hC H.size) (va_cwS 3 hts gX5_count_X5_isIn rfl rfl rfl (by decide +kernel) ⟨Nat.le_of_ble_eq_true rfl, Nat.le_of_ble_eq_true rfl⟩) (preS [.int p1, .int (0 : Int32), .int (8 : Int32)] hN hK (hP.sub (ws' := zw) [] rfl) (hD.sub (ws' := zw) [] (by decide) rfl)) rfl rfl hl.1 rfl (lv_room (Nat.le_of_ble_eq_true rfl)) dX5_count_9 ⟨Nat.le_of_ble_eq_true rfl, Nat.le_of_ble_eq_true rfl⟩) hP hS (fun r u H locs hw hP hS => ?_)
  obtain ⟨hw, hz9⟩ := hw
  rw [hw] at hz9
  rw [hw]
  refine lv_if_eq (tgt := 23) hx hb dX5_count_12 (by decide) (fun hcc => ?_) (fun hcc => ?_)
  · replace hM := it_p hcc hM
    refine lv_aload_n hx hb dX5_count_23 rfl (lv_at hl 0 rfl) ?_
    refine lv_iconst (v := 1) hx hb dX5_count_24 (by decide) ?_
    obtain ⟨x25, hC, hM⟩ := bd_s hM
    refine cW_i [0, 1, 2, 3, 4, 5, 6] [] (va_runV (As := [.int (1 : Int32)]) (rest := []) ⟨hx, hb, hml, hown, hts⟩ (kX5_no (l := l) (D := D) (cI := cI) (cJ := cJ) N b (th := (0 : Int32)) (w := w) (h := h) (ms := ms) (mu := mu) (mb := mb) (me := me) (mf := mf) (mt := mt) (mv := mv) (ml := ml) (mk := mk) (p1 := (1 : Int32)) hC H.size) (cwV 1 hts gX5_count_X5_no rfl rfl rfl (by decide +kernel) ⟨Nat.le_of_ble_eq_true rfl, Nat.le_of_ble_eq_true rfl⟩) (preV [.int (1 : Int32)] hN hK hP hD (ci := 5) (q0 := 0) rfl rfl) rfl rfl hl.1 rfl (lv_room (Nat.le_of_ble_eq_true rfl)) dX5_count_25 ⟨Nat.le_of_ble_eq_true rfl, Nat.le_of_ble_eq_true rfl⟩) hP hD hS hA rfl (wr := []) rfl (by decide) (by decide) (fun r u25 H locs hw hP hD hS => ?_)
    replace hP : va_P D vwCl (mw b cI x25.2 w h ms mu mb me mf mt mv ml mk) H := hP
    replace hD : va_D A (mw b cI x25.2 w h ms mu mb me mf mt mv ml mk) := hD
    rw [hw]
    obtain rfl := Option.some.inj hM
    subst hQ hAe
    exact W.iret (v := x25.1) hx hb hr (fun t ht hW => ⟨⟨x25.1, (), rfl, rfl, ⟨by rw [ht]; exact hP, hD⟩⟩, hS.F ht⟩) hS.2.2 dX5_count_28
  · replace hM := it_n hcc hM
    refine lv_aload_n hx hb dX5_count_15 rfl (lv_at hl 0 rfl) ?_
    refine lv_iload_n hx hb dX5_count_16 rfl (lv_at hl 1 rfl) ?_
    obtain ⟨x17, hC, hM⟩ := bd_s hM
    refine cW_i [0, 1, 2, 3, 4, 5, 6] [] (va_runV (As := [.int p1]) (rest := []) ⟨hx, hb, hml, hown, hts⟩ (kX5_counted (l := l) (D := D) (cI := cI) (cJ := cJ) N b (th := (0 : Int32)) (w := w) (h := h) (ms := ms) (mu := mu) (mb := mb) (me := me) (mf := mf) (mt := mt) (mv := mv) (ml := ml) (mk := mk) (p1 := p1) hC H.size) (cwV 1 hts gX5_count_X5_counted rfl rfl rfl (by decide +kernel) ⟨Nat.le_of_ble_eq_true rfl, Nat.le_of_ble_eq_true rfl⟩) (preV [.int p1] hN hK hP hD (ci := 5) (q0 := 0) rfl rfl) rfl rfl hl.1 rfl (lv_room (Nat.le_of_ble_eq_true rfl)) dX5_count_17 ⟨Nat.le_of_ble_eq_true rfl, Nat.le_of_ble_eq_true rfl⟩) hP hD hS hA rfl (wr := []) rfl (by decide) (by decide) (fun r u17 H locs hw hP hD hS => ?_)
    replace hP : va_P D vwCl (mw b cI (0 : Int32) w h x17.2 mu mb me mf mt mv ml mk) H := hP
    replace hD : va_D A (mw b cI (0 : Int32) w h x17.2 mu mb me mf mt mv ml mk) := hD
    rw [hw]
    refine lv_goto (tgt := 28) hx hb dX5_count_20 (by decide) ?_
    obtain rfl := Option.some.inj hM
    subst hQ hAe
    exact W.iret (v := x17.1) hx hb hr (fun t ht hW => ⟨⟨x17.1, (), rfl, rfl, ⟨by rw [ht]; exact hP, hD⟩⟩, hS.F ht⟩) hS.2.2 dX5_count_28
def mX5_forcedOf_41 (N : Nat) (me : RowI) (mf : RowI) : Nat → Int32 → Int32 → Int32 → Option Int32
  | 0 => fun _ _ _ => none
  | n + 1 => fun v3 v4 v5 => (if bad (v3 + (1 : Int32)) 461 then none else
  (if (mf (v3 + (1 : Int32)).toNatClampNeg) ≤ v5 then
  some v4
  else
  (if bad v5 512 then none else
  (mX5_forcedOf_41 N me mf n v3 (v4 &&& (me v5.toNatClampNeg)) (v5 + 1)))))
def mX5_forcedOf (N : Nat) (me : RowI) (mf : RowI) (p1 : Int32) (p2 : Int32) : Option Int32 :=
  (if bad (((46 : Int32) * p1) + p2) 461 then none else
  (if bad ((((46 : Int32) * p1) + p2) + (1 : Int32)) 461 then none else
  (if (mf (((46 : Int32) * p1) + p2).toNatClampNeg) = (mf ((((46 : Int32) * p1) + p2) + (1 : Int32)).toNatClampNeg) then
  (if bad (((46 : Int32) * p1) + p2) 461 then none else
  (mX5_forcedOf_41 N me mf N (((46 : Int32) * p1) + p2) (0 : Int32) (mf (((46 : Int32) * p1) + p2).toNatClampNeg)))
  else
  (if bad (((46 : Int32) * p1) + p2) 461 then none else
  (mX5_forcedOf_41 N me mf N (((46 : Int32) * p1) + p2) (1022 : Int32) (mf (((46 : Int32) * p1) + p2).toNatClampNeg))))))
abbrev rmX5_forcedOf : Room := { frames := 0, cells := 0, slots := 0, locals := 0 }
set_option maxHeartbeats 4000000 in
set_option maxRecDepth 100000 in
theorem kX5_forcedOf {l : Launch} {D : va_G} {cI cJ : ClassId} (N : Nat) (b : Nat → Nat) {th : Int32} {w : Int32} {h : Int32} {ms : RowI} {mu : RowI} {mb : RowI} {me : RowI} {mf : RowI} {mt : Int32} {mv : Int32} {ml : Int32} {mk : RowI} {p1 : Int32} {p2 : Int32} {o : Int32} (hM : mX5_forcedOf N me mf p1 p2 = some o) (sz : Nat) : Met l yX5_forcedOf wsX5_forcedOf rmX5_forcedOf (va_Pc [.ref (b 0), .int p1, .int p2] (Pre D cI cJ (mw b cI th w h ms mu mb me mf mt mv ml mk) sz)) (va_Qi (fun (r : Int32) (_ : Unit) => r = o) (fun _ _ => True) (fun _ => False)) 0 0 (fun _ => False) := by
  refine xofR (cc := cX5_forcedOf) (maxL := 6) (ret := (some .int)) rfl (by decide) rfl ?_
  intro p e s m args below meth c ls Q A hQ hAe hx hb hr hml hown hts hlocks hN hK H locs hP hD hS hl
  replace hown : s.vm.findClass RX5 = some m.cls := hown
  replace hl : lv_has ls 6 [(0, .ref (b 0)), (1, .int p1), (2, .int p2)] := hl
  have iX5 : ∀ w ∈ wsX50, w ∈ wsX5_forcedOf := by decide +kernel
  have f26 := hts (.fieldLink RX5 26 "CryptSumsModel" "sets" "[I") (by decide +kernel)
  have f29 := hts (.fieldLink RX5 29 "CryptSumsModel" "first" "[I") (by decide +kernel)
  have c41 : ∀ (n : Nat), ∀ (v3 : Int32) (v4 : Int32) (v5 : Int32), mX5_forcedOf_41 N me mf n v3 v4 v5 = some o → ∀ (H : Heap) (locs : List Loc) (ls : Array Slot), va_P D vwCl (mw b cI th w h ms mu mb me mf mt mv ml mk) H → va_S A s.heap H locs → lv_has ls 6 [(0, .ref (b 0)), (3, .int v3), (4, .int v4), (5, .int v5)] → W p l e rmX5_forcedOf s m args below meth c H locs 0 0 Q (F0 m 41 ls []) := by
    intro n
    induction n with
    | zero =>
      intro v3 v4 v5 hM
      rw [mX5_forcedOf_41] at hM
      cases hM
    | succ n ih =>
      intro v3 v4 v5 hM H locs ls hP hS hl
      rw [mX5_forcedOf_41] at hM
      refine lv_iload hx hb dX5_forcedOf_41 (lv_at hl 3 rfl) ?_
      refine lv_aload_n hx hb dX5_forcedOf_43 rfl (lv_at hl 0 rfl) ?_
      refine va_get (D := D) (ci := 5) (v := .ref (b 5)) (C := RX5) (T := TX5) (N := 12) hx hb hts iX5 hown hK hP 0 rfl rfl 7 (by decide) f29 (fun _ h9 => h9) rfl dX5_forcedOf_44 ?_
      refine lv_iload_n hx hb dX5_forcedOf_47 rfl (lv_at hl 1 rfl) ?_
      refine lv_iconst (v := 1) hx hb dX5_forcedOf_48 (by decide) ?_
      refine lv_iadd hx hb dX5_forcedOf_49 ?_
      obtain ⟨hb50, hM⟩ := it_x hM
      refine va_iald (D := D) hx hb hK hP 5 0 rfl rfl hb50 dX5_forcedOf_50 ?_
      refine lv_icmp_ge (tgt := 72) hx hb dX5_forcedOf_51 (by decide) (fun hcc => ?_) (fun hcc => ?_)
      · replace hM := it_p hcc hM
        refine lv_iload hx hb dX5_forcedOf_72 (lv_at hl 2 rfl) ?_
        obtain rfl := Option.some.inj hM
        subst hQ hAe
        exact W.iret (v := v4) hx hb hr (fun t ht hW => ⟨⟨v4, (), rfl, rfl, trivial⟩, hS.F ht⟩) hS.2.2 dX5_forcedOf_74
      · replace hM := it_n hcc hM
        refine lv_iload hx hb dX5_forcedOf_54 (lv_at hl 2 rfl) ?_
        refine lv_aload_n hx hb dX5_forcedOf_56 rfl (lv_at hl 0 rfl) ?_
        refine va_get (D := D) (ci := 5) (v := .ref (b 4)) (C := RX5) (T := TX5) (N := 12) hx hb hts iX5 hown hK hP 0 rfl rfl 6 (by decide) f26 (fun _ h9 => h9) rfl dX5_forcedOf_57 ?_
        refine lv_iload hx hb dX5_forcedOf_60 (lv_at hl 3 rfl) ?_
        obtain ⟨hb62, hM⟩ := it_x hM
        refine va_iald (D := D) hx hb hK hP 4 0 rfl rfl hb62 dX5_forcedOf_62 ?_
        refine lv_iand hx hb dX5_forcedOf_63 ?_
        refine lv_istore (lv' := [(4, .int (v4 &&& (me v5.toNatClampNeg))), (0, .ref (b 0)), (3, .int v3), (5, .int v5)]) hx hb dX5_forcedOf_64 hl (by decide) rfl (fun ls hl => ?_)
        refine lv_iinc (v := (v5 + 1)) (lv' := [(5, .int (v5 + 1)), (4, .int (v4 &&& (me v5.toNatClampNeg))), (0, .ref (b 0)), (3, .int v3)]) hx hb dX5_forcedOf_66 hl (k := 3) rfl (by rfl) (by decide) rfl (fun ls hl => ?_)
        refine lv_goto (tgt := 41) hx hb dX5_forcedOf_69 (by decide) ?_
        exact ih v3 (v4 &&& (me v5.toNatClampNeg)) (v5 + 1) hM H locs ls hP hS (lv_sub hl [2, 3, 1, 0] rfl)
  rw [mX5_forcedOf] at hM
  refine lv_bipush (v := 46) hx hb dX5_forcedOf_0 (by decide) ?_
  refine lv_iload_n hx hb dX5_forcedOf_2 rfl (lv_at hl 1 rfl) ?_
  refine lv_imul hx hb dX5_forcedOf_3 ?_
  refine lv_iload_n hx hb dX5_forcedOf_4 rfl (lv_at hl 2 rfl) ?_
  refine lv_iadd hx hb dX5_forcedOf_5 ?_
  refine lv_istore_n (lv' := [(3, .int (((46 : Int32) * p1) + p2)), (0, .ref (b 0)), (1, .int p1), (2, .int p2)]) hx hb dX5_forcedOf_6 rfl hl (by decide) rfl (fun ls hl => ?_)
  refine lv_aload_n hx hb dX5_forcedOf_7 rfl (lv_at hl 1 rfl) ?_
  refine va_get (D := D) (ci := 5) (v := .ref (b 5)) (C := RX5) (T := TX5) (N := 12) hx hb hts iX5 hown hK hP 0 rfl rfl 7 (by decide) f29 (fun _ h9 => h9) rfl dX5_forcedOf_8 ?_
  refine lv_iload_n hx hb dX5_forcedOf_11 rfl (lv_at hl 0 rfl) ?_
  obtain ⟨hb12, hM⟩ := it_x hM
  refine va_iald (D := D) hx hb hK hP 5 0 rfl rfl hb12 dX5_forcedOf_12 ?_
  refine lv_aload_n hx hb dX5_forcedOf_13 rfl (lv_at hl 1 rfl) ?_
  refine va_get (D := D) (ci := 5) (v := .ref (b 5)) (C := RX5) (T := TX5) (N := 12) hx hb hts iX5 hown hK hP 0 rfl rfl 7 (by decide) f29 (fun _ h9 => h9) rfl dX5_forcedOf_14 ?_
  refine lv_iload_n hx hb dX5_forcedOf_17 rfl (lv_at hl 0 rfl) ?_
  refine lv_iconst (v := 1) hx hb dX5_forcedOf_18 (by decide) ?_
  refine lv_iadd hx hb dX5_forcedOf_19 ?_
  obtain ⟨hb20, hM⟩ := it_x hM
  refine va_iald (D := D) hx hb hK hP 5 0 rfl rfl hb20 dX5_forcedOf_20 ?_
  refine lv_icmp_ne (tgt := 28) hx hb dX5_forcedOf_21 (by decide) (fun hcc => ?_) (fun hcc => ?_)
  · replace hM := it_n hcc hM
    refine lv_sipush (v := 1022) hx hb dX5_forcedOf_28 (by decide) ?_
    refine lv_istore (lv' := [(4, .int (1022 : Int32)), (3, .int (((46 : Int32) * p1) + p2)), (0, .ref (b 0)), (1, .int p1), (2, .int p2)]) hx hb dX5_forcedOf_31 hl (by decide) rfl (fun ls hl => ?_)
    refine lv_aload_n hx hb dX5_forcedOf_33 rfl (lv_at hl 2 rfl) ?_
    refine va_get (D := D) (ci := 5) (v := .ref (b 5)) (C := RX5) (T := TX5) (N := 12) hx hb hts iX5 hown hK hP 0 rfl rfl 7 (by decide) f29 (fun _ h9 => h9) rfl dX5_forcedOf_34 ?_
    refine lv_iload_n hx hb dX5_forcedOf_37 rfl (lv_at hl 1 rfl) ?_
    obtain ⟨hb38, hM⟩ := it_x hM
    refine va_iald (D := D) hx hb hK hP 5 0 rfl rfl hb38 dX5_forcedOf_38 ?_
    refine lv_istore (lv' := [(5, .int (mf (((46 : Int32) * p1) + p2).toNatClampNeg)), (4, .int (1022 : Int32)), (3, .int (((46 : Int32) * p1) + p2)), (0, .ref (b 0)), (1, .int p1), (2, .int p2)]) hx hb dX5_forcedOf_39 hl (by decide) rfl (fun ls hl => ?_)
    exact c41 N (((46 : Int32) * p1) + p2) (1022 : Int32) (mf (((46 : Int32) * p1) + p2).toNatClampNeg) hM H locs ls hP hS (lv_sub hl [3, 2, 1, 0] rfl)
  · replace hM := it_p hcc hM
    refine lv_iconst (v := 0) hx hb dX5_forcedOf_24 (by decide) ?_
    refine lv_goto (tgt := 31) hx hb dX5_forcedOf_25 (by decide) ?_
    refine lv_istore (lv' := [(4, .int (0 : Int32)), (3, .int (((46 : Int32) * p1) + p2)), (0, .ref (b 0)), (1, .int p1), (2, .int p2)]) hx hb dX5_forcedOf_31 hl (by decide) rfl (fun ls hl => ?_)
    refine lv_aload_n hx hb dX5_forcedOf_33 rfl (lv_at hl 2 rfl) ?_
    refine va_get (D := D) (ci := 5) (v := .ref (b 5)) (C := RX5) (T := TX5) (N := 12) hx hb hts iX5 hown hK hP 0 rfl rfl 7 (by decide) f29 (fun _ h9 => h9) rfl dX5_forcedOf_34 ?_
    refine lv_iload_n hx hb dX5_forcedOf_37 rfl (lv_at hl 1 rfl) ?_
    obtain ⟨hb38, hM⟩ := it_x hM
    refine va_iald (D := D) hx hb hK hP 5 0 rfl rfl hb38 dX5_forcedOf_38 ?_
    refine lv_istore (lv' := [(5, .int (mf (((46 : Int32) * p1) + p2).toNatClampNeg)), (4, .int (0 : Int32)), (3, .int (((46 : Int32) * p1) + p2)), (0, .ref (b 0)), (1, .int p1), (2, .int p2)]) hx hb dX5_forcedOf_39 hl (by decide) rfl (fun ls hl => ?_)
    exact c41 N (((46 : Int32) * p1) + p2) (0 : Int32) (mf (((46 : Int32) * p1) + p2).toNatClampNeg) hM H locs ls hP hS (lv_sub hl [3, 2, 1, 0] rfl)
def mX5_ways_25 (N : Nat) (th' : Int32) : Option (Int32 × Int32) :=
  ((mX5_no N th' (1 : Int32)).bind fun x27 =>
  some (x27.1, x27.2))
def mX5_ways (N : Nat) (th : Int32) (mf : RowI) (p1 : Int32) (p2 : Int32) : Option (Int32 × Int32) :=
  ((mX5_isIn N p1 (1 : Int32) (9 : Int32)).bind fun x9 =>
  (if x9 = 0 then
  (mX5_ways_25 N (0 : Int32))
  else
  ((mX5_isIn N p2 (1 : Int32) (45 : Int32)).bind fun x19 =>
  (if x19 = 0 then
  (mX5_ways_25 N (0 : Int32))
  else
  (if bad ((((46 : Int32) * p1) + p2) + (1 : Int32)) 461 then none else
  (if bad (((46 : Int32) * p1) + p2) 461 then none else
  some (((mf ((((46 : Int32) * p1) + p2) + (1 : Int32)).toNatClampNeg) - (mf (((46 : Int32) * p1) + p2).toNatClampNeg)), (0 : Int32))))))))
abbrev rmX5_ways : Room := { frames := 1, cells := 0, slots := 0, locals := 22 }
set_option maxHeartbeats 4000000 in
set_option maxRecDepth 100000 in
theorem kX5_ways {l : Launch} {D : va_G} {cI cJ : ClassId} (N : Nat) (b : Nat → Nat) {th : Int32} {w : Int32} {h : Int32} {ms : RowI} {mu : RowI} {mb : RowI} {me : RowI} {mf : RowI} {mt : Int32} {mv : Int32} {ml : Int32} {mk : RowI} {p1 : Int32} {p2 : Int32} {o : (Int32 × Int32)} (hM : mX5_ways N th mf p1 p2 = some o) (sz : Nat) : Met l yX5_ways wsX5_ways rmX5_ways (va_Pc [.ref (b 0), .int p1, .int p2] (Pre D cI cJ (mw b cI th w h ms mu mb me mf mt mv ml mk) sz)) (va_Qi (fun (r : Int32) (_ : Unit) => r = o.1) (aft D (mw b cI th w h ms mu mb me mf mt mv ml mk) sz (fun (_ : Unit) => (mw b cI o.2 w h ms mu mb me mf mt mv ml mk))) (va_A (mw b cI th w h ms mu mb me mf mt mv ml mk) sz)) 0 0 (va_A (mw b cI th w h ms mu mb me mf mt mv ml mk) sz) := by
  refine xofW (cc := cX5_ways) (maxL := 3) (ret := (some .int)) rfl (by decide) rfl ?_
  intro p e s m args below meth c ls Q A hQ hAe hx hb hr hml hown hts hlocks hnm hN hK H locs hP hD hS hA hl
  replace hown : s.vm.findClass RX5 = some m.cls := hown
  replace hl : lv_has ls 3 [(0, .ref (b 0)), (1, .int p1), (2, .int p2)] := hl
  have iX5 : ∀ w ∈ wsX50, w ∈ wsX5_ways := by decide +kernel
  have f29 := hts (.fieldLink RX5 29 "CryptSumsModel" "first" "[I") (by decide +kernel)
  have f47 := hts (.fieldLink RX5 47 "CryptSumsModel" "thrown" "I") (by decide +kernel)
  have c25 : ∀ (th' : Int32), mX5_ways_25 N th' = some o → ∀ (H : Heap) (locs : List Loc) (ls : Array Slot), va_P D vwCl (mw b cI th' w h ms mu mb me mf mt mv ml mk) H → va_D A (mw b cI th' w h ms mu mb me mf mt mv ml mk) → va_S A s.heap H locs → lv_has ls 3 [(0, .ref (b 0))] → W p l e rmX5_ways s m args below meth c H locs 0 0 Q (F0 m 25 ls []) := by
      intro  th' hM H locs ls hP hD hS hl
      rw [mX5_ways_25] at hM
      refine lv_aload_n hx hb dX5_ways_25 rfl (lv_at hl 0 rfl) ?_
      refine lv_iconst (v := 1) hx hb dX5_ways_26 (by decide) ?_
      obtain ⟨x27, hC, hM⟩ := bd_s hM
      refine cW_i [0, 1, 2, 3, 4, 5, 6] [] (va_runV (As := [.int (1 : Int32)]) (rest := []) ⟨hx, hb, hml, hown, hts⟩ (kX5_no (l := l) (D := D) (cI := cI) (cJ := cJ) N b (th := th') (w := w) (h := h) (ms := ms) (mu := mu) (mb := mb) (me := me) (mf := mf) (mt := mt) (mv := mv) (ml := ml) (mk := mk) (p1 := (1 : Int32)) hC H.size) (cwV 1 hts gX5_ways_X5_no rfl rfl rfl (by decide +kernel) ⟨Nat.le_of_ble_eq_true rfl, Nat.le_of_ble_eq_true rfl⟩) (preV [.int (1 : Int32)] hN hK hP hD (ci := 5) (q0 := 0) rfl rfl) rfl rfl hl.1 rfl (lv_room (Nat.le_of_ble_eq_true rfl)) dX5_ways_27 ⟨Nat.le_of_ble_eq_true rfl, Nat.le_of_ble_eq_true rfl⟩) hP hD hS hA rfl (wr := []) rfl (by decide) (by decide) (fun r u27 H locs hw hP hD hS => ?_)
      replace hP : va_P D vwCl (mw b cI x27.2 w h ms mu mb me mf mt mv ml mk) H := hP
      replace hD : va_D A (mw b cI x27.2 w h ms mu mb me mf mt mv ml mk) := hD
      rw [hw]
      obtain rfl := Option.some.inj hM
      subst hQ hAe
      exact W.iret (v := x27.1) hx hb hr (fun t ht hW => ⟨⟨x27.1, (), rfl, rfl, ⟨by rw [ht]; exact hP, hD⟩⟩, hS.F ht⟩) hS.2.2 dX5_ways_30
  rw [mX5_ways] at hM
  refine lv_aload_n hx hb dX5_ways_0 rfl (lv_at hl 0 rfl) ?_
  refine lv_iconst (v := 0) hx hb dX5_ways_1 (by decide) ?_
  refine va_put (D := D) (ci := 5) (v := .int (0 : Int32)) (ty := .int) (C := RX5) (T := TX5) (N := 12) hx hb hts iX5 tyX5 tyX5_ok nmX5 hown hK hP hD hS 0 rfl rfl 0 (by decide) f47 (fun _ h9 => h9) rfl (by decide +kernel) rfl rfl (Nat.le_of_ble_eq_true rfl) dX5_ways_2 (fun H locs hP hD hS => ?_)
  replace hP : va_P D vwCl (mw b cI (0 : Int32) w h ms mu mb me mf mt mv ml mk) H := hP
  replace hD : va_D A (mw b cI (0 : Int32) w h ms mu mb me mf mt mv ml mk) := hD
  refine lv_iload_n hx hb dX5_ways_5 rfl (lv_at hl 1 rfl) ?_
  refine lv_iconst (v := 1) hx hb dX5_ways_6 (by decide) ?_
  refine lv_bipush (v := 9) hx hb dX5_ways_7 (by decide) ?_
  obtain ⟨x9, hC, hM⟩ := bd_s hM
  refine cR_i (va_runS (As := [.int p1, .int (1 : Int32), .int (9 : Int32)]) (rest := []) ⟨hx, hb, hml, hown, hts⟩ (kX5_isIn (l := l) (D := D) (cI := cI) (cJ := cJ) N (p1 := p1) (p2 := (1 : Int32)) (p3 := (9 : Int32)) hC H.size) (va_cwS 3 hts gX5_ways_X5_isIn rfl rfl rfl (by decide +kernel) ⟨Nat.le_of_ble_eq_true rfl, Nat.le_of_ble_eq_true rfl⟩) (preS [.int p1, .int (1 : Int32), .int (9 : Int32)] hN hK (hP.sub (ws' := zw) [] rfl) (hD.sub (ws' := zw) [] (by decide) rfl)) rfl rfl hl.1 rfl (lv_room (Nat.le_of_ble_eq_true rfl)) dX5_ways_9 ⟨Nat.le_of_ble_eq_true rfl, Nat.le_of_ble_eq_true rfl⟩) hP hS (fun r u H locs hw hP hS => ?_)
  obtain ⟨hw, hz9⟩ := hw
  rw [hw] at hz9
  rw [hw]
  refine lv_if_eq (tgt := 25) hx hb dX5_ways_12 (by decide) (fun hcc => ?_) (fun hcc => ?_)
  · replace hM := it_p hcc hM
    exact c25 (0 : Int32) hM H locs ls hP hD hS (lv_sub hl [0] rfl)
  · replace hM := it_n hcc hM
    refine lv_iload_n hx hb dX5_ways_15 rfl (lv_at hl 2 rfl) ?_
    refine lv_iconst (v := 1) hx hb dX5_ways_16 (by decide) ?_
    refine lv_bipush (v := 45) hx hb dX5_ways_17 (by decide) ?_
    obtain ⟨x19, hC, hM⟩ := bd_s hM
    refine cR_i (va_runS (As := [.int p2, .int (1 : Int32), .int (45 : Int32)]) (rest := []) ⟨hx, hb, hml, hown, hts⟩ (kX5_isIn (l := l) (D := D) (cI := cI) (cJ := cJ) N (p1 := p2) (p2 := (1 : Int32)) (p3 := (45 : Int32)) hC H.size) (va_cwS 3 hts gX5_ways_X5_isIn rfl rfl rfl (by decide +kernel) ⟨Nat.le_of_ble_eq_true rfl, Nat.le_of_ble_eq_true rfl⟩) (preS [.int p2, .int (1 : Int32), .int (45 : Int32)] hN hK (hP.sub (ws' := zw) [] rfl) (hD.sub (ws' := zw) [] (by decide) rfl)) rfl rfl hl.1 rfl (lv_room (Nat.le_of_ble_eq_true rfl)) dX5_ways_19 ⟨Nat.le_of_ble_eq_true rfl, Nat.le_of_ble_eq_true rfl⟩) hP hS (fun r u H locs hw hP hS => ?_)
    obtain ⟨hw, hz19⟩ := hw
    rw [hw] at hz19
    rw [hw]
    refine lv_if_ne (tgt := 31) hx hb dX5_ways_22 (by decide) (fun hcc => ?_) (fun hcc => ?_)
    · replace hM := it_n hcc hM
      refine lv_aload_n hx hb dX5_ways_31 rfl (lv_at hl 0 rfl) ?_
      refine va_get (D := D) (ci := 5) (v := .ref (b 5)) (C := RX5) (T := TX5) (N := 12) hx hb hts iX5 hown hK hP 0 rfl rfl 7 (by decide) f29 (fun _ h9 => h9) rfl dX5_ways_32 ?_
      refine lv_bipush (v := 46) hx hb dX5_ways_35 (by decide) ?_
      refine lv_iload_n hx hb dX5_ways_37 rfl (lv_at hl 1 rfl) ?_
      refine lv_imul hx hb dX5_ways_38 ?_
      refine lv_iload_n hx hb dX5_ways_39 rfl (lv_at hl 2 rfl) ?_
      refine lv_iadd hx hb dX5_ways_40 ?_
      refine lv_iconst (v := 1) hx hb dX5_ways_41 (by decide) ?_
      refine lv_iadd hx hb dX5_ways_42 ?_
      obtain ⟨hb43, hM⟩ := it_x hM
      refine va_iald (D := D) hx hb hK hP 5 0 rfl rfl hb43 dX5_ways_43 ?_
      refine lv_aload_n hx hb dX5_ways_44 rfl (lv_at hl 0 rfl) ?_
      refine va_get (D := D) (ci := 5) (v := .ref (b 5)) (C := RX5) (T := TX5) (N := 12) hx hb hts iX5 hown hK hP 0 rfl rfl 7 (by decide) f29 (fun _ h9 => h9) rfl dX5_ways_45 ?_
      refine lv_bipush (v := 46) hx hb dX5_ways_48 (by decide) ?_
      refine lv_iload_n hx hb dX5_ways_50 rfl (lv_at hl 1 rfl) ?_
      refine lv_imul hx hb dX5_ways_51 ?_
      refine lv_iload_n hx hb dX5_ways_52 rfl (lv_at hl 2 rfl) ?_
      refine lv_iadd hx hb dX5_ways_53 ?_
      obtain ⟨hb54, hM⟩ := it_x hM
      refine va_iald (D := D) hx hb hK hP 5 0 rfl rfl hb54 dX5_ways_54 ?_
      refine lv_isub hx hb dX5_ways_55 ?_
      obtain rfl := Option.some.inj hM
      subst hQ hAe
      exact W.iret (v := ((mf ((((46 : Int32) * p1) + p2) + (1 : Int32)).toNatClampNeg) - (mf (((46 : Int32) * p1) + p2).toNatClampNeg))) hx hb hr (fun t ht hW => ⟨⟨((mf ((((46 : Int32) * p1) + p2) + (1 : Int32)).toNatClampNeg) - (mf (((46 : Int32) * p1) + p2).toNatClampNeg)), (), rfl, rfl, ⟨by rw [ht]; exact hP, hD⟩⟩, hS.F ht⟩) hS.2.2 dX5_ways_56
    · replace hM := it_p hcc hM
      exact c25 (0 : Int32) hM H locs ls hP hD hS (lv_sub hl [0] rfl)
def mX5_forced_34 (N : Nat) (th' : Int32) : Option (Int32 × Int32) :=
  ((mX5_no N th' (1 : Int32)).bind fun x36 =>
  some (x36.1, x36.2))
def mX5_forced (N : Nat) (th : Int32) (me : RowI) (mf : RowI) (p1 : Int32) (p2 : Int32) : Option (Int32 × Int32) :=
  ((mX5_isIn N p1 (1 : Int32) (9 : Int32)).bind fun x9 =>
  (if x9 = 0 then
  (mX5_forced_34 N (0 : Int32))
  else
  ((mX5_isIn N p2 (1 : Int32) (45 : Int32)).bind fun x19 =>
  (if x19 = 0 then
  (mX5_forced_34 N (0 : Int32))
  else
  ((mX5_forcedOf N me mf p1 p2).bind fun x28 =>
  some (x28, (0 : Int32)))))))
abbrev rmX5_forced : Room := { frames := 1, cells := 0, slots := 0, locals := 25 }
set_option maxHeartbeats 4000000 in
set_option maxRecDepth 100000 in
theorem kX5_forced {l : Launch} {D : va_G} {cI cJ : ClassId} (N : Nat) (b : Nat → Nat) {th : Int32} {w : Int32} {h : Int32} {ms : RowI} {mu : RowI} {mb : RowI} {me : RowI} {mf : RowI} {mt : Int32} {mv : Int32} {ml : Int32} {mk : RowI} {p1 : Int32} {p2 : Int32} {o : (Int32 × Int32)} (hM : mX5_forced N th me mf p1 p2 = some o) (sz : Nat) : Met l yX5_forced wsX5_forced rmX5_forced (va_Pc [.ref (b 0), .int p1, .int p2] (Pre D cI cJ (mw b cI th w h ms mu mb me mf mt mv ml mk) sz)) (va_Qi (fun (r : Int32) (_ : Unit) => r = o.1) (aft D (mw b cI th w h ms mu mb me mf mt mv ml mk) sz (fun (_ : Unit) => (mw b cI o.2 w h ms mu mb me mf mt mv ml mk))) (va_A (mw b cI th w h ms mu mb me mf mt mv ml mk) sz)) 0 0 (va_A (mw b cI th w h ms mu mb me mf mt mv ml mk) sz) := by
  refine xofW (cc := cX5_forced) (maxL := 3) (ret := (some .int)) rfl (by decide) rfl ?_
  intro p e s m args below meth c ls Q A hQ hAe hx hb hr hml hown hts hlocks hnm hN hK H locs hP hD hS hA hl
  replace hown : s.vm.findClass RX5 = some m.cls := hown
  replace hl : lv_has ls 3 [(0, .ref (b 0)), (1, .int p1), (2, .int p2)] := hl
  have iX5 : ∀ w ∈ wsX50, w ∈ wsX5_forced := by decide +kernel
  have f47 := hts (.fieldLink RX5 47 "CryptSumsModel" "thrown" "I") (by decide +kernel)
  have c34 : ∀ (th' : Int32), mX5_forced_34 N th' = some o → ∀ (H : Heap) (locs : List Loc) (ls : Array Slot), va_P D vwCl (mw b cI th' w h ms mu mb me mf mt mv ml mk) H → va_D A (mw b cI th' w h ms mu mb me mf mt mv ml mk) → va_S A s.heap H locs → lv_has ls 3 [(0, .ref (b 0))] → W p l e rmX5_forced s m args below meth c H locs 0 0 Q (F0 m 34 ls []) := by
      intro  th' hM H locs ls hP hD hS hl
      rw [mX5_forced_34] at hM
      refine lv_aload_n hx hb dX5_forced_34 rfl (lv_at hl 0 rfl) ?_
      refine lv_iconst (v := 1) hx hb dX5_forced_35 (by decide) ?_
      obtain ⟨x36, hC, hM⟩ := bd_s hM
      refine cW_i [0, 1, 2, 3, 4, 5, 6] [] (va_runV (As := [.int (1 : Int32)]) (rest := []) ⟨hx, hb, hml, hown, hts⟩ (kX5_no (l := l) (D := D) (cI := cI) (cJ := cJ) N b (th := th') (w := w) (h := h) (ms := ms) (mu := mu) (mb := mb) (me := me) (mf := mf) (mt := mt) (mv := mv) (ml := ml) (mk := mk) (p1 := (1 : Int32)) hC H.size) (cwV 1 hts gX5_forced_X5_no rfl rfl rfl (by decide +kernel) ⟨Nat.le_of_ble_eq_true rfl, Nat.le_of_ble_eq_true rfl⟩) (preV [.int (1 : Int32)] hN hK hP hD (ci := 5) (q0 := 0) rfl rfl) rfl rfl hl.1 rfl (lv_room (Nat.le_of_ble_eq_true rfl)) dX5_forced_36 ⟨Nat.le_of_ble_eq_true rfl, Nat.le_of_ble_eq_true rfl⟩) hP hD hS hA rfl (wr := []) rfl (by decide) (by decide) (fun r u36 H locs hw hP hD hS => ?_)
      replace hP : va_P D vwCl (mw b cI x36.2 w h ms mu mb me mf mt mv ml mk) H := hP
      replace hD : va_D A (mw b cI x36.2 w h ms mu mb me mf mt mv ml mk) := hD
      rw [hw]
      obtain rfl := Option.some.inj hM
      subst hQ hAe
      exact W.iret (v := x36.1) hx hb hr (fun t ht hW => ⟨⟨x36.1, (), rfl, rfl, ⟨by rw [ht]; exact hP, hD⟩⟩, hS.F ht⟩) hS.2.2 dX5_forced_39
  rw [mX5_forced] at hM
  refine lv_aload_n hx hb dX5_forced_0 rfl (lv_at hl 0 rfl) ?_
  refine lv_iconst (v := 0) hx hb dX5_forced_1 (by decide) ?_
  refine va_put (D := D) (ci := 5) (v := .int (0 : Int32)) (ty := .int) (C := RX5) (T := TX5) (N := 12) hx hb hts iX5 tyX5 tyX5_ok nmX5 hown hK hP hD hS 0 rfl rfl 0 (by decide) f47 (fun _ h9 => h9) rfl (by decide +kernel) rfl rfl (Nat.le_of_ble_eq_true rfl) dX5_forced_2 (fun H locs hP hD hS => ?_)
  replace hP : va_P D vwCl (mw b cI (0 : Int32) w h ms mu mb me mf mt mv ml mk) H := hP
  replace hD : va_D A (mw b cI (0 : Int32) w h ms mu mb me mf mt mv ml mk) := hD
  refine lv_iload_n hx hb dX5_forced_5 rfl (lv_at hl 1 rfl) ?_
  refine lv_iconst (v := 1) hx hb dX5_forced_6 (by decide) ?_
  refine lv_bipush (v := 9) hx hb dX5_forced_7 (by decide) ?_
  obtain ⟨x9, hC, hM⟩ := bd_s hM
  refine cR_i (va_runS (As := [.int p1, .int (1 : Int32), .int (9 : Int32)]) (rest := []) ⟨hx, hb, hml, hown, hts⟩ (kX5_isIn (l := l) (D := D) (cI := cI) (cJ := cJ) N (p1 := p1) (p2 := (1 : Int32)) (p3 := (9 : Int32)) hC H.size) (va_cwS 3 hts gX5_forced_X5_isIn rfl rfl rfl (by decide +kernel) ⟨Nat.le_of_ble_eq_true rfl, Nat.le_of_ble_eq_true rfl⟩) (preS [.int p1, .int (1 : Int32), .int (9 : Int32)] hN hK (hP.sub (ws' := zw) [] rfl) (hD.sub (ws' := zw) [] (by decide) rfl)) rfl rfl hl.1 rfl (lv_room (Nat.le_of_ble_eq_true rfl)) dX5_forced_9 ⟨Nat.le_of_ble_eq_true rfl, Nat.le_of_ble_eq_true rfl⟩) hP hS (fun r u H locs hw hP hS => ?_)
  obtain ⟨hw, hz9⟩ := hw
  rw [hw] at hz9
  rw [hw]
  refine lv_if_eq (tgt := 34) hx hb dX5_forced_12 (by decide) (fun hcc => ?_) (fun hcc => ?_)
  · replace hM := it_p hcc hM
    exact c34 (0 : Int32) hM H locs ls hP hD hS (lv_sub hl [0] rfl)
  · replace hM := it_n hcc hM
    refine lv_iload_n hx hb dX5_forced_15 rfl (lv_at hl 2 rfl) ?_
    refine lv_iconst (v := 1) hx hb dX5_forced_16 (by decide) ?_
    refine lv_bipush (v := 45) hx hb dX5_forced_17 (by decide) ?_
    obtain ⟨x19, hC, hM⟩ := bd_s hM
    refine cR_i (va_runS (As := [.int p2, .int (1 : Int32), .int (45 : Int32)]) (rest := []) ⟨hx, hb, hml, hown, hts⟩ (kX5_isIn (l := l) (D := D) (cI := cI) (cJ := cJ) N (p1 := p2) (p2 := (1 : Int32)) (p3 := (45 : Int32)) hC H.size) (va_cwS 3 hts gX5_forced_X5_isIn rfl rfl rfl (by decide +kernel) ⟨Nat.le_of_ble_eq_true rfl, Nat.le_of_ble_eq_true rfl⟩) (preS [.int p2, .int (1 : Int32), .int (45 : Int32)] hN hK (hP.sub (ws' := zw) [] rfl) (hD.sub (ws' := zw) [] (by decide) rfl)) rfl rfl hl.1 rfl (lv_room (Nat.le_of_ble_eq_true rfl)) dX5_forced_19 ⟨Nat.le_of_ble_eq_true rfl, Nat.le_of_ble_eq_true rfl⟩) hP hS (fun r u H locs hw hP hS => ?_)
    obtain ⟨hw, hz19⟩ := hw
    rw [hw] at hz19
    rw [hw]
    refine lv_if_eq (tgt := 34) hx hb dX5_forced_22 (by decide) (fun hcc => ?_) (fun hcc => ?_)
    · replace hM := it_p hcc hM
      exact c34 (0 : Int32) hM H locs ls hP hD hS (lv_sub hl [0] rfl)
    · replace hM := it_n hcc hM
      refine lv_aload_n hx hb dX5_forced_25 rfl (lv_at hl 0 rfl) ?_
      refine lv_iload_n hx hb dX5_forced_26 rfl (lv_at hl 1 rfl) ?_
      refine lv_iload_n hx hb dX5_forced_27 rfl (lv_at hl 2 rfl) ?_
      obtain ⟨x28, hC, hM⟩ := bd_s hM
      refine cR_i (va_runV (As := [.int p1, .int p2]) (rest := []) ⟨hx, hb, hml, hown, hts⟩ (kX5_forcedOf (l := l) (D := D) (cI := cI) (cJ := cJ) N b (th := (0 : Int32)) (w := w) (h := h) (ms := ms) (mu := mu) (mb := mb) (me := me) (mf := mf) (mt := mt) (mv := mv) (ml := ml) (mk := mk) (p1 := p1) (p2 := p2) hC H.size) (cwV 2 hts gX5_forced_X5_forcedOf rfl rfl rfl (by decide +kernel) ⟨Nat.le_of_ble_eq_true rfl, Nat.le_of_ble_eq_true rfl⟩) (preV [.int p1, .int p2] hN hK hP hD (ci := 5) (q0 := 0) rfl rfl) rfl rfl hl.1 rfl (lv_room (Nat.le_of_ble_eq_true rfl)) dX5_forced_28 ⟨Nat.le_of_ble_eq_true rfl, Nat.le_of_ble_eq_true rfl⟩) hP hS (fun r u H locs hw hP hS => ?_)
      rw [hw]
      refine lv_goto (tgt := 39) hx hb dX5_forced_31 (by decide) ?_
      obtain rfl := Option.some.inj hM
      subst hQ hAe
      exact W.iret (v := x28) hx hb hr (fun t ht hW => ⟨⟨x28, (), rfl, rfl, ⟨by rw [ht]; exact hP, hD⟩⟩, hS.F ht⟩) hS.2.2 dX5_forced_39
def mX5_fillings (N : Nat) (th : Int32) (w : Int32) (h : Int32) (ms : RowI) (mu : RowI) (mb : RowI) (me : RowI) (mf : RowI) (mt : Int32) (mv : Int32) (ml : Int32) (mk : RowI) : Option (Int32 × Int32 × RowI × Int32 × Int32 × Int32 × RowI) :=
  ((mX5_look N w h ms mu mb me mf mt mv ml mk).bind fun x6 =>
  ((mX5_told N x6.2.2.1 x6.2.2.2.1).bind fun x10 =>
  some (x10, (0 : Int32), x6.1, x6.2.1, x6.2.2.1, x6.2.2.2.1, x6.2.2.2.2)))
abbrev rmX5_fillings : Room := { frames := 45, cells := 0, slots := 0, locals := 1039 }
set_option maxHeartbeats 4000000 in
set_option maxRecDepth 100000 in
theorem kX5_fillings {l : Launch} {D : va_G} {cI cJ : ClassId} (N : Nat) (b : Nat → Nat) {th : Int32} {w : Int32} {h : Int32} {ms : RowI} {mu : RowI} {mb : RowI} {me : RowI} {mf : RowI} {mt : Int32} {mv : Int32} {ml : Int32} {mk : RowI} {o : (Int32 × Int32 × RowI × Int32 × Int32 × Int32 × RowI)} (hM : mX5_fillings N th w h ms mu mb me mf mt mv ml mk = some o) (sz : Nat) : Met l yX5_fillings wsX5_fillings rmX5_fillings (va_Pc [.ref (b 0)] (Pre D cI cJ (mw b cI th w h ms mu mb me mf mt mv ml mk) sz)) (va_Qi (fun (r : Int32) (_ : Unit) => r = o.1) (aft D (mw b cI th w h ms mu mb me mf mt mv ml mk) sz (fun (_ : Unit) => (mw b cI o.2.1 w h o.2.2.1 mu mb me mf o.2.2.2.1 o.2.2.2.2.1 o.2.2.2.2.2.1 o.2.2.2.2.2.2))) (va_A (mw b cI th w h ms mu mb me mf mt mv ml mk) sz)) 0 0 (va_A (mw b cI th w h ms mu mb me mf mt mv ml mk) sz) := by
  refine xofW (cc := cX5_fillings) (maxL := 1) (ret := (some .int)) rfl (by decide) rfl ?_
  intro p e s m args below meth c ls Q A hQ hAe hx hb hr hml hown hts hlocks hnm hN hK H locs hP hD hS hA hl
  replace hown : s.vm.findClass RX5 = some m.cls := hown
  replace hl : lv_has ls 1 [(0, .ref (b 0))] := hl
  have iX5 : ∀ w ∈ wsX50, w ∈ wsX5_fillings := by decide +kernel
  have f47 := hts (.fieldLink RX5 47 "CryptSumsModel" "thrown" "I") (by decide +kernel)
  rw [mX5_fillings] at hM
  refine lv_aload_n hx hb dX5_fillings_0 rfl (lv_at hl 0 rfl) ?_
  refine lv_iconst (v := 0) hx hb dX5_fillings_1 (by decide) ?_
  refine va_put (D := D) (ci := 5) (v := .int (0 : Int32)) (ty := .int) (C := RX5) (T := TX5) (N := 12) hx hb hts iX5 tyX5 tyX5_ok nmX5 hown hK hP hD hS 0 rfl rfl 0 (by decide) f47 (fun _ h9 => h9) rfl (by decide +kernel) rfl rfl (Nat.le_of_ble_eq_true rfl) dX5_fillings_2 (fun H locs hP hD hS => ?_)
  replace hP : va_P D vwCl (mw b cI (0 : Int32) w h ms mu mb me mf mt mv ml mk) H := hP
  replace hD : va_D A (mw b cI (0 : Int32) w h ms mu mb me mf mt mv ml mk) := hD
  refine lv_aload_n hx hb dX5_fillings_5 rfl (lv_at hl 0 rfl) ?_
  obtain ⟨x6, hC, hM⟩ := bd_s hM
  refine cW_v [0, 1, 2, 3, 4, 5, 6] [] (va_runV (As := []) (rest := []) ⟨hx, hb, hml, hown, hts⟩ (kX5_look (l := l) (D := D) (cI := cI) (cJ := cJ) N b (th := (0 : Int32)) (w := w) (h := h) (ms := ms) (mu := mu) (mb := mb) (me := me) (mf := mf) (mt := mt) (mv := mv) (ml := ml) (mk := mk) hC H.size) (cwV 0 hts gX5_fillings_X5_look rfl rfl rfl (by decide +kernel) ⟨Nat.le_of_ble_eq_true rfl, Nat.le_of_ble_eq_true rfl⟩) (preV [] hN hK hP hD (ci := 5) (q0 := 0) rfl rfl) rfl rfl hl.1 rfl (lv_room (Nat.le_of_ble_eq_true rfl)) dX5_fillings_6 ⟨Nat.le_of_ble_eq_true rfl, Nat.le_of_ble_eq_true rfl⟩) hP hD hS hA rfl (wr := []) rfl (by decide) (by decide) (fun u6 H locs hw hP hD hS => ?_)
  replace hP : va_P D vwCl (mw b cI (0 : Int32) w h x6.1 mu mb me mf x6.2.1 x6.2.2.1 x6.2.2.2.1 x6.2.2.2.2) H := hP
  replace hD : va_D A (mw b cI (0 : Int32) w h x6.1 mu mb me mf x6.2.1 x6.2.2.1 x6.2.2.2.1 x6.2.2.2.2) := hD
  refine lv_aload_n hx hb dX5_fillings_9 rfl (lv_at hl 0 rfl) ?_
  obtain ⟨x10, hC, hM⟩ := bd_s hM
  refine cR_i (va_runV (As := []) (rest := []) ⟨hx, hb, hml, hown, hts⟩ (kX5_told (l := l) (D := D) (cI := cI) (cJ := cJ) N b (th := (0 : Int32)) (w := w) (h := h) (ms := x6.1) (mu := mu) (mb := mb) (me := me) (mf := mf) (mt := x6.2.1) (mv := x6.2.2.1) (ml := x6.2.2.2.1) (mk := x6.2.2.2.2) hC H.size) (cwV 0 hts gX5_fillings_X5_told rfl rfl rfl (by decide +kernel) ⟨Nat.le_of_ble_eq_true rfl, Nat.le_of_ble_eq_true rfl⟩) (preV [] hN hK hP hD (ci := 5) (q0 := 0) rfl rfl) rfl rfl hl.1 rfl (lv_room (Nat.le_of_ble_eq_true rfl)) dX5_fillings_10 ⟨Nat.le_of_ble_eq_true rfl, Nat.le_of_ble_eq_true rfl⟩) hP hS (fun r u H locs hw hP hS => ?_)
  rw [hw]
  obtain rfl := Option.some.inj hM
  subst hQ hAe
  exact W.iret (v := x10) hx hb hr (fun t ht hW => ⟨⟨x10, (), rfl, rfl, ⟨by rw [ht]; exact hP, hD⟩⟩, hS.F ht⟩) hS.2.2 dX5_fillings_13
def mX5_tries (N : Nat) (th : Int32) (w : Int32) (h : Int32) (ms : RowI) (mu : RowI) (mb : RowI) (me : RowI) (mf : RowI) (mt : Int32) (mv : Int32) (ml : Int32) (mk : RowI) : Option (Int32 × Int32 × RowI × Int32 × Int32 × Int32 × RowI) :=
  ((mX5_look N w h ms mu mb me mf mt mv ml mk).bind fun x6 =>
  some (x6.2.1, (0 : Int32), x6.1, x6.2.1, x6.2.2.1, x6.2.2.2.1, x6.2.2.2.2))
abbrev rmX5_tries : Room := { frames := 45, cells := 0, slots := 0, locals := 1039 }
set_option maxHeartbeats 4000000 in
set_option maxRecDepth 100000 in
theorem kX5_tries {l : Launch} {D : va_G} {cI cJ : ClassId} (N : Nat) (b : Nat → Nat) {th : Int32} {w : Int32} {h : Int32} {ms : RowI} {mu : RowI} {mb : RowI} {me : RowI} {mf : RowI} {mt : Int32} {mv : Int32} {ml : Int32} {mk : RowI} {o : (Int32 × Int32 × RowI × Int32 × Int32 × Int32 × RowI)} (hM : mX5_tries N th w h ms mu mb me mf mt mv ml mk = some o) (sz : Nat) : Met l yX5_tries wsX5_tries rmX5_tries (va_Pc [.ref (b 0)] (Pre D cI cJ (mw b cI th w h ms mu mb me mf mt mv ml mk) sz)) (va_Qi (fun (r : Int32) (_ : Unit) => r = o.1) (aft D (mw b cI th w h ms mu mb me mf mt mv ml mk) sz (fun (_ : Unit) => (mw b cI o.2.1 w h o.2.2.1 mu mb me mf o.2.2.2.1 o.2.2.2.2.1 o.2.2.2.2.2.1 o.2.2.2.2.2.2))) (va_A (mw b cI th w h ms mu mb me mf mt mv ml mk) sz)) 0 0 (va_A (mw b cI th w h ms mu mb me mf mt mv ml mk) sz) := by
  refine xofW (cc := cX5_tries) (maxL := 1) (ret := (some .int)) rfl (by decide) rfl ?_
  intro p e s m args below meth c ls Q A hQ hAe hx hb hr hml hown hts hlocks hnm hN hK H locs hP hD hS hA hl
  replace hown : s.vm.findClass RX5 = some m.cls := hown
  replace hl : lv_has ls 1 [(0, .ref (b 0))] := hl
  have iX5 : ∀ w ∈ wsX50, w ∈ wsX5_tries := by decide +kernel
  have f47 := hts (.fieldLink RX5 47 "CryptSumsModel" "thrown" "I") (by decide +kernel)
  have f92 := hts (.fieldLink RX5 92 "CryptSumsModel" "tries" "I") (by decide +kernel)
  rw [mX5_tries] at hM
  refine lv_aload_n hx hb dX5_tries_0 rfl (lv_at hl 0 rfl) ?_
  refine lv_iconst (v := 0) hx hb dX5_tries_1 (by decide) ?_
  refine va_put (D := D) (ci := 5) (v := .int (0 : Int32)) (ty := .int) (C := RX5) (T := TX5) (N := 12) hx hb hts iX5 tyX5 tyX5_ok nmX5 hown hK hP hD hS 0 rfl rfl 0 (by decide) f47 (fun _ h9 => h9) rfl (by decide +kernel) rfl rfl (Nat.le_of_ble_eq_true rfl) dX5_tries_2 (fun H locs hP hD hS => ?_)
  replace hP : va_P D vwCl (mw b cI (0 : Int32) w h ms mu mb me mf mt mv ml mk) H := hP
  replace hD : va_D A (mw b cI (0 : Int32) w h ms mu mb me mf mt mv ml mk) := hD
  refine lv_aload_n hx hb dX5_tries_5 rfl (lv_at hl 0 rfl) ?_
  obtain ⟨x6, hC, hM⟩ := bd_s hM
  refine cW_v [0, 1, 2, 3, 4, 5, 6] [] (va_runV (As := []) (rest := []) ⟨hx, hb, hml, hown, hts⟩ (kX5_look (l := l) (D := D) (cI := cI) (cJ := cJ) N b (th := (0 : Int32)) (w := w) (h := h) (ms := ms) (mu := mu) (mb := mb) (me := me) (mf := mf) (mt := mt) (mv := mv) (ml := ml) (mk := mk) hC H.size) (cwV 0 hts gX5_tries_X5_look rfl rfl rfl (by decide +kernel) ⟨Nat.le_of_ble_eq_true rfl, Nat.le_of_ble_eq_true rfl⟩) (preV [] hN hK hP hD (ci := 5) (q0 := 0) rfl rfl) rfl rfl hl.1 rfl (lv_room (Nat.le_of_ble_eq_true rfl)) dX5_tries_6 ⟨Nat.le_of_ble_eq_true rfl, Nat.le_of_ble_eq_true rfl⟩) hP hD hS hA rfl (wr := []) rfl (by decide) (by decide) (fun u6 H locs hw hP hD hS => ?_)
  replace hP : va_P D vwCl (mw b cI (0 : Int32) w h x6.1 mu mb me mf x6.2.1 x6.2.2.1 x6.2.2.2.1 x6.2.2.2.2) H := hP
  replace hD : va_D A (mw b cI (0 : Int32) w h x6.1 mu mb me mf x6.2.1 x6.2.2.1 x6.2.2.2.1 x6.2.2.2.2) := hD
  refine lv_aload_n hx hb dX5_tries_9 rfl (lv_at hl 0 rfl) ?_
  refine va_get (D := D) (ci := 5) (v := .int x6.2.1) (C := RX5) (T := TX5) (N := 12) hx hb hts iX5 hown hK hP 0 rfl rfl 8 (by decide) f92 (fun _ h9 => h9) rfl dX5_tries_10 ?_
  obtain rfl := Option.some.inj hM
  subst hQ hAe
  exact W.iret (v := x6.2.1) hx hb hr (fun t ht hW => ⟨⟨x6.2.1, (), rfl, rfl, ⟨by rw [ht]; exact hP, hD⟩⟩, hS.F ht⟩) hS.2.2 dX5_tries_13
def mX5_solvedAt (N : Nat) (w : Int32) (h : Int32) (ms : RowI) (mu : RowI) (mb : RowI) (me : RowI) (mf : RowI) (mt : Int32) (mv : Int32) (ml : Int32) (mk : RowI) (p1 : Int32) : Option (Int32 × RowI × Int32 × Int32 × Int32 × RowI) :=
  ((mX5_look N w h ms mu mb me mf mt mv ml mk).bind fun x1 =>
  (if x1.2.2.2.1 = 0 then
  (if x1.2.2.1 = 0 then
  some ((0 : Int32), x1.1, x1.2.1, x1.2.2.1, x1.2.2.2.1, x1.2.2.2.2)
  else
  (if bad p1 36 then none else
  (if (x1.1 p1.toNatClampNeg) = (-1 : Int32) then
  some ((0 : Int32), x1.1, x1.2.1, x1.2.2.1, x1.2.2.2.1, x1.2.2.2.2)
  else
  (if bad p1 36 then none else
  some ((x1.2.2.2.2 p1.toNatClampNeg), x1.1, x1.2.1, x1.2.2.1, x1.2.2.2.1, x1.2.2.2.2)))))
  else
  some ((0 : Int32), x1.1, x1.2.1, x1.2.2.1, x1.2.2.2.1, x1.2.2.2.2)))
abbrev rmX5_solvedAt : Room := { frames := 45, cells := 0, slots := 0, locals := 1039 }
set_option maxHeartbeats 4000000 in
set_option maxRecDepth 100000 in
theorem kX5_solvedAt {l : Launch} {D : va_G} {cI cJ : ClassId} (N : Nat) (b : Nat → Nat) {th : Int32} {w : Int32} {h : Int32} {ms : RowI} {mu : RowI} {mb : RowI} {me : RowI} {mf : RowI} {mt : Int32} {mv : Int32} {ml : Int32} {mk : RowI} {p1 : Int32} {o : (Int32 × RowI × Int32 × Int32 × Int32 × RowI)} (hM : mX5_solvedAt N w h ms mu mb me mf mt mv ml mk p1 = some o) (sz : Nat) : Met l yX5_solvedAt wsX5_solvedAt rmX5_solvedAt (va_Pc [.ref (b 0), .int p1] (Pre D cI cJ (mw b cI th w h ms mu mb me mf mt mv ml mk) sz)) (va_Qi (fun (r : Int32) (_ : Unit) => r = o.1) (aft D (mw b cI th w h ms mu mb me mf mt mv ml mk) sz (fun (_ : Unit) => (mw b cI th w h o.2.1 mu mb me mf o.2.2.1 o.2.2.2.1 o.2.2.2.2.1 o.2.2.2.2.2))) (va_A (mw b cI th w h ms mu mb me mf mt mv ml mk) sz)) 0 0 (va_A (mw b cI th w h ms mu mb me mf mt mv ml mk) sz) := by
  refine xofW (cc := cX5_solvedAt) (maxL := 2) (ret := (some .int)) rfl (by decide) rfl ?_
  intro p e s m args below meth c ls Q A hQ hAe hx hb hr hml hown hts hlocks hnm hN hK H locs hP hD hS hA hl
  replace hown : s.vm.findClass RX5 = some m.cls := hown
  replace hl : lv_has ls 2 [(0, .ref (b 0)), (1, .int p1)] := hl
  have iX5 : ∀ w ∈ wsX50, w ∈ wsX5_solvedAt := by decide +kernel
  have f16 := hts (.fieldLink RX5 16 "CryptSumsModel" "stones" "[I") (by decide +kernel)
  have f32 := hts (.fieldLink RX5 32 "CryptSumsModel" "filled" "[I") (by decide +kernel)
  have f75 := hts (.fieldLink RX5 75 "CryptSumsModel" "isLong" "Z") (by decide +kernel)
  have f79 := hts (.fieldLink RX5 79 "CryptSumsModel" "ways" "I") (by decide +kernel)
  rw [mX5_solvedAt] at hM
  refine lv_aload_n hx hb dX5_solvedAt_0 rfl (lv_at hl 0 rfl) ?_
  obtain ⟨x1, hC, hM⟩ := bd_s hM
  refine cW_v [0, 1, 2, 3, 4, 5, 6] [] (va_runV (As := []) (rest := []) ⟨hx, hb, hml, hown, hts⟩ (kX5_look (l := l) (D := D) (cI := cI) (cJ := cJ) N b (th := th) (w := w) (h := h) (ms := ms) (mu := mu) (mb := mb) (me := me) (mf := mf) (mt := mt) (mv := mv) (ml := ml) (mk := mk) hC H.size) (cwV 0 hts gX5_solvedAt_X5_look rfl rfl rfl (by decide +kernel) ⟨Nat.le_of_ble_eq_true rfl, Nat.le_of_ble_eq_true rfl⟩) (preV [] hN hK hP hD (ci := 5) (q0 := 0) rfl rfl) rfl rfl hl.1 rfl (lv_room (Nat.le_of_ble_eq_true rfl)) dX5_solvedAt_1 ⟨Nat.le_of_ble_eq_true rfl, Nat.le_of_ble_eq_true rfl⟩) hP hD hS hA rfl (wr := []) rfl (by decide) (by decide) (fun u1 H locs hw hP hD hS => ?_)
  replace hP : va_P D vwCl (mw b cI th w h x1.1 mu mb me mf x1.2.1 x1.2.2.1 x1.2.2.2.1 x1.2.2.2.2) H := hP
  replace hD : va_D A (mw b cI th w h x1.1 mu mb me mf x1.2.1 x1.2.2.1 x1.2.2.2.1 x1.2.2.2.2) := hD
  refine lv_aload_n hx hb dX5_solvedAt_4 rfl (lv_at hl 0 rfl) ?_
  refine va_get (D := D) (ci := 5) (v := .int x1.2.2.2.1) (C := RX5) (T := TX5) (N := 12) hx hb hts iX5 hown hK hP 0 rfl rfl 10 (by decide) f75 (fun _ h9 => h9) rfl dX5_solvedAt_5 ?_
  refine lv_if_ne (tgt := 28) hx hb dX5_solvedAt_8 (by decide) (fun hcc => ?_) (fun hcc => ?_)
  · replace hM := it_n hcc hM
    refine lv_iconst (v := 0) hx hb dX5_solvedAt_28 (by decide) ?_
    refine lv_goto (tgt := 38) hx hb dX5_solvedAt_29 (by decide) ?_
    obtain rfl := Option.some.inj hM
    subst hQ hAe
    exact W.iret (v := (0 : Int32)) hx hb hr (fun t ht hW => ⟨⟨(0 : Int32), (), rfl, rfl, ⟨by rw [ht]; exact hP, hD⟩⟩, hS.F ht⟩) hS.2.2 dX5_solvedAt_38
  · replace hM := it_p hcc hM
    refine lv_aload_n hx hb dX5_solvedAt_11 rfl (lv_at hl 0 rfl) ?_
    refine va_get (D := D) (ci := 5) (v := .int x1.2.2.1) (C := RX5) (T := TX5) (N := 12) hx hb hts iX5 hown hK hP 0 rfl rfl 9 (by decide) f79 (fun _ h9 => h9) rfl dX5_solvedAt_12 ?_
    refine lv_if_eq (tgt := 28) hx hb dX5_solvedAt_15 (by decide) (fun hcc => ?_) (fun hcc => ?_)
    · replace hM := it_p hcc hM
      refine lv_iconst (v := 0) hx hb dX5_solvedAt_28 (by decide) ?_
      refine lv_goto (tgt := 38) hx hb dX5_solvedAt_29 (by decide) ?_
      obtain rfl := Option.some.inj hM
      subst hQ hAe
      exact W.iret (v := (0 : Int32)) hx hb hr (fun t ht hW => ⟨⟨(0 : Int32), (), rfl, rfl, ⟨by rw [ht]; exact hP, hD⟩⟩, hS.F ht⟩) hS.2.2 dX5_solvedAt_38
    · replace hM := it_n hcc hM
      refine lv_aload_n hx hb dX5_solvedAt_18 rfl (lv_at hl 0 rfl) ?_
      refine va_get (D := D) (ci := 5) (v := .ref (b 1)) (C := RX5) (T := TX5) (N := 12) hx hb hts iX5 hown hK hP 0 rfl rfl 3 (by decide) f16 (fun _ h9 => h9) rfl dX5_solvedAt_19 ?_
      refine lv_iload_n hx hb dX5_solvedAt_22 rfl (lv_at hl 1 rfl) ?_
      obtain ⟨hb23, hM⟩ := it_x hM
      refine va_iald (D := D) hx hb hK hP 1 0 rfl rfl hb23 dX5_solvedAt_23 ?_
      refine lv_iconst (v := -1) hx hb dX5_solvedAt_24 (by decide) ?_
      refine lv_icmp_ne (tgt := 32) hx hb dX5_solvedAt_25 (by decide) (fun hcc => ?_) (fun hcc => ?_)
      · replace hM := it_n hcc hM
        refine lv_aload_n hx hb dX5_solvedAt_32 rfl (lv_at hl 0 rfl) ?_
        refine va_get (D := D) (ci := 5) (v := .ref (b 6)) (C := RX5) (T := TX5) (N := 12) hx hb hts iX5 hown hK hP 0 rfl rfl 11 (by decide) f32 (fun _ h9 => h9) rfl dX5_solvedAt_33 ?_
        refine lv_iload_n hx hb dX5_solvedAt_36 rfl (lv_at hl 1 rfl) ?_
        obtain ⟨hb37, hM⟩ := it_x hM
        refine va_iald (D := D) hx hb hK hP 6 0 rfl rfl hb37 dX5_solvedAt_37 ?_
        obtain rfl := Option.some.inj hM
        subst hQ hAe
        exact W.iret (v := (x1.2.2.2.2 p1.toNatClampNeg)) hx hb hr (fun t ht hW => ⟨⟨(x1.2.2.2.2 p1.toNatClampNeg), (), rfl, rfl, ⟨by rw [ht]; exact hP, hD⟩⟩, hS.F ht⟩) hS.2.2 dX5_solvedAt_38
      · replace hM := it_p hcc hM
        refine lv_iconst (v := 0) hx hb dX5_solvedAt_28 (by decide) ?_
        refine lv_goto (tgt := 38) hx hb dX5_solvedAt_29 (by decide) ?_
        obtain rfl := Option.some.inj hM
        subst hQ hAe
        exact W.iret (v := (0 : Int32)) hx hb hr (fun t ht hW => ⟨⟨(0 : Int32), (), rfl, rfl, ⟨by rw [ht]; exact hP, hD⟩⟩, hS.F ht⟩) hS.2.2 dX5_solvedAt_38
def mX5_solved (N : Nat) (th : Int32) (w : Int32) (h : Int32) (ms : RowI) (mu : RowI) (mb : RowI) (me : RowI) (mf : RowI) (mt : Int32) (mv : Int32) (ml : Int32) (mk : RowI) (p1 : Int32) : Option (Int32 × Int32 × RowI × Int32 × Int32 × Int32 × RowI) :=
  ((mX5_isCell N w h p1).bind fun x7 =>
  (if x7 = 0 then
  ((mX5_no N (0 : Int32) (1 : Int32)).bind fun x23 =>
  some (x23.1, x23.2, ms, mt, mv, ml, mk))
  else
  ((mX5_solvedAt N w h ms mu mb me mf mt mv ml mk p1).bind fun x15 =>
  some (x15.1, (0 : Int32), x15.2.1, x15.2.2.1, x15.2.2.2.1, x15.2.2.2.2.1, x15.2.2.2.2.2))))
abbrev rmX5_solved : Room := { frames := 46, cells := 0, slots := 0, locals := 1060 }
set_option maxHeartbeats 4000000 in
set_option maxRecDepth 100000 in
theorem kX5_solved {l : Launch} {D : va_G} {cI cJ : ClassId} (N : Nat) (b : Nat → Nat) {th : Int32} {w : Int32} {h : Int32} {ms : RowI} {mu : RowI} {mb : RowI} {me : RowI} {mf : RowI} {mt : Int32} {mv : Int32} {ml : Int32} {mk : RowI} {p1 : Int32} {o : (Int32 × Int32 × RowI × Int32 × Int32 × Int32 × RowI)} (hM : mX5_solved N th w h ms mu mb me mf mt mv ml mk p1 = some o) (sz : Nat) : Met l yX5_solved wsX5_solved rmX5_solved (va_Pc [.ref (b 0), .int p1] (Pre D cI cJ (mw b cI th w h ms mu mb me mf mt mv ml mk) sz)) (va_Qi (fun (r : Int32) (_ : Unit) => r = o.1) (aft D (mw b cI th w h ms mu mb me mf mt mv ml mk) sz (fun (_ : Unit) => (mw b cI o.2.1 w h o.2.2.1 mu mb me mf o.2.2.2.1 o.2.2.2.2.1 o.2.2.2.2.2.1 o.2.2.2.2.2.2))) (va_A (mw b cI th w h ms mu mb me mf mt mv ml mk) sz)) 0 0 (va_A (mw b cI th w h ms mu mb me mf mt mv ml mk) sz) := by
  refine xofW (cc := cX5_solved) (maxL := 2) (ret := (some .int)) rfl (by decide) rfl ?_
  intro p e s m args below meth c ls Q A hQ hAe hx hb hr hml hown hts hlocks hnm hN hK H locs hP hD hS hA hl
  replace hown : s.vm.findClass RX5 = some m.cls := hown
  replace hl : lv_has ls 2 [(0, .ref (b 0)), (1, .int p1)] := hl
  have iX5 : ∀ w ∈ wsX50, w ∈ wsX5_solved := by decide +kernel
  have f47 := hts (.fieldLink RX5 47 "CryptSumsModel" "thrown" "I") (by decide +kernel)
  rw [mX5_solved] at hM
  refine lv_aload_n hx hb dX5_solved_0 rfl (lv_at hl 0 rfl) ?_
  refine lv_iconst (v := 0) hx hb dX5_solved_1 (by decide) ?_
  refine va_put (D := D) (ci := 5) (v := .int (0 : Int32)) (ty := .int) (C := RX5) (T := TX5) (N := 12) hx hb hts iX5 tyX5 tyX5_ok nmX5 hown hK hP hD hS 0 rfl rfl 0 (by decide) f47 (fun _ h9 => h9) rfl (by decide +kernel) rfl rfl (Nat.le_of_ble_eq_true rfl) dX5_solved_2 (fun H locs hP hD hS => ?_)
  replace hP : va_P D vwCl (mw b cI (0 : Int32) w h ms mu mb me mf mt mv ml mk) H := hP
  replace hD : va_D A (mw b cI (0 : Int32) w h ms mu mb me mf mt mv ml mk) := hD
  refine lv_aload_n hx hb dX5_solved_5 rfl (lv_at hl 0 rfl) ?_
  refine lv_iload_n hx hb dX5_solved_6 rfl (lv_at hl 1 rfl) ?_
  obtain ⟨x7, hC, hM⟩ := bd_s hM
  refine cR_i (va_runV (As := [.int p1]) (rest := []) ⟨hx, hb, hml, hown, hts⟩ (kX5_isCell (l := l) (D := D) (cI := cI) (cJ := cJ) N b (th := (0 : Int32)) (w := w) (h := h) (ms := ms) (mu := mu) (mb := mb) (me := me) (mf := mf) (mt := mt) (mv := mv) (ml := ml) (mk := mk) (p1 := p1) hC H.size) (cwV 1 hts gX5_solved_X5_isCell rfl rfl rfl (by decide +kernel) ⟨Nat.le_of_ble_eq_true rfl, Nat.le_of_ble_eq_true rfl⟩) (preV [.int p1] hN hK hP hD (ci := 5) (q0 := 0) rfl rfl) rfl rfl hl.1 rfl (lv_room (Nat.le_of_ble_eq_true rfl)) dX5_solved_7 ⟨Nat.le_of_ble_eq_true rfl, Nat.le_of_ble_eq_true rfl⟩) hP hS (fun r u H locs hw hP hS => ?_)
  obtain ⟨hw, hz7⟩ := hw
  rw [hw] at hz7
  rw [hw]
  refine lv_if_eq (tgt := 21) hx hb dX5_solved_10 (by decide) (fun hcc => ?_) (fun hcc => ?_)
  · replace hM := it_p hcc hM
    refine lv_aload_n hx hb dX5_solved_21 rfl (lv_at hl 0 rfl) ?_
    refine lv_iconst (v := 1) hx hb dX5_solved_22 (by decide) ?_
    obtain ⟨x23, hC, hM⟩ := bd_s hM
    refine cW_i [0, 1, 2, 3, 4, 5, 6] [] (va_runV (As := [.int (1 : Int32)]) (rest := []) ⟨hx, hb, hml, hown, hts⟩ (kX5_no (l := l) (D := D) (cI := cI) (cJ := cJ) N b (th := (0 : Int32)) (w := w) (h := h) (ms := ms) (mu := mu) (mb := mb) (me := me) (mf := mf) (mt := mt) (mv := mv) (ml := ml) (mk := mk) (p1 := (1 : Int32)) hC H.size) (cwV 1 hts gX5_solved_X5_no rfl rfl rfl (by decide +kernel) ⟨Nat.le_of_ble_eq_true rfl, Nat.le_of_ble_eq_true rfl⟩) (preV [.int (1 : Int32)] hN hK hP hD (ci := 5) (q0 := 0) rfl rfl) rfl rfl hl.1 rfl (lv_room (Nat.le_of_ble_eq_true rfl)) dX5_solved_23 ⟨Nat.le_of_ble_eq_true rfl, Nat.le_of_ble_eq_true rfl⟩) hP hD hS hA rfl (wr := []) rfl (by decide) (by decide) (fun r u23 H locs hw hP hD hS => ?_)
    replace hP : va_P D vwCl (mw b cI x23.2 w h ms mu mb me mf mt mv ml mk) H := hP
    replace hD : va_D A (mw b cI x23.2 w h ms mu mb me mf mt mv ml mk) := hD
    rw [hw]
    obtain rfl := Option.some.inj hM
    subst hQ hAe
    exact W.iret (v := x23.1) hx hb hr (fun t ht hW => ⟨⟨x23.1, (), rfl, rfl, ⟨by rw [ht]; exact hP, hD⟩⟩, hS.F ht⟩) hS.2.2 dX5_solved_26
  · replace hM := it_n hcc hM
    refine lv_aload_n hx hb dX5_solved_13 rfl (lv_at hl 0 rfl) ?_
    refine lv_iload_n hx hb dX5_solved_14 rfl (lv_at hl 1 rfl) ?_
    obtain ⟨x15, hC, hM⟩ := bd_s hM
    refine cW_i [0, 1, 2, 3, 4, 5, 6] [] (va_runV (As := [.int p1]) (rest := []) ⟨hx, hb, hml, hown, hts⟩ (kX5_solvedAt (l := l) (D := D) (cI := cI) (cJ := cJ) N b (th := (0 : Int32)) (w := w) (h := h) (ms := ms) (mu := mu) (mb := mb) (me := me) (mf := mf) (mt := mt) (mv := mv) (ml := ml) (mk := mk) (p1 := p1) hC H.size) (cwV 1 hts gX5_solved_X5_solvedAt rfl rfl rfl (by decide +kernel) ⟨Nat.le_of_ble_eq_true rfl, Nat.le_of_ble_eq_true rfl⟩) (preV [.int p1] hN hK hP hD (ci := 5) (q0 := 0) rfl rfl) rfl rfl hl.1 rfl (lv_room (Nat.le_of_ble_eq_true rfl)) dX5_solved_15 ⟨Nat.le_of_ble_eq_true rfl, Nat.le_of_ble_eq_true rfl⟩) hP hD hS hA rfl (wr := []) rfl (by decide) (by decide) (fun r u15 H locs hw hP hD hS => ?_)
    replace hP : va_P D vwCl (mw b cI (0 : Int32) w h x15.2.1 mu mb me mf x15.2.2.1 x15.2.2.2.1 x15.2.2.2.2.1 x15.2.2.2.2.2) H := hP
    replace hD : va_D A (mw b cI (0 : Int32) w h x15.2.1 mu mb me mf x15.2.2.1 x15.2.2.2.1 x15.2.2.2.2.1 x15.2.2.2.2.2) := hD
    rw [hw]
    refine lv_goto (tgt := 26) hx hb dX5_solved_18 (by decide) ?_
    obtain rfl := Option.some.inj hM
    subst hQ hAe
    exact W.iret (v := x15.1) hx hb hr (fun t ht hW => ⟨⟨x15.1, (), rfl, rfl, ⟨by rw [ht]; exact hP, hD⟩⟩, hS.F ht⟩) hS.2.2 dX5_solved_26
def mX5_next_11 (N : Nat) (w : Int32) (h : Int32) (mu : RowI) (mb : RowI) (me : RowI) (mf : RowI) : Nat → Int32 → Int32 → Int32 → Int32 → RowI → Option (Int32 × Int32 × RowI)
  | 0 => fun _ _ _ _ _ => none
  | n + 1 => fun v1 v2 v3 th' ms' => (if (w * h) ≤ v3 then
  some (v1, th', ms')
  else
  ((mX5_canOf N w h ms' mu mb me mf v3).bind fun x26 =>
  (if bad v3 36 then none else
  (if (x26.2 v3.toNatClampNeg) = 0 then
  (if v1 = (-1 : Int32) then
  (mX5_next_11 N w h mu mb me mf n v3 (bc x26.1) (v3 + 1) th' x26.2)
  else
  (if (bc x26.1) < v2 then
  (mX5_next_11 N w h mu mb me mf n v3 (bc x26.1) (v3 + 1) th' x26.2)
  else
  (mX5_next_11 N w h mu mb me mf n v1 v2 (v3 + 1) th' x26.2)))
  else
  (mX5_next_11 N w h mu mb me mf n v1 v2 (v3 + 1) th' x26.2)))))
def mX5_next (N : Nat) (th : Int32) (w : Int32) (h : Int32) (ms : RowI) (mu : RowI) (mb : RowI) (me : RowI) (mf : RowI) : Option (Int32 × Int32 × RowI) :=
  (mX5_next_11 N w h mu mb me mf N (-1 : Int32) (0 : Int32) (0 : Int32) (0 : Int32) ms)
abbrev rmX5_next : Room := { frames := 4, cells := 0, slots := 0, locals := 98 }
set_option maxHeartbeats 4000000 in
set_option maxRecDepth 100000 in
theorem kX5_next {l : Launch} {D : va_G} {cI cJ : ClassId} (N : Nat) (b : Nat → Nat) {th : Int32} {w : Int32} {h : Int32} {ms : RowI} {mu : RowI} {mb : RowI} {me : RowI} {mf : RowI} {mt : Int32} {mv : Int32} {ml : Int32} {mk : RowI} {o : (Int32 × Int32 × RowI)} (hM : mX5_next N th w h ms mu mb me mf = some o) (sz : Nat) : Met l yX5_next wsX5_next rmX5_next (va_Pc [.ref (b 0)] (Pre D cI cJ (mw b cI th w h ms mu mb me mf mt mv ml mk) sz)) (va_Qi (fun (r : Int32) (_ : Unit) => r = o.1) (aft D (mw b cI th w h ms mu mb me mf mt mv ml mk) sz (fun (_ : Unit) => (mw b cI o.2.1 w h o.2.2 mu mb me mf mt mv ml mk))) (va_A (mw b cI th w h ms mu mb me mf mt mv ml mk) sz)) 0 0 (va_A (mw b cI th w h ms mu mb me mf mt mv ml mk) sz) := by
  refine xofW (cc := cX5_next) (maxL := 5) (ret := (some .int)) rfl (by decide) rfl ?_
  intro p e s m args below meth c ls Q A hQ hAe hx hb hr hml hown hts hlocks hnm hN hK H locs hP hD hS hA hl
  replace hown : s.vm.findClass RX5 = some m.cls := hown
  replace hl : lv_has ls 5 [(0, .ref (b 0))] := hl
  have iX5 : ∀ w ∈ wsX50, w ∈ wsX5_next := by decide +kernel
  have f13 := hts (.fieldLink RX5 13 "CryptSumsModel" "h" "I") (by decide +kernel)
  have f16 := hts (.fieldLink RX5 16 "CryptSumsModel" "stones" "[I") (by decide +kernel)
  have f47 := hts (.fieldLink RX5 47 "CryptSumsModel" "thrown" "I") (by decide +kernel)
  have f7 := hts (.fieldLink RX5 7 "CryptSumsModel" "w" "I") (by decide +kernel)
  have c11 : ∀ (n : Nat), ∀ (v1 : Int32) (v2 : Int32) (v3 : Int32) (th' : Int32) (ms' : RowI), mX5_next_11 N w h mu mb me mf n v1 v2 v3 th' ms' = some o → ∀ (H : Heap) (locs : List Loc) (ls : Array Slot), va_P D vwCl (mw b cI th' w h ms' mu mb me mf mt mv ml mk) H → va_D A (mw b cI th' w h ms' mu mb me mf mt mv ml mk) → va_S A s.heap H locs → lv_has ls 5 [(0, .ref (b 0)), (1, .int v1), (2, .int v2), (3, .int v3)] → W p l e rmX5_next s m args below meth c H locs 0 0 Q (F0 m 11 ls []) := by
    intro n
    induction n with
    | zero =>
      intro v1 v2 v3 th' ms' hM
      rw [mX5_next_11] at hM
      cases hM
    | succ n ih =>
      intro v1 v2 v3 th' ms' hM H locs ls hP hD hS hl
      rw [mX5_next_11] at hM
      refine lv_iload_n hx hb dX5_next_11 rfl (lv_at hl 3 rfl) ?_
      refine lv_aload_n hx hb dX5_next_12 rfl (lv_at hl 0 rfl) ?_
      refine va_get (D := D) (ci := 5) (v := .int w) (C := RX5) (T := TX5) (N := 12) hx hb hts iX5 hown hK hP 0 rfl rfl 1 (by decide) f7 (fun _ h9 => h9) rfl dX5_next_13 ?_
      refine lv_aload_n hx hb dX5_next_16 rfl (lv_at hl 0 rfl) ?_
      refine va_get (D := D) (ci := 5) (v := .int h) (C := RX5) (T := TX5) (N := 12) hx hb hts iX5 hown hK hP 0 rfl rfl 2 (by decide) f13 (fun _ h9 => h9) rfl dX5_next_17 ?_
      refine lv_imul hx hb dX5_next_20 ?_
      refine lv_icmp_ge (tgt := 68) hx hb dX5_next_21 (by decide) (fun hcc => ?_) (fun hcc => ?_)
      · replace hM := it_p hcc hM
        refine lv_iload_n hx hb dX5_next_68 rfl (lv_at hl 1 rfl) ?_
        obtain rfl := Option.some.inj hM
        subst hQ hAe
        exact W.iret (v := v1) hx hb hr (fun t ht hW => ⟨⟨v1, (), rfl, rfl, ⟨by rw [ht]; exact hP, hD⟩⟩, hS.F ht⟩) hS.2.2 dX5_next_69
      · replace hM := it_n hcc hM
        refine lv_aload_n hx hb dX5_next_24 rfl (lv_at hl 0 rfl) ?_
        refine lv_iload_n hx hb dX5_next_25 rfl (lv_at hl 3 rfl) ?_
        obtain ⟨x26, hC, hM⟩ := bd_s hM
        refine cW_i [0, 1, 2, 3, 4, 5, 6] [] (va_runV (As := [.int v3]) (rest := []) ⟨hx, hb, hml, hown, hts⟩ (kX5_canOf (l := l) (D := D) (cI := cI) (cJ := cJ) N b (th := th') (w := w) (h := h) (ms := ms') (mu := mu) (mb := mb) (me := me) (mf := mf) (mt := mt) (mv := mv) (ml := ml) (mk := mk) (p1 := v3) hC H.size) (cwV 1 hts gX5_next_X5_canOf rfl rfl rfl (by decide +kernel) ⟨Nat.le_of_ble_eq_true rfl, Nat.le_of_ble_eq_true rfl⟩) (preV [.int v3] hN hK hP hD (ci := 5) (q0 := 0) rfl rfl) rfl rfl hl.1 rfl (lv_room (Nat.le_of_ble_eq_true rfl)) dX5_next_26 ⟨Nat.le_of_ble_eq_true rfl, Nat.le_of_ble_eq_true rfl⟩) hP hD hS hA rfl (wr := []) rfl (by decide) (by decide) (fun r u26 H locs hw hP hD hS => ?_)
        replace hP : va_P D vwCl (mw b cI th' w h x26.2 mu mb me mf mt mv ml mk) H := hP
        replace hD : va_D A (mw b cI th' w h x26.2 mu mb me mf mt mv ml mk) := hD
        rw [hw]
        refine cR_i (va_runS (As := [.int x26.1]) (rest := []) ⟨hx, hb, hml, hown, hts⟩ (kJ6_bitCount (D := D) (cI := cI) (cJ := cJ) x26.1 H.size) (va_cwS 1 hts gX5_next_J6_bitCount_0f7a4 rfl rfl rfl (by decide +kernel) ⟨Nat.le_of_ble_eq_true rfl, Nat.le_of_ble_eq_true rfl⟩) (preS [.int x26.1] hN hK (hP.sub (ws' := zw) [] rfl) (hD.sub (ws' := zw) [] (by decide) rfl)) rfl rfl hl.1 rfl (lv_room (Nat.le_of_ble_eq_true rfl)) dX5_next_29 ⟨Nat.le_of_ble_eq_true rfl, Nat.le_of_ble_eq_true rfl⟩) hP hS (fun r u H locs hw hP hS => ?_)
        rw [hw]
        refine lv_istore (lv' := [(4, .int (bc x26.1)), (0, .ref (b 0)), (1, .int v1), (2, .int v2), (3, .int v3)]) hx hb dX5_next_32 hl (by decide) rfl (fun ls hl => ?_)
        refine lv_aload_n hx hb dX5_next_34 rfl (lv_at hl 1 rfl) ?_
        refine va_get (D := D) (ci := 5) (v := .ref (b 1)) (C := RX5) (T := TX5) (N := 12) hx hb hts iX5 hown hK hP 0 rfl rfl 3 (by decide) f16 (fun _ h9 => h9) rfl dX5_next_35 ?_
        refine lv_iload_n hx hb dX5_next_38 rfl (lv_at hl 4 rfl) ?_
        obtain ⟨hb39, hM⟩ := it_x hM
        refine va_iald (D := D) hx hb hK hP 1 0 rfl rfl hb39 dX5_next_39 ?_
        refine lv_if_ne (tgt := 62) hx hb dX5_next_40 (by decide) (fun hcc => ?_) (fun hcc => ?_)
        · replace hM := it_n hcc hM
          refine lv_iinc (v := (v3 + 1)) (lv' := [(3, .int (v3 + 1)), (4, .int (bc x26.1)), (0, .ref (b 0)), (1, .int v1), (2, .int v2)]) hx hb dX5_next_62 hl (k := 4) rfl (by rfl) (by decide) rfl (fun ls hl => ?_)
          refine lv_goto (tgt := 11) hx hb dX5_next_65 (by decide) ?_
          exact ih v1 v2 (v3 + 1) th' x26.2 hM H locs ls hP hD hS (lv_sub hl [2, 3, 4, 0] rfl)
        · replace hM := it_p hcc hM
          refine lv_iload_n hx hb dX5_next_43 rfl (lv_at hl 2 rfl) ?_
          refine lv_iconst (v := -1) hx hb dX5_next_44 (by decide) ?_
          refine lv_icmp_eq (tgt := 57) hx hb dX5_next_45 (by decide) (fun hcc => ?_) (fun hcc => ?_)
          · replace hM := it_p hcc hM
            refine lv_iload_n hx hb dX5_next_57 rfl (lv_at hl 4 rfl) ?_
            refine lv_istore_n (lv' := [(1, .int v3), (4, .int (bc x26.1)), (0, .ref (b 0)), (2, .int v2), (3, .int v3)]) hx hb dX5_next_58 rfl hl (by decide) rfl (fun ls hl => ?_)
            refine lv_iload hx hb dX5_next_59 (lv_at hl 1 rfl) ?_
            refine lv_istore_n (lv' := [(2, .int (bc x26.1)), (1, .int v3), (4, .int (bc x26.1)), (0, .ref (b 0)), (3, .int v3)]) hx hb dX5_next_61 rfl hl (by decide) rfl (fun ls hl => ?_)
            refine lv_iinc (v := (v3 + 1)) (lv' := [(3, .int (v3 + 1)), (2, .int (bc x26.1)), (1, .int v3), (4, .int (bc x26.1)), (0, .ref (b 0))]) hx hb dX5_next_62 hl (k := 4) rfl (by rfl) (by decide) rfl (fun ls hl => ?_)
            refine lv_goto (tgt := 11) hx hb dX5_next_65 (by decide) ?_
            exact ih v3 (bc x26.1) (v3 + 1) th' x26.2 hM H locs ls hP hD hS (lv_sub hl [4, 2, 1, 0] rfl)
          · replace hM := it_n hcc hM
            refine lv_iload hx hb dX5_next_48 (lv_at hl 0 rfl) ?_
            refine lv_iload_n hx hb dX5_next_50 rfl (lv_at hl 3 rfl) ?_
            refine lv_icmp_lt (tgt := 57) hx hb dX5_next_51 (by decide) (fun hcc => ?_) (fun hcc => ?_)
            · replace hM := it_p hcc hM
              refine lv_iload_n hx hb dX5_next_57 rfl (lv_at hl 4 rfl) ?_
              refine lv_istore_n (lv' := [(1, .int v3), (4, .int (bc x26.1)), (0, .ref (b 0)), (2, .int v2), (3, .int v3)]) hx hb dX5_next_58 rfl hl (by decide) rfl (fun ls hl => ?_)
              refine lv_iload hx hb dX5_next_59 (lv_at hl 1 rfl) ?_
              refine lv_istore_n (lv' := [(2, .int (bc x26.1)), (1, .int v3), (4, .int (bc x26.1)), (0, .ref (b 0)), (3, .int v3)]) hx hb dX5_next_61 rfl hl (by decide) rfl (fun ls hl => ?_)
              refine lv_iinc (v := (v3 + 1)) (lv' := [(3, .int (v3 + 1)), (2, .int (bc x26.1)), (1, .int v3), (4, .int (bc x26.1)), (0, .ref (b 0))]) hx hb dX5_next_62 hl (k := 4) rfl (by rfl) (by decide) rfl (fun ls hl => ?_)
              refine lv_goto (tgt := 11) hx hb dX5_next_65 (by decide) ?_
              exact ih v3 (bc x26.1) (v3 + 1) th' x26.2 hM H locs ls hP hD hS (lv_sub hl [4, 2, 1, 0] rfl)
            · replace hM := it_n hcc hM
              refine lv_goto (tgt := 62) hx hb dX5_next_54 (by decide) ?_
              refine lv_iinc (v := (v3 + 1)) (lv' := [(3, .int (v3 + 1)), (4, .int (bc x26.1)), (0, .ref (b 0)), (1, .int v1), (2, .int v2)]) hx hb dX5_next_62 hl (k := 4) rfl (by rfl) (by decide) rfl (fun ls hl => ?_)
              refine lv_goto (tgt := 11) hx hb dX5_next_65 (by decide) ?_
              exact ih v1 v2 (v3 + 1) th' x26.2 hM H locs ls hP hD hS (lv_sub hl [2, 3, 4, 0] rfl)
  rw [mX5_next] at hM
  refine lv_aload_n hx hb dX5_next_0 rfl (lv_at hl 0 rfl) ?_
  refine lv_iconst (v := 0) hx hb dX5_next_1 (by decide) ?_
  refine va_put (D := D) (ci := 5) (v := .int (0 : Int32)) (ty := .int) (C := RX5) (T := TX5) (N := 12) hx hb hts iX5 tyX5 tyX5_ok nmX5 hown hK hP hD hS 0 rfl rfl 0 (by decide) f47 (fun _ h9 => h9) rfl (by decide +kernel) rfl rfl (Nat.le_of_ble_eq_true rfl) dX5_next_2 (fun H locs hP hD hS => ?_)
  replace hP : va_P D vwCl (mw b cI (0 : Int32) w h ms mu mb me mf mt mv ml mk) H := hP
  replace hD : va_D A (mw b cI (0 : Int32) w h ms mu mb me mf mt mv ml mk) := hD
  refine lv_iconst (v := -1) hx hb dX5_next_5 (by decide) ?_
  refine lv_istore_n (lv' := [(1, .int (-1 : Int32)), (0, .ref (b 0))]) hx hb dX5_next_6 rfl hl (by decide) rfl (fun ls hl => ?_)
  refine lv_iconst (v := 0) hx hb dX5_next_7 (by decide) ?_
  refine lv_istore_n (lv' := [(2, .int (0 : Int32)), (1, .int (-1 : Int32)), (0, .ref (b 0))]) hx hb dX5_next_8 rfl hl (by decide) rfl (fun ls hl => ?_)
  refine lv_iconst (v := 0) hx hb dX5_next_9 (by decide) ?_
  refine lv_istore_n (lv' := [(3, .int (0 : Int32)), (2, .int (0 : Int32)), (1, .int (-1 : Int32)), (0, .ref (b 0))]) hx hb dX5_next_10 rfl hl (by decide) rfl (fun ls hl => ?_)
  exact c11 N (-1 : Int32) (0 : Int32) (0 : Int32) (0 : Int32) ms hM H locs ls hP hD hS (lv_sub hl [3, 2, 1, 0] rfl)
def mX5_would (N : Nat) (th : Int32) (w : Int32) (h : Int32) (ms : RowI) (mu : RowI) (mb : RowI) (me : RowI) (mf : RowI) (mt : Int32) (mv : Int32) (ml : Int32) (mk : RowI) (p1 : Int32) (p2 : Int32) : Option (Int32 × Int32 × RowI × Int32 × Int32 × Int32 × RowI) :=
  ((mX5_isCell N w h p1).bind fun x7 =>
  (if x7 = 0 then
  ((mX5_no N (0 : Int32) (1 : Int32)).bind fun x15 =>
  some (x15.1, x15.2, ms, mt, mv, ml, mk))
  else
  ((mX5_isIn N p2 (1 : Int32) (9 : Int32)).bind fun x23 =>
  (if x23 = 0 then
  ((mX5_no N (0 : Int32) (2 : Int32)).bind fun x31 =>
  some (x31.1, x31.2, ms, mt, mv, ml, mk))
  else
  (if bad p1 36 then none else
  (if (ms p1.toNatClampNeg) = (-1 : Int32) then
  ((mX5_no N (0 : Int32) (3 : Int32)).bind fun x47 =>
  some (x47.1, x47.2, ms, mt, mv, ml, mk))
  else
  (if bad p1 36 then none else
  (if bad p1 36 then none else
  ((mX5_look N w h (upd ms p1.toNatClampNeg p2) mu mb me mf mt mv ml mk).bind fun x66 =>
  (if bad p1 36 then none else
  ((mX5_told N x66.2.2.1 x66.2.2.2.1).bind fun x77 =>
  some (x77, (0 : Int32), (upd x66.1 p1.toNatClampNeg (ms p1.toNatClampNeg)), x66.2.1, x66.2.2.1, x66.2.2.2.1, x66.2.2.2.2))))))))))))
abbrev rmX5_would : Room := { frames := 45, cells := 0, slots := 0, locals := 1039 }
set_option maxHeartbeats 4000000 in
set_option maxRecDepth 100000 in
theorem kX5_would {l : Launch} {D : va_G} {cI cJ : ClassId} (N : Nat) (b : Nat → Nat) {th : Int32} {w : Int32} {h : Int32} {ms : RowI} {mu : RowI} {mb : RowI} {me : RowI} {mf : RowI} {mt : Int32} {mv : Int32} {ml : Int32} {mk : RowI} {p1 : Int32} {p2 : Int32} {o : (Int32 × Int32 × RowI × Int32 × Int32 × Int32 × RowI)} (hM : mX5_would N th w h ms mu mb me mf mt mv ml mk p1 p2 = some o) (sz : Nat) : Met l yX5_would wsX5_would rmX5_would (va_Pc [.ref (b 0), .int p1, .int p2] (Pre D cI cJ (mw b cI th w h ms mu mb me mf mt mv ml mk) sz)) (va_Qi (fun (r : Int32) (_ : Unit) => r = o.1) (aft D (mw b cI th w h ms mu mb me mf mt mv ml mk) sz (fun (_ : Unit) => (mw b cI o.2.1 w h o.2.2.1 mu mb me mf o.2.2.2.1 o.2.2.2.2.1 o.2.2.2.2.2.1 o.2.2.2.2.2.2))) (va_A (mw b cI th w h ms mu mb me mf mt mv ml mk) sz)) 0 0 (va_A (mw b cI th w h ms mu mb me mf mt mv ml mk) sz) := by
  refine xofW (cc := cX5_would) (maxL := 4) (ret := (some .int)) rfl (by decide) rfl ?_
  intro p e s m args below meth c ls Q A hQ hAe hx hb hr hml hown hts hlocks hnm hN hK H locs hP hD hS hA hl
  replace hown : s.vm.findClass RX5 = some m.cls := hown
  replace hl : lv_has ls 4 [(0, .ref (b 0)), (1, .int p1), (2, .int p2)] := hl
  have iX5 : ∀ w ∈ wsX50, w ∈ wsX5_would := by decide +kernel
  have f16 := hts (.fieldLink RX5 16 "CryptSumsModel" "stones" "[I") (by decide +kernel)
  have f47 := hts (.fieldLink RX5 47 "CryptSumsModel" "thrown" "I") (by decide +kernel)
  rw [mX5_would] at hM
  refine lv_aload_n hx hb dX5_would_0 rfl (lv_at hl 0 rfl) ?_
  refine lv_iconst (v := 0) hx hb dX5_would_1 (by decide) ?_
  refine va_put (D := D) (ci := 5) (v := .int (0 : Int32)) (ty := .int) (C := RX5) (T := TX5) (N := 12) hx hb hts iX5 tyX5 tyX5_ok nmX5 hown hK hP hD hS 0 rfl rfl 0 (by decide) f47 (fun _ h9 => h9) rfl (by decide +kernel) rfl rfl (Nat.le_of_ble_eq_true rfl) dX5_would_2 (fun H locs hP hD hS => ?_)
  replace hP : va_P D vwCl (mw b cI (0 : Int32) w h ms mu mb me mf mt mv ml mk) H := hP
  replace hD : va_D A (mw b cI (0 : Int32) w h ms mu mb me mf mt mv ml mk) := hD
  refine lv_aload_n hx hb dX5_would_5 rfl (lv_at hl 0 rfl) ?_
  refine lv_iload_n hx hb dX5_would_6 rfl (lv_at hl 1 rfl) ?_
  obtain ⟨x7, hC, hM⟩ := bd_s hM
  refine cR_i (va_runV (As := [.int p1]) (rest := []) ⟨hx, hb, hml, hown, hts⟩ (kX5_isCell (l := l) (D := D) (cI := cI) (cJ := cJ) N b (th := (0 : Int32)) (w := w) (h := h) (ms := ms) (mu := mu) (mb := mb) (me := me) (mf := mf) (mt := mt) (mv := mv) (ml := ml) (mk := mk) (p1 := p1) hC H.size) (cwV 1 hts gX5_would_X5_isCell rfl rfl rfl (by decide +kernel) ⟨Nat.le_of_ble_eq_true rfl, Nat.le_of_ble_eq_true rfl⟩) (preV [.int p1] hN hK hP hD (ci := 5) (q0 := 0) rfl rfl) rfl rfl hl.1 rfl (lv_room (Nat.le_of_ble_eq_true rfl)) dX5_would_7 ⟨Nat.le_of_ble_eq_true rfl, Nat.le_of_ble_eq_true rfl⟩) hP hS (fun r u H locs hw hP hS => ?_)
  obtain ⟨hw, hz7⟩ := hw
  rw [hw] at hz7
  rw [hw]
  refine lv_if_ne (tgt := 19) hx hb dX5_would_10 (by decide) (fun hcc => ?_) (fun hcc => ?_)
  · replace hM := it_n hcc hM
    refine lv_iload_n hx hb dX5_would_19 rfl (lv_at hl 2 rfl) ?_
    refine lv_iconst (v := 1) hx hb dX5_would_20 (by decide) ?_
    refine lv_bipush (v := 9) hx hb dX5_would_21 (by decide) ?_
    obtain ⟨x23, hC, hM⟩ := bd_s hM
    refine cR_i (va_runS (As := [.int p2, .int (1 : Int32), .int (9 : Int32)]) (rest := []) ⟨hx, hb, hml, hown, hts⟩ (kX5_isIn (l := l) (D := D) (cI := cI) (cJ := cJ) N (p1 := p2) (p2 := (1 : Int32)) (p3 := (9 : Int32)) hC H.size) (va_cwS 3 hts gX5_would_X5_isIn rfl rfl rfl (by decide +kernel) ⟨Nat.le_of_ble_eq_true rfl, Nat.le_of_ble_eq_true rfl⟩) (preS [.int p2, .int (1 : Int32), .int (9 : Int32)] hN hK (hP.sub (ws' := zw) [] rfl) (hD.sub (ws' := zw) [] (by decide) rfl)) rfl rfl hl.1 rfl (lv_room (Nat.le_of_ble_eq_true rfl)) dX5_would_23 ⟨Nat.le_of_ble_eq_true rfl, Nat.le_of_ble_eq_true rfl⟩) hP hS (fun r u H locs hw hP hS => ?_)
    obtain ⟨hw, hz23⟩ := hw
    rw [hw] at hz23
    rw [hw]
    refine lv_if_ne (tgt := 35) hx hb dX5_would_26 (by decide) (fun hcc => ?_) (fun hcc => ?_)
    · replace hM := it_n hcc hM
      refine lv_aload_n hx hb dX5_would_35 rfl (lv_at hl 0 rfl) ?_
      refine va_get (D := D) (ci := 5) (v := .ref (b 1)) (C := RX5) (T := TX5) (N := 12) hx hb hts iX5 hown hK hP 0 rfl rfl 3 (by decide) f16 (fun _ h9 => h9) rfl dX5_would_36 ?_
      refine lv_iload_n hx hb dX5_would_39 rfl (lv_at hl 1 rfl) ?_
      obtain ⟨hb40, hM⟩ := it_x hM
      refine va_iald (D := D) hx hb hK hP 1 0 rfl rfl hb40 dX5_would_40 ?_
      refine lv_iconst (v := -1) hx hb dX5_would_41 (by decide) ?_
      refine lv_icmp_ne (tgt := 51) hx hb dX5_would_42 (by decide) (fun hcc => ?_) (fun hcc => ?_)
      · replace hM := it_n hcc hM
        refine lv_aload_n hx hb dX5_would_51 rfl (lv_at hl 0 rfl) ?_
        refine va_get (D := D) (ci := 5) (v := .ref (b 1)) (C := RX5) (T := TX5) (N := 12) hx hb hts iX5 hown hK hP 0 rfl rfl 3 (by decide) f16 (fun _ h9 => h9) rfl dX5_would_52 ?_
        refine lv_iload_n hx hb dX5_would_55 rfl (lv_at hl 1 rfl) ?_
        obtain ⟨hb56, hM⟩ := it_x hM
        refine va_iald (D := D) hx hb hK hP 1 0 rfl rfl hb56 dX5_would_56 ?_
        refine lv_istore_n (lv' := [(3, .int (ms p1.toNatClampNeg)), (0, .ref (b 0)), (1, .int p1), (2, .int p2)]) hx hb dX5_would_57 rfl hl (by decide) rfl (fun ls hl => ?_)
        refine lv_aload_n hx hb dX5_would_58 rfl (lv_at hl 1 rfl) ?_
        refine va_get (D := D) (ci := 5) (v := .ref (b 1)) (C := RX5) (T := TX5) (N := 12) hx hb hts iX5 hown hK hP 0 rfl rfl 3 (by decide) f16 (fun _ h9 => h9) rfl dX5_would_59 ?_
        refine lv_iload_n hx hb dX5_would_62 rfl (lv_at hl 2 rfl) ?_
        refine lv_iload_n hx hb dX5_would_63 rfl (lv_at hl 3 rfl) ?_
        obtain ⟨hb64, hM⟩ := it_x hM
        refine va_iast (D := D) hx hb hK hP hD hS 1 0 rfl rfl hb64 dX5_would_64 (fun H locs hP hD hS => ?_)
        replace hP : va_P D vwCl (mw b cI (0 : Int32) w h (upd ms p1.toNatClampNeg p2) mu mb me mf mt mv ml mk) H := hP
        replace hD : va_D A (mw b cI (0 : Int32) w h (upd ms p1.toNatClampNeg p2) mu mb me mf mt mv ml mk) := hD
        refine lv_aload_n hx hb dX5_would_65 rfl (lv_at hl 1 rfl) ?_
        obtain ⟨x66, hC, hM⟩ := bd_s hM
        refine cW_v [0, 1, 2, 3, 4, 5, 6] [] (va_runV (As := []) (rest := []) ⟨hx, hb, hml, hown, hts⟩ (kX5_look (l := l) (D := D) (cI := cI) (cJ := cJ) N b (th := (0 : Int32)) (w := w) (h := h) (ms := (upd ms p1.toNatClampNeg p2)) (mu := mu) (mb := mb) (me := me) (mf := mf) (mt := mt) (mv := mv) (ml := ml) (mk := mk) hC H.size) (cwV 0 hts gX5_would_X5_look rfl rfl rfl (by decide +kernel) ⟨Nat.le_of_ble_eq_true rfl, Nat.le_of_ble_eq_true rfl⟩) (preV [] hN hK hP hD (ci := 5) (q0 := 0) rfl rfl) rfl rfl hl.1 rfl (lv_room (Nat.le_of_ble_eq_true rfl)) dX5_would_66 ⟨Nat.le_of_ble_eq_true rfl, Nat.le_of_ble_eq_true rfl⟩) hP hD hS hA rfl (wr := []) rfl (by decide) (by decide) (fun u66 H locs hw hP hD hS => ?_)
        replace hP : va_P D vwCl (mw b cI (0 : Int32) w h x66.1 mu mb me mf x66.2.1 x66.2.2.1 x66.2.2.2.1 x66.2.2.2.2) H := hP
        replace hD : va_D A (mw b cI (0 : Int32) w h x66.1 mu mb me mf x66.2.1 x66.2.2.1 x66.2.2.2.1 x66.2.2.2.2) := hD
        refine lv_aload_n hx hb dX5_would_69 rfl (lv_at hl 1 rfl) ?_
        refine va_get (D := D) (ci := 5) (v := .ref (b 1)) (C := RX5) (T := TX5) (N := 12) hx hb hts iX5 hown hK hP 0 rfl rfl 3 (by decide) f16 (fun _ h9 => h9) rfl dX5_would_70 ?_
        refine lv_iload_n hx hb dX5_would_73 rfl (lv_at hl 2 rfl) ?_
        refine lv_iload_n hx hb dX5_would_74 rfl (lv_at hl 0 rfl) ?_
        obtain ⟨hb75, hM⟩ := it_x hM
        refine va_iast (D := D) hx hb hK hP hD hS 1 0 rfl rfl hb75 dX5_would_75 (fun H locs hP hD hS => ?_)
        replace hP : va_P D vwCl (mw b cI (0 : Int32) w h (upd x66.1 p1.toNatClampNeg (ms p1.toNatClampNeg)) mu mb me mf x66.2.1 x66.2.2.1 x66.2.2.2.1 x66.2.2.2.2) H := hP
        replace hD : va_D A (mw b cI (0 : Int32) w h (upd x66.1 p1.toNatClampNeg (ms p1.toNatClampNeg)) mu mb me mf x66.2.1 x66.2.2.1 x66.2.2.2.1 x66.2.2.2.2) := hD
        refine lv_aload_n hx hb dX5_would_76 rfl (lv_at hl 1 rfl) ?_
        obtain ⟨x77, hC, hM⟩ := bd_s hM
        refine cR_i (va_runV (As := []) (rest := []) ⟨hx, hb, hml, hown, hts⟩ (kX5_told (l := l) (D := D) (cI := cI) (cJ := cJ) N b (th := (0 : Int32)) (w := w) (h := h) (ms := (upd x66.1 p1.toNatClampNeg (ms p1.toNatClampNeg))) (mu := mu) (mb := mb) (me := me) (mf := mf) (mt := x66.2.1) (mv := x66.2.2.1) (ml := x66.2.2.2.1) (mk := x66.2.2.2.2) hC H.size) (cwV 0 hts gX5_would_X5_told rfl rfl rfl (by decide +kernel) ⟨Nat.le_of_ble_eq_true rfl, Nat.le_of_ble_eq_true rfl⟩) (preV [] hN hK hP hD (ci := 5) (q0 := 0) rfl rfl) rfl rfl hl.1 rfl (lv_room (Nat.le_of_ble_eq_true rfl)) dX5_would_77 ⟨Nat.le_of_ble_eq_true rfl, Nat.le_of_ble_eq_true rfl⟩) hP hS (fun r u H locs hw hP hS => ?_)
        rw [hw]
        obtain rfl := Option.some.inj hM
        subst hQ hAe
        exact W.iret (v := x77) hx hb hr (fun t ht hW => ⟨⟨x77, (), rfl, rfl, ⟨by rw [ht]; exact hP, hD⟩⟩, hS.F ht⟩) hS.2.2 dX5_would_80
      · replace hM := it_p hcc hM
        refine lv_aload_n hx hb dX5_would_45 rfl (lv_at hl 0 rfl) ?_
        refine lv_iconst (v := 3) hx hb dX5_would_46 (by decide) ?_
        obtain ⟨x47, hC, hM⟩ := bd_s hM
        refine cW_i [0, 1, 2, 3, 4, 5, 6] [] (va_runV (As := [.int (3 : Int32)]) (rest := []) ⟨hx, hb, hml, hown, hts⟩ (kX5_no (l := l) (D := D) (cI := cI) (cJ := cJ) N b (th := (0 : Int32)) (w := w) (h := h) (ms := ms) (mu := mu) (mb := mb) (me := me) (mf := mf) (mt := mt) (mv := mv) (ml := ml) (mk := mk) (p1 := (3 : Int32)) hC H.size) (cwV 1 hts gX5_would_X5_no rfl rfl rfl (by decide +kernel) ⟨Nat.le_of_ble_eq_true rfl, Nat.le_of_ble_eq_true rfl⟩) (preV [.int (3 : Int32)] hN hK hP hD (ci := 5) (q0 := 0) rfl rfl) rfl rfl hl.1 rfl (lv_room (Nat.le_of_ble_eq_true rfl)) dX5_would_47 ⟨Nat.le_of_ble_eq_true rfl, Nat.le_of_ble_eq_true rfl⟩) hP hD hS hA rfl (wr := []) rfl (by decide) (by decide) (fun r u47 H locs hw hP hD hS => ?_)
        replace hP : va_P D vwCl (mw b cI x47.2 w h ms mu mb me mf mt mv ml mk) H := hP
        replace hD : va_D A (mw b cI x47.2 w h ms mu mb me mf mt mv ml mk) := hD
        rw [hw]
        obtain rfl := Option.some.inj hM
        subst hQ hAe
        exact W.iret (v := x47.1) hx hb hr (fun t ht hW => ⟨⟨x47.1, (), rfl, rfl, ⟨by rw [ht]; exact hP, hD⟩⟩, hS.F ht⟩) hS.2.2 dX5_would_50
    · replace hM := it_p hcc hM
      refine lv_aload_n hx hb dX5_would_29 rfl (lv_at hl 0 rfl) ?_
      refine lv_iconst (v := 2) hx hb dX5_would_30 (by decide) ?_
      obtain ⟨x31, hC, hM⟩ := bd_s hM
      refine cW_i [0, 1, 2, 3, 4, 5, 6] [] (va_runV (As := [.int (2 : Int32)]) (rest := []) ⟨hx, hb, hml, hown, hts⟩ (kX5_no (l := l) (D := D) (cI := cI) (cJ := cJ) N b (th := (0 : Int32)) (w := w) (h := h) (ms := ms) (mu := mu) (mb := mb) (me := me) (mf := mf) (mt := mt) (mv := mv) (ml := ml) (mk := mk) (p1 := (2 : Int32)) hC H.size) (cwV 1 hts gX5_would_X5_no rfl rfl rfl (by decide +kernel) ⟨Nat.le_of_ble_eq_true rfl, Nat.le_of_ble_eq_true rfl⟩) (preV [.int (2 : Int32)] hN hK hP hD (ci := 5) (q0 := 0) rfl rfl) rfl rfl hl.1 rfl (lv_room (Nat.le_of_ble_eq_true rfl)) dX5_would_31 ⟨Nat.le_of_ble_eq_true rfl, Nat.le_of_ble_eq_true rfl⟩) hP hD hS hA rfl (wr := []) rfl (by decide) (by decide) (fun r u31 H locs hw hP hD hS => ?_)
      replace hP : va_P D vwCl (mw b cI x31.2 w h ms mu mb me mf mt mv ml mk) H := hP
      replace hD : va_D A (mw b cI x31.2 w h ms mu mb me mf mt mv ml mk) := hD
      rw [hw]
      obtain rfl := Option.some.inj hM
      subst hQ hAe
      exact W.iret (v := x31.1) hx hb hr (fun t ht hW => ⟨⟨x31.1, (), rfl, rfl, ⟨by rw [ht]; exact hP, hD⟩⟩, hS.F ht⟩) hS.2.2 dX5_would_34
  · replace hM := it_p hcc hM
    refine lv_aload_n hx hb dX5_would_13 rfl (lv_at hl 0 rfl) ?_
    refine lv_iconst (v := 1) hx hb dX5_would_14 (by decide) ?_
    obtain ⟨x15, hC, hM⟩ := bd_s hM
    refine cW_i [0, 1, 2, 3, 4, 5, 6] [] (va_runV (As := [.int (1 : Int32)]) (rest := []) ⟨hx, hb, hml, hown, hts⟩ (kX5_no (l := l) (D := D) (cI := cI) (cJ := cJ) N b (th := (0 : Int32)) (w := w) (h := h) (ms := ms) (mu := mu) (mb := mb) (me := me) (mf := mf) (mt := mt) (mv := mv) (ml := ml) (mk := mk) (p1 := (1 : Int32)) hC H.size) (cwV 1 hts gX5_would_X5_no rfl rfl rfl (by decide +kernel) ⟨Nat.le_of_ble_eq_true rfl, Nat.le_of_ble_eq_true rfl⟩) (preV [.int (1 : Int32)] hN hK hP hD (ci := 5) (q0 := 0) rfl rfl) rfl rfl hl.1 rfl (lv_room (Nat.le_of_ble_eq_true rfl)) dX5_would_15 ⟨Nat.le_of_ble_eq_true rfl, Nat.le_of_ble_eq_true rfl⟩) hP hD hS hA rfl (wr := []) rfl (by decide) (by decide) (fun r u15 H locs hw hP hD hS => ?_)
    replace hP : va_P D vwCl (mw b cI x15.2 w h ms mu mb me mf mt mv ml mk) H := hP
    replace hD : va_D A (mw b cI x15.2 w h ms mu mb me mf mt mv ml mk) := hD
    rw [hw]
    obtain rfl := Option.some.inj hM
    subst hQ hAe
    exact W.iret (v := x15.1) hx hb hr (fun t ht hW => ⟨⟨x15.1, (), rfl, rfl, ⟨by rw [ht]; exact hP, hD⟩⟩, hS.F ht⟩) hS.2.2 dX5_would_18
def mX5_digest_108 (N : Nat) (w : Int32) (h : Int32) (mu : RowI) (mb : RowI) (me : RowI) (mf : RowI) (mt : Int32) (mv : Int32) (ml : Int32) (mk : RowI) (K38 : Int64 → Int32 → Int32 → RowI → Option (Int64 × Int32 × RowI × Int32 × Int32 × Int32 × RowI)) : Nat → Int64 → Int32 → Int32 → Int32 → RowI → Option (Int64 × Int32 × RowI × Int32 × Int32 × Int32 × RowI)
  | 0 => fun _ _ _ _ _ => none
  | n + 1 => fun v1 v3 v4 th' ms' => (if (12 : Int32) ≤ v4 then
  (K38 v1 (v3 + 1) th' ms')
  else
  (if (6 : Int32) = 0 then none else
  (if (6 : Int32) = 0 then none else
  ((mX5_corridorTold N w h ms' mu mb me mf v3 (v4 / (6 : Int32)) (v4 - v4 / (6 : Int32) * (6 : Int32))).bind fun x132 =>
  (mX5_digest_108 N w h mu mb me mf mt mv ml mk K38 n ((v1 * (31 : Int64)) + (x132.toInt64)) v3 (v4 + 1) th' ms')))))
def mX5_digest_38 (N : Nat) (w : Int32) (h : Int32) (mu : RowI) (mb : RowI) (me : RowI) (mf : RowI) (mt : Int32) (mv : Int32) (ml : Int32) (mk : RowI) : Nat → Int64 → Int32 → Int32 → RowI → Option (Int64 × Int32 × RowI × Int32 × Int32 × Int32 × RowI)
  | 0 => fun _ _ _ _ => none
  | n + 1 => fun v1 v3 th' ms' => (if (w * h) ≤ v3 then
  ((mX5_look N w h ms' mu mb me mf mt mv ml mk).bind fun x151 =>
  ((mX5_told N x151.2.2.1 x151.2.2.2.1).bind fun x160 =>
  some (((((v1 * (31 : Int64)) + (x160.toInt64)) * (31 : Int64)) + (x151.2.1.toInt64)), th', x151.1, x151.2.1, x151.2.2.1, x151.2.2.2.1, x151.2.2.2.2)))
  else
  (if bad v3 36 then none else
  (if bad v3 72 then none else
  (if bad ((36 : Int32) + v3) 72 then none else
  ((mX5_canOf N w h ms' mu mb me mf v3).bind fun x99 =>
  (mX5_digest_108 N w h mu mb me mf mt mv ml mk (mX5_digest_38 N w h mu mb me mf mt mv ml mk n) N ((((((((v1 * (31 : Int64)) + ((ms' v3.toNatClampNeg).toInt64)) * (31 : Int64)) + ((mu v3.toNatClampNeg).toInt64)) * (31 : Int64)) + ((mu ((36 : Int32) + v3).toNatClampNeg).toInt64)) * (31 : Int64)) + (x99.1.toInt64)) v3 (0 : Int32) th' x99.2))))))
def mX5_digest_11 (N : Nat) (w : Int32) (h : Int32) (mu : RowI) (mb : RowI) (me : RowI) (mf : RowI) (mt : Int32) (mv : Int32) (ml : Int32) (mk : RowI) : Nat → Int64 → Int32 → Int32 → RowI → Option (Int64 × Int32 × RowI × Int32 × Int32 × Int32 × RowI)
  | 0 => fun _ _ _ _ => none
  | n + 1 => fun v1 v3 th' ms' => (if (8 : Int32) < v3 then
  (mX5_digest_38 N w h mu mb me mf mt mv ml mk N v1 (0 : Int32) th' ms')
  else
  ((mX5_counted N w h ms' mu mb me mf v3).bind fun x24 =>
  (mX5_digest_11 N w h mu mb me mf mt mv ml mk n ((v1 * (31 : Int64)) + (x24.1.toInt64)) (v3 + 1) th' x24.2)))
def mX5_digest (N : Nat) (th : Int32) (w : Int32) (h : Int32) (ms : RowI) (mu : RowI) (mb : RowI) (me : RowI) (mf : RowI) (mt : Int32) (mv : Int32) (ml : Int32) (mk : RowI) : Option (Int64 × Int32 × RowI × Int32 × Int32 × Int32 × RowI) :=
  (mX5_digest_11 N w h mu mb me mf mt mv ml mk N (1663 : Int64) (0 : Int32) (0 : Int32) ms)
abbrev rmX5_digest : Room := { frames := 45, cells := 0, slots := 0, locals := 1039 }
set_option maxHeartbeats 4000000 in
set_option maxRecDepth 100000 in
theorem kX5_digest {l : Launch} {D : va_G} {cI cJ : ClassId} (N : Nat) (b : Nat → Nat) {th : Int32} {w : Int32} {h : Int32} {ms : RowI} {mu : RowI} {mb : RowI} {me : RowI} {mf : RowI} {mt : Int32} {mv : Int32} {ml : Int32} {mk : RowI} {o : (Int64 × Int32 × RowI × Int32 × Int32 × Int32 × RowI)} (hM : mX5_digest N th w h ms mu mb me mf mt mv ml mk = some o) (sz : Nat) : Met l yX5_digest wsX5_digest rmX5_digest (va_Pc [.ref (b 0)] (Pre D cI cJ (mw b cI th w h ms mu mb me mf mt mv ml mk) sz)) (va_Ql (fun (r : Int64) (_ : Unit) => r = o.1) (aft D (mw b cI th w h ms mu mb me mf mt mv ml mk) sz (fun (_ : Unit) => (mw b cI o.2.1 w h o.2.2.1 mu mb me mf o.2.2.2.1 o.2.2.2.2.1 o.2.2.2.2.2.1 o.2.2.2.2.2.2))) (va_A (mw b cI th w h ms mu mb me mf mt mv ml mk) sz)) 0 0 (va_A (mw b cI th w h ms mu mb me mf mt mv ml mk) sz) := by
  refine xofW (cc := cX5_digest) (maxL := 5) (ret := (some .long)) rfl (by decide) rfl ?_
  intro p e s m args below meth c ls Q A hQ hAe hx hb hr hml hown hts hlocks hnm hN hK H locs hP hD hS hA hl
  replace hown : s.vm.findClass RX5 = some m.cls := hown
  replace hl : lv_has ls 5 [(0, .ref (b 0))] := hl
  have iX5 : ∀ w ∈ wsX50, w ∈ wsX5_digest := by decide +kernel
  have f13 := hts (.fieldLink RX5 13 "CryptSumsModel" "h" "I") (by decide +kernel)
  have f16 := hts (.fieldLink RX5 16 "CryptSumsModel" "stones" "[I") (by decide +kernel)
  have f20 := hts (.fieldLink RX5 20 "CryptSumsModel" "sums" "[I") (by decide +kernel)
  have f47 := hts (.fieldLink RX5 47 "CryptSumsModel" "thrown" "I") (by decide +kernel)
  have f7 := hts (.fieldLink RX5 7 "CryptSumsModel" "w" "I") (by decide +kernel)
  have f92 := hts (.fieldLink RX5 92 "CryptSumsModel" "tries" "I") (by decide +kernel)
  have c108 : ∀ (K38 : Int64 → Int32 → Int32 → RowI → Option (Int64 × Int32 × RowI × Int32 × Int32 × Int32 × RowI)) (hK38 : ∀ (v1 : Int64) (v3 : Int32) (th' : Int32) (ms' : RowI), K38 v1 v3 th' ms' = some o → ∀ (H : Heap) (locs : List Loc) (ls : Array Slot), va_P D vwCl (mw b cI th' w h ms' mu mb me mf mt mv ml mk) H → va_D A (mw b cI th' w h ms' mu mb me mf mt mv ml mk) → va_S A s.heap H locs → lv_has ls 5 [(0, .ref (b 0)), (1, .long v1), (3, .int v3)] → W p l e rmX5_digest s m args below meth c H locs 0 0 Q (F0 m 38 ls [])) (n : Nat), ∀ (v1 : Int64) (v3 : Int32) (v4 : Int32) (th' : Int32) (ms' : RowI), mX5_digest_108 N w h mu mb me mf mt mv ml mk K38 n v1 v3 v4 th' ms' = some o → ∀ (H : Heap) (locs : List Loc) (ls : Array Slot), va_P D vwCl (mw b cI th' w h ms' mu mb me mf mt mv ml mk) H → va_D A (mw b cI th' w h ms' mu mb me mf mt mv ml mk) → va_S A s.heap H locs → lv_has ls 5 [(0, .ref (b 0)), (1, .long v1), (3, .int v3), (4, .int v4)] → W p l e rmX5_digest s m args below meth c H locs 0 0 Q (F0 m 108 ls []) := by
    intro K38 hK38 n
    induction n with
    | zero =>
      intro v1 v3 v4 th' ms' hM
      rw [mX5_digest_108] at hM
      cases hM
    | succ n ih =>
      intro v1 v3 v4 th' ms' hM H locs ls hP hD hS hl
      rw [mX5_digest_108] at hM
      refine lv_iload hx hb dX5_digest_108 (lv_at hl 3 rfl) ?_
      refine lv_bipush (v := 12) hx hb dX5_digest_110 (by decide) ?_
      refine lv_icmp_ge (tgt := 144) hx hb dX5_digest_112 (by decide) (fun hcc => ?_) (fun hcc => ?_)
      · replace hM := it_p hcc hM
        refine lv_iinc (v := (v3 + 1)) (lv' := [(3, .int (v3 + 1)), (0, .ref (b 0)), (1, .long v1), (4, .int v4)]) hx hb dX5_digest_144 hl (k := 2) rfl (by rfl) (by decide) rfl (fun ls hl => ?_)
        refine lv_goto (tgt := 38) hx hb dX5_digest_147 (by decide) ?_
        exact hK38 v1 (v3 + 1) th' ms' hM H locs ls hP hD hS (lv_sub hl [1, 2, 0] rfl)
      · replace hM := it_n hcc hM
        refine lv_lload_n hx hb dX5_digest_115 rfl (lv_at hl 1 rfl) ?_
        refine lv_ldc2 (v := (31 : Int64)) hx hb hown (hts (.constantLong RX5 142 (31)) (by decide +kernel)) dX5_digest_116 ?_
        refine lv_lmul hx hb dX5_digest_119 ?_
        refine lv_aload_n hx hb dX5_digest_120 rfl (lv_at hl 0 rfl) ?_
        refine lv_iload_n hx hb dX5_digest_121 rfl (lv_at hl 2 rfl) ?_
        refine lv_iload hx hb dX5_digest_122 (lv_at hl 3 rfl) ?_
        refine lv_bipush (v := 6) hx hb dX5_digest_124 (by decide) ?_
        obtain ⟨hz126, hM⟩ := it_x hM
        refine lv_idiv hx hb dX5_digest_126 hz126 ?_
        refine lv_iload hx hb dX5_digest_127 (lv_at hl 3 rfl) ?_
        refine lv_bipush (v := 6) hx hb dX5_digest_129 (by decide) ?_
        obtain ⟨hz131, hM⟩ := it_x hM
        refine lv_irem hx hb dX5_digest_131 hz131 ?_
        obtain ⟨x132, hC, hM⟩ := bd_s hM
        refine cR_i (va_runV (As := [.int v3, .int (v4 / (6 : Int32)), .int (v4 - v4 / (6 : Int32) * (6 : Int32))]) (rest := [.long (v1 * (31 : Int64))]) ⟨hx, hb, hml, hown, hts⟩ (kX5_corridorTold (l := l) (D := D) (cI := cI) (cJ := cJ) N b (th := th') (w := w) (h := h) (ms := ms') (mu := mu) (mb := mb) (me := me) (mf := mf) (mt := mt) (mv := mv) (ml := ml) (mk := mk) (p1 := v3) (p2 := (v4 / (6 : Int32))) (p3 := (v4 - v4 / (6 : Int32) * (6 : Int32))) hC H.size) (cwV 3 hts gX5_digest_X5_corridorTold rfl rfl rfl (by decide +kernel) ⟨Nat.le_of_ble_eq_true rfl, Nat.le_of_ble_eq_true rfl⟩) (preV [.int v3, .int (v4 / (6 : Int32)), .int (v4 - v4 / (6 : Int32) * (6 : Int32))] hN hK hP hD (ci := 5) (q0 := 0) rfl rfl) rfl rfl hl.1 rfl (lv_room (Nat.le_of_ble_eq_true rfl)) dX5_digest_132 ⟨Nat.le_of_ble_eq_true rfl, Nat.le_of_ble_eq_true rfl⟩) hP hS (fun r u H locs hw hP hS => ?_)
        rw [hw]
        refine lv_i2l (v := x132.toInt64) hx hb dX5_digest_135 rfl ?_
        refine lv_ladd hx hb dX5_digest_136 ?_
        refine lv_lstore_n (lv' := [(1, .long ((v1 * (31 : Int64)) + (x132.toInt64))), (0, .ref (b 0)), (3, .int v3), (4, .int v4)]) hx hb dX5_digest_137 rfl hl (by decide) rfl (fun ls hl => ?_)
        refine lv_iinc (v := (v4 + 1)) (lv' := [(4, .int (v4 + 1)), (1, .long ((v1 * (31 : Int64)) + (x132.toInt64))), (0, .ref (b 0)), (3, .int v3)]) hx hb dX5_digest_138 hl (k := 3) rfl (by rfl) (by decide) rfl (fun ls hl => ?_)
        refine lv_goto (tgt := 108) hx hb dX5_digest_141 (by decide) ?_
        exact ih ((v1 * (31 : Int64)) + (x132.toInt64)) v3 (v4 + 1) th' ms' hM H locs ls hP hD hS (lv_sub hl [2, 1, 3, 0] rfl)
  have c38 : ∀ (n : Nat), ∀ (v1 : Int64) (v3 : Int32) (th' : Int32) (ms' : RowI), mX5_digest_38 N w h mu mb me mf mt mv ml mk n v1 v3 th' ms' = some o → ∀ (H : Heap) (locs : List Loc) (ls : Array Slot), va_P D vwCl (mw b cI th' w h ms' mu mb me mf mt mv ml mk) H → va_D A (mw b cI th' w h ms' mu mb me mf mt mv ml mk) → va_S A s.heap H locs → lv_has ls 5 [(0, .ref (b 0)), (1, .long v1), (3, .int v3)] → W p l e rmX5_digest s m args below meth c H locs 0 0 Q (F0 m 38 ls []) := by
    intro n
    induction n with
    | zero =>
      intro v1 v3 th' ms' hM
      rw [mX5_digest_38] at hM
      cases hM
    | succ n ih =>
      intro v1 v3 th' ms' hM H locs ls hP hD hS hl
      rw [mX5_digest_38] at hM
      refine lv_iload_n hx hb dX5_digest_38 rfl (lv_at hl 2 rfl) ?_
      refine lv_aload_n hx hb dX5_digest_39 rfl (lv_at hl 0 rfl) ?_
      refine va_get (D := D) (ci := 5) (v := .int w) (C := RX5) (T := TX5) (N := 12) hx hb hts iX5 hown hK hP 0 rfl rfl 1 (by decide) f7 (fun _ h9 => h9) rfl dX5_digest_40 ?_
      refine lv_aload_n hx hb dX5_digest_43 rfl (lv_at hl 0 rfl) ?_
      refine va_get (D := D) (ci := 5) (v := .int h) (C := RX5) (T := TX5) (N := 12) hx hb hts iX5 hown hK hP 0 rfl rfl 2 (by decide) f13 (fun _ h9 => h9) rfl dX5_digest_44 ?_
      refine lv_imul hx hb dX5_digest_47 ?_
      refine lv_icmp_ge (tgt := 150) hx hb dX5_digest_48 (by decide) (fun hcc => ?_) (fun hcc => ?_)
      · replace hM := it_p hcc hM
        refine lv_aload_n hx hb dX5_digest_150 rfl (lv_at hl 0 rfl) ?_
        obtain ⟨x151, hC, hM⟩ := bd_s hM
        refine cW_v [0, 1, 2, 3, 4, 5, 6] [] (va_runV (As := []) (rest := []) ⟨hx, hb, hml, hown, hts⟩ (kX5_look (l := l) (D := D) (cI := cI) (cJ := cJ) N b (th := th') (w := w) (h := h) (ms := ms') (mu := mu) (mb := mb) (me := me) (mf := mf) (mt := mt) (mv := mv) (ml := ml) (mk := mk) hC H.size) (cwV 0 hts gX5_digest_X5_look rfl rfl rfl (by decide +kernel) ⟨Nat.le_of_ble_eq_true rfl, Nat.le_of_ble_eq_true rfl⟩) (preV [] hN hK hP hD (ci := 5) (q0 := 0) rfl rfl) rfl rfl hl.1 rfl (lv_room (Nat.le_of_ble_eq_true rfl)) dX5_digest_151 ⟨Nat.le_of_ble_eq_true rfl, Nat.le_of_ble_eq_true rfl⟩) hP hD hS hA rfl (wr := []) rfl (by decide) (by decide) (fun u151 H locs hw hP hD hS => ?_)
        replace hP : va_P D vwCl (mw b cI th' w h x151.1 mu mb me mf x151.2.1 x151.2.2.1 x151.2.2.2.1 x151.2.2.2.2) H := hP
        replace hD : va_D A (mw b cI th' w h x151.1 mu mb me mf x151.2.1 x151.2.2.1 x151.2.2.2.1 x151.2.2.2.2) := hD
        refine lv_lload_n hx hb dX5_digest_154 rfl (lv_at hl 1 rfl) ?_
        refine lv_ldc2 (v := (31 : Int64)) hx hb hown (hts (.constantLong RX5 142 (31)) (by decide +kernel)) dX5_digest_155 ?_
        refine lv_lmul hx hb dX5_digest_158 ?_
        refine lv_aload_n hx hb dX5_digest_159 rfl (lv_at hl 0 rfl) ?_
        obtain ⟨x160, hC, hM⟩ := bd_s hM
        refine cR_i (va_runV (As := []) (rest := [.long (v1 * (31 : Int64))]) ⟨hx, hb, hml, hown, hts⟩ (kX5_told (l := l) (D := D) (cI := cI) (cJ := cJ) N b (th := th') (w := w) (h := h) (ms := x151.1) (mu := mu) (mb := mb) (me := me) (mf := mf) (mt := x151.2.1) (mv := x151.2.2.1) (ml := x151.2.2.2.1) (mk := x151.2.2.2.2) hC H.size) (cwV 0 hts gX5_digest_X5_told rfl rfl rfl (by decide +kernel) ⟨Nat.le_of_ble_eq_true rfl, Nat.le_of_ble_eq_true rfl⟩) (preV [] hN hK hP hD (ci := 5) (q0 := 0) rfl rfl) rfl rfl hl.1 rfl (lv_room (Nat.le_of_ble_eq_true rfl)) dX5_digest_160 ⟨Nat.le_of_ble_eq_true rfl, Nat.le_of_ble_eq_true rfl⟩) hP hS (fun r u H locs hw hP hS => ?_)
        rw [hw]
        refine lv_i2l (v := x160.toInt64) hx hb dX5_digest_163 rfl ?_
        refine lv_ladd hx hb dX5_digest_164 ?_
        refine lv_ldc2 (v := (31 : Int64)) hx hb hown (hts (.constantLong RX5 142 (31)) (by decide +kernel)) dX5_digest_165 ?_
        refine lv_lmul hx hb dX5_digest_168 ?_
        refine lv_aload_n hx hb dX5_digest_169 rfl (lv_at hl 0 rfl) ?_
        refine va_get (D := D) (ci := 5) (v := .int x151.2.1) (C := RX5) (T := TX5) (N := 12) hx hb hts iX5 hown hK hP 0 rfl rfl 8 (by decide) f92 (fun _ h9 => h9) rfl dX5_digest_170 ?_
        refine lv_i2l (v := x151.2.1.toInt64) hx hb dX5_digest_173 rfl ?_
        refine lv_ladd hx hb dX5_digest_174 ?_
        obtain rfl := Option.some.inj hM
        subst hQ hAe
        exact W.lret (v := ((((v1 * (31 : Int64)) + (x160.toInt64)) * (31 : Int64)) + (x151.2.1.toInt64))) hx hb hr (fun t ht hW => ⟨⟨((((v1 * (31 : Int64)) + (x160.toInt64)) * (31 : Int64)) + (x151.2.1.toInt64)), (), rfl, rfl, ⟨by rw [ht]; exact hP, hD⟩⟩, hS.F ht⟩) hS.2.2 dX5_digest_175
      · replace hM := it_n hcc hM
        refine lv_lload_n hx hb dX5_digest_51 rfl (lv_at hl 1 rfl) ?_
        refine lv_ldc2 (v := (31 : Int64)) hx hb hown (hts (.constantLong RX5 142 (31)) (by decide +kernel)) dX5_digest_52 ?_
        refine lv_lmul hx hb dX5_digest_55 ?_
        refine lv_aload_n hx hb dX5_digest_56 rfl (lv_at hl 0 rfl) ?_
        refine va_get (D := D) (ci := 5) (v := .ref (b 1)) (C := RX5) (T := TX5) (N := 12) hx hb hts iX5 hown hK hP 0 rfl rfl 3 (by decide) f16 (fun _ h9 => h9) rfl dX5_digest_57 ?_
        refine lv_iload_n hx hb dX5_digest_60 rfl (lv_at hl 2 rfl) ?_
        obtain ⟨hb61, hM⟩ := it_x hM
        refine va_iald (D := D) hx hb hK hP 1 0 rfl rfl hb61 dX5_digest_61 ?_
        refine lv_i2l (v := (ms' v3.toNatClampNeg).toInt64) hx hb dX5_digest_62 rfl ?_
        refine lv_ladd hx hb dX5_digest_63 ?_
        refine lv_ldc2 (v := (31 : Int64)) hx hb hown (hts (.constantLong RX5 142 (31)) (by decide +kernel)) dX5_digest_64 ?_
        refine lv_lmul hx hb dX5_digest_67 ?_
        refine lv_aload_n hx hb dX5_digest_68 rfl (lv_at hl 0 rfl) ?_
        refine va_get (D := D) (ci := 5) (v := .ref (b 2)) (C := RX5) (T := TX5) (N := 12) hx hb hts iX5 hown hK hP 0 rfl rfl 4 (by decide) f20 (fun _ h9 => h9) rfl dX5_digest_69 ?_
        refine lv_iload_n hx hb dX5_digest_72 rfl (lv_at hl 2 rfl) ?_
        obtain ⟨hb73, hM⟩ := it_x hM
        refine va_iald (D := D) hx hb hK hP 2 0 rfl rfl hb73 dX5_digest_73 ?_
        refine lv_i2l (v := (mu v3.toNatClampNeg).toInt64) hx hb dX5_digest_74 rfl ?_
        refine lv_ladd hx hb dX5_digest_75 ?_
        refine lv_lstore_n (lv' := [(1, .long ((((v1 * (31 : Int64)) + ((ms' v3.toNatClampNeg).toInt64)) * (31 : Int64)) + ((mu v3.toNatClampNeg).toInt64))), (0, .ref (b 0)), (3, .int v3)]) hx hb dX5_digest_76 rfl hl (by decide) rfl (fun ls hl => ?_)
        refine lv_lload_n hx hb dX5_digest_77 rfl (lv_at hl 0 rfl) ?_
        refine lv_ldc2 (v := (31 : Int64)) hx hb hown (hts (.constantLong RX5 142 (31)) (by decide +kernel)) dX5_digest_78 ?_
        refine lv_lmul hx hb dX5_digest_81 ?_
        refine lv_aload_n hx hb dX5_digest_82 rfl (lv_at hl 1 rfl) ?_
        refine va_get (D := D) (ci := 5) (v := .ref (b 2)) (C := RX5) (T := TX5) (N := 12) hx hb hts iX5 hown hK hP 0 rfl rfl 4 (by decide) f20 (fun _ h9 => h9) rfl dX5_digest_83 ?_
        refine lv_bipush (v := 36) hx hb dX5_digest_86 (by decide) ?_
        refine lv_iload_n hx hb dX5_digest_88 rfl (lv_at hl 2 rfl) ?_
        refine lv_iadd hx hb dX5_digest_89 ?_
        obtain ⟨hb90, hM⟩ := it_x hM
        refine va_iald (D := D) hx hb hK hP 2 0 rfl rfl hb90 dX5_digest_90 ?_
        refine lv_i2l (v := (mu ((36 : Int32) + v3).toNatClampNeg).toInt64) hx hb dX5_digest_91 rfl ?_
        refine lv_ladd hx hb dX5_digest_92 ?_
        refine lv_ldc2 (v := (31 : Int64)) hx hb hown (hts (.constantLong RX5 142 (31)) (by decide +kernel)) dX5_digest_93 ?_
        refine lv_lmul hx hb dX5_digest_96 ?_
        refine lv_aload_n hx hb dX5_digest_97 rfl (lv_at hl 1 rfl) ?_
        refine lv_iload_n hx hb dX5_digest_98 rfl (lv_at hl 2 rfl) ?_
        obtain ⟨x99, hC, hM⟩ := bd_s hM
        refine cW_i [0, 1, 2, 3, 4, 5, 6] [] (va_runV (As := [.int v3]) (rest := [.long (((((((v1 * (31 : Int64)) + ((ms' v3.toNatClampNeg).toInt64)) * (31 : Int64)) + ((mu v3.toNatClampNeg).toInt64)) * (31 : Int64)) + ((mu ((36 : Int32) + v3).toNatClampNeg).toInt64)) * (31 : Int64))]) ⟨hx, hb, hml, hown, hts⟩ (kX5_canOf (l := l) (D := D) (cI := cI) (cJ := cJ) N b (th := th') (w := w) (h := h) (ms := ms') (mu := mu) (mb := mb) (me := me) (mf := mf) (mt := mt) (mv := mv) (ml := ml) (mk := mk) (p1 := v3) hC H.size) (cwV 1 hts gX5_digest_X5_canOf rfl rfl rfl (by decide +kernel) ⟨Nat.le_of_ble_eq_true rfl, Nat.le_of_ble_eq_true rfl⟩) (preV [.int v3] hN hK hP hD (ci := 5) (q0 := 0) rfl rfl) rfl rfl hl.1 rfl (lv_room (Nat.le_of_ble_eq_true rfl)) dX5_digest_99 ⟨Nat.le_of_ble_eq_true rfl, Nat.le_of_ble_eq_true rfl⟩) hP hD hS hA rfl (wr := []) rfl (by decide) (by decide) (fun r u99 H locs hw hP hD hS => ?_)
        replace hP : va_P D vwCl (mw b cI th' w h x99.2 mu mb me mf mt mv ml mk) H := hP
        replace hD : va_D A (mw b cI th' w h x99.2 mu mb me mf mt mv ml mk) := hD
        rw [hw]
        refine lv_i2l (v := x99.1.toInt64) hx hb dX5_digest_102 rfl ?_
        refine lv_ladd hx hb dX5_digest_103 ?_
        refine lv_lstore_n (lv' := [(1, .long ((((((((v1 * (31 : Int64)) + ((ms' v3.toNatClampNeg).toInt64)) * (31 : Int64)) + ((mu v3.toNatClampNeg).toInt64)) * (31 : Int64)) + ((mu ((36 : Int32) + v3).toNatClampNeg).toInt64)) * (31 : Int64)) + (x99.1.toInt64))), (0, .ref (b 0)), (3, .int v3)]) hx hb dX5_digest_104 rfl hl (by decide) rfl (fun ls hl => ?_)
        refine lv_iconst (v := 0) hx hb dX5_digest_105 (by decide) ?_
        refine lv_istore (lv' := [(4, .int (0 : Int32)), (1, .long ((((((((v1 * (31 : Int64)) + ((ms' v3.toNatClampNeg).toInt64)) * (31 : Int64)) + ((mu v3.toNatClampNeg).toInt64)) * (31 : Int64)) + ((mu ((36 : Int32) + v3).toNatClampNeg).toInt64)) * (31 : Int64)) + (x99.1.toInt64))), (0, .ref (b 0)), (3, .int v3)]) hx hb dX5_digest_106 hl (by decide) rfl (fun ls hl => ?_)
        exact c108 (mX5_digest_38 N w h mu mb me mf mt mv ml mk n) ih N ((((((((v1 * (31 : Int64)) + ((ms' v3.toNatClampNeg).toInt64)) * (31 : Int64)) + ((mu v3.toNatClampNeg).toInt64)) * (31 : Int64)) + ((mu ((36 : Int32) + v3).toNatClampNeg).toInt64)) * (31 : Int64)) + (x99.1.toInt64)) v3 (0 : Int32) th' x99.2 hM H locs ls hP hD hS (lv_sub hl [2, 1, 3, 0] rfl)
  have c11 : ∀ (n : Nat), ∀ (v1 : Int64) (v3 : Int32) (th' : Int32) (ms' : RowI), mX5_digest_11 N w h mu mb me mf mt mv ml mk n v1 v3 th' ms' = some o → ∀ (H : Heap) (locs : List Loc) (ls : Array Slot), va_P D vwCl (mw b cI th' w h ms' mu mb me mf mt mv ml mk) H → va_D A (mw b cI th' w h ms' mu mb me mf mt mv ml mk) → va_S A s.heap H locs → lv_has ls 5 [(0, .ref (b 0)), (1, .long v1), (3, .int v3)] → W p l e rmX5_digest s m args below meth c H locs 0 0 Q (F0 m 11 ls []) := by
    intro n
    induction n with
    | zero =>
      intro v1 v3 th' ms' hM
      rw [mX5_digest_11] at hM
      cases hM
    | succ n ih =>
      intro v1 v3 th' ms' hM H locs ls hP hD hS hl
      rw [mX5_digest_11] at hM
      refine lv_iload_n hx hb dX5_digest_11 rfl (lv_at hl 2 rfl) ?_
      refine lv_bipush (v := 8) hx hb dX5_digest_12 (by decide) ?_
      refine lv_icmp_gt (tgt := 36) hx hb dX5_digest_14 (by decide) (fun hcc => ?_) (fun hcc => ?_)
      · replace hM := it_p hcc hM
        refine lv_iconst (v := 0) hx hb dX5_digest_36 (by decide) ?_
        refine lv_istore_n (lv' := [(3, .int (0 : Int32)), (0, .ref (b 0)), (1, .long v1)]) hx hb dX5_digest_37 rfl hl (by decide) rfl (fun ls hl => ?_)
        exact c38 N v1 (0 : Int32) th' ms' hM H locs ls hP hD hS (lv_sub hl [1, 2, 0] rfl)
      · replace hM := it_n hcc hM
        refine lv_lload_n hx hb dX5_digest_17 rfl (lv_at hl 1 rfl) ?_
        refine lv_ldc2 (v := (31 : Int64)) hx hb hown (hts (.constantLong RX5 142 (31)) (by decide +kernel)) dX5_digest_18 ?_
        refine lv_lmul hx hb dX5_digest_21 ?_
        refine lv_aload_n hx hb dX5_digest_22 rfl (lv_at hl 0 rfl) ?_
        refine lv_iload_n hx hb dX5_digest_23 rfl (lv_at hl 2 rfl) ?_
        obtain ⟨x24, hC, hM⟩ := bd_s hM
        refine cW_i [0, 1, 2, 3, 4, 5, 6] [] (va_runV (As := [.int v3]) (rest := [.long (v1 * (31 : Int64))]) ⟨hx, hb, hml, hown, hts⟩ (kX5_counted (l := l) (D := D) (cI := cI) (cJ := cJ) N b (th := th') (w := w) (h := h) (ms := ms') (mu := mu) (mb := mb) (me := me) (mf := mf) (mt := mt) (mv := mv) (ml := ml) (mk := mk) (p1 := v3) hC H.size) (cwV 1 hts gX5_digest_X5_counted rfl rfl rfl (by decide +kernel) ⟨Nat.le_of_ble_eq_true rfl, Nat.le_of_ble_eq_true rfl⟩) (preV [.int v3] hN hK hP hD (ci := 5) (q0 := 0) rfl rfl) rfl rfl hl.1 rfl (lv_room (Nat.le_of_ble_eq_true rfl)) dX5_digest_24 ⟨Nat.le_of_ble_eq_true rfl, Nat.le_of_ble_eq_true rfl⟩) hP hD hS hA rfl (wr := []) rfl (by decide) (by decide) (fun r u24 H locs hw hP hD hS => ?_)
        replace hP : va_P D vwCl (mw b cI th' w h x24.2 mu mb me mf mt mv ml mk) H := hP
        replace hD : va_D A (mw b cI th' w h x24.2 mu mb me mf mt mv ml mk) := hD
        rw [hw]
        refine lv_i2l (v := x24.1.toInt64) hx hb dX5_digest_27 rfl ?_
        refine lv_ladd hx hb dX5_digest_28 ?_
        refine lv_lstore_n (lv' := [(1, .long ((v1 * (31 : Int64)) + (x24.1.toInt64))), (0, .ref (b 0)), (3, .int v3)]) hx hb dX5_digest_29 rfl hl (by decide) rfl (fun ls hl => ?_)
        refine lv_iinc (v := (v3 + 1)) (lv' := [(3, .int (v3 + 1)), (1, .long ((v1 * (31 : Int64)) + (x24.1.toInt64))), (0, .ref (b 0))]) hx hb dX5_digest_30 hl (k := 2) rfl (by rfl) (by decide) rfl (fun ls hl => ?_)
        refine lv_goto (tgt := 11) hx hb dX5_digest_33 (by decide) ?_
        exact ih ((v1 * (31 : Int64)) + (x24.1.toInt64)) (v3 + 1) th' x24.2 hM H locs ls hP hD hS (lv_sub hl [2, 1, 0] rfl)
  rw [mX5_digest] at hM
  refine lv_aload_n hx hb dX5_digest_0 rfl (lv_at hl 0 rfl) ?_
  refine lv_iconst (v := 0) hx hb dX5_digest_1 (by decide) ?_
  refine va_put (D := D) (ci := 5) (v := .int (0 : Int32)) (ty := .int) (C := RX5) (T := TX5) (N := 12) hx hb hts iX5 tyX5 tyX5_ok nmX5 hown hK hP hD hS 0 rfl rfl 0 (by decide) f47 (fun _ h9 => h9) rfl (by decide +kernel) rfl rfl (Nat.le_of_ble_eq_true rfl) dX5_digest_2 (fun H locs hP hD hS => ?_)
  replace hP : va_P D vwCl (mw b cI (0 : Int32) w h ms mu mb me mf mt mv ml mk) H := hP
  replace hD : va_D A (mw b cI (0 : Int32) w h ms mu mb me mf mt mv ml mk) := hD
  refine lv_ldc2 (v := (1663 : Int64)) hx hb hown (hts (.constantLong RX5 140 (1663)) (by decide +kernel)) dX5_digest_5 ?_
  refine lv_lstore_n (lv' := [(1, .long (1663 : Int64)), (0, .ref (b 0))]) hx hb dX5_digest_8 rfl hl (by decide) rfl (fun ls hl => ?_)
  refine lv_iconst (v := 0) hx hb dX5_digest_9 (by decide) ?_
  refine lv_istore_n (lv' := [(3, .int (0 : Int32)), (1, .long (1663 : Int64)), (0, .ref (b 0))]) hx hb dX5_digest_10 rfl hl (by decide) rfl (fun ls hl => ?_)
  exact c11 N (1663 : Int64) (0 : Int32) (0 : Int32) ms hM H locs ls hP hD hS (lv_sub hl [2, 1, 0] rfl)
