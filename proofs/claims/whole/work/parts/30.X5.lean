def mX5_thrown (N : Nat) (th : Int32) : Option Int32 :=
  some th
abbrev rmX5_thrown : Room := { frames := 0, cells := 0, slots := 0, locals := 0 }
set_option maxHeartbeats 4000000 in
set_option maxRecDepth 100000 in
theorem kX5_thrown {l : Launch} {D : va_G} {cI cJ : ClassId} (N : Nat) (b : Nat → Nat) {th : Int32} {w : Int32} {h : Int32} {ms : RowI} {mu : RowI} {mb : RowI} {me : RowI} {mf : RowI} {mt : Int32} {mv : Int32} {ml : Int32} {mk : RowI} {o : Int32} (hM : mX5_thrown N th = some o) (sz : Nat) : Met l yX5_thrown wsX5_thrown rmX5_thrown (va_Pc [.ref (b 0)] (Pre D cI cJ (mw b cI th w h ms mu mb me mf mt mv ml mk) sz)) (va_Qi (fun (r : Int32) (_ : Unit) => r = o) (fun _ _ => True) (fun _ => False)) 0 0 (fun _ => False) := by
  refine xofR (cc := cX5_thrown) (maxL := 1) (ret := (some .int)) rfl (by decide) rfl ?_
  intro p e s m args below meth c ls Q A hQ hAe hx hb hr hml hown hts hlocks hN hK H locs hP hD hS hl
  replace hown : s.vm.findClass RX5 = some m.cls := hown
  replace hl : lv_has ls 1 [(0, .ref (b 0))] := hl
  have iX5 : ∀ w ∈ wsX50, w ∈ wsX5_thrown := by decide +kernel
  have f47 := hts (.fieldLink RX5 47 "CryptSumsModel" "thrown" "I") (by decide +kernel)
  rw [mX5_thrown] at hM
  refine lv_aload_n hx hb dX5_thrown_0 rfl (lv_at hl 0 rfl) ?_
  refine va_get (D := D) (ci := 5) (v := .int th) (C := RX5) (T := TX5) (N := 12) hx hb hts iX5 hown hK hP 0 rfl rfl 0 (by decide) f47 (fun _ h9 => h9) rfl dX5_thrown_1 ?_
  obtain rfl := Option.some.inj hM
  subst hQ hAe
  exact W.iret (v := th) hx hb hr (fun t ht hW => ⟨⟨th, (), rfl, rfl, trivial⟩, hS.F ht⟩) hS.2.2 dX5_thrown_4
def mX5_no (N : Nat) (th : Int32) (p1 : Int32) : Option (Int32 × Int32) :=
  some ((0 : Int32), p1)
abbrev rmX5_no : Room := { frames := 0, cells := 0, slots := 0, locals := 0 }
set_option maxHeartbeats 4000000 in
set_option maxRecDepth 100000 in
theorem kX5_no {l : Launch} {D : va_G} {cI cJ : ClassId} (N : Nat) (b : Nat → Nat) {th : Int32} {w : Int32} {h : Int32} {ms : RowI} {mu : RowI} {mb : RowI} {me : RowI} {mf : RowI} {mt : Int32} {mv : Int32} {ml : Int32} {mk : RowI} {p1 : Int32} {o : (Int32 × Int32)} (hM : mX5_no N th p1 = some o) (sz : Nat) : Met l yX5_no wsX5_no rmX5_no (va_Pc [.ref (b 0), .int p1] (Pre D cI cJ (mw b cI th w h ms mu mb me mf mt mv ml mk) sz)) (va_Qi (fun (r : Int32) (_ : Unit) => r = o.1) (aft D (mw b cI th w h ms mu mb me mf mt mv ml mk) sz (fun (_ : Unit) => (mw b cI o.2 w h ms mu mb me mf mt mv ml mk))) (va_A (mw b cI th w h ms mu mb me mf mt mv ml mk) sz)) 0 0 (va_A (mw b cI th w h ms mu mb me mf mt mv ml mk) sz) := by
  refine xofW (cc := cX5_no) (maxL := 2) (ret := (some .int)) rfl (by decide) rfl ?_
  intro p e s m args below meth c ls Q A hQ hAe hx hb hr hml hown hts hlocks hnm hN hK H locs hP hD hS hA hl
  replace hown : s.vm.findClass RX5 = some m.cls := hown
  replace hl : lv_has ls 2 [(0, .ref (b 0)), (1, .int p1)] := hl
  have iX5 : ∀ w ∈ wsX50, w ∈ wsX5_no := by decide +kernel
  have f47 := hts (.fieldLink RX5 47 "CryptSumsModel" "thrown" "I") (by decide +kernel)
  rw [mX5_no] at hM
  refine lv_aload_n hx hb dX5_no_0 rfl (lv_at hl 0 rfl) ?_
  refine lv_iload_n hx hb dX5_no_1 rfl (lv_at hl 1 rfl) ?_
  refine va_put (D := D) (ci := 5) (v := .int p1) (ty := .int) (C := RX5) (T := TX5) (N := 12) hx hb hts iX5 tyX5 tyX5_ok nmX5 hown hK hP hD hS 0 rfl rfl 0 (by decide) f47 (fun _ h9 => h9) rfl (by decide +kernel) rfl rfl (Nat.le_of_ble_eq_true rfl) dX5_no_2 (fun H locs hP hD hS => ?_)
  replace hP : va_P D vwCl (mw b cI p1 w h ms mu mb me mf mt mv ml mk) H := hP
  replace hD : va_D A (mw b cI p1 w h ms mu mb me mf mt mv ml mk) := hD
  refine lv_iconst (v := 0) hx hb dX5_no_5 (by decide) ?_
  obtain rfl := Option.some.inj hM
  subst hQ hAe
  exact W.iret (v := (0 : Int32)) hx hb hr (fun t ht hW => ⟨⟨(0 : Int32), (), rfl, rfl, ⟨by rw [ht]; exact hP, hD⟩⟩, hS.F ht⟩) hS.2.2 dX5_no_6
def mX5_isIn (N : Nat) (p1 : Int32) (p2 : Int32) (p3 : Int32) : Option Int32 :=
  (if p1 < p2 then
  some (0 : Int32)
  else
  (if p3 < p1 then
  some (0 : Int32)
  else
  some (1 : Int32)))
abbrev rmX5_isIn : Room := { frames := 0, cells := 0, slots := 0, locals := 0 }
set_option maxHeartbeats 4000000 in
set_option maxRecDepth 100000 in
theorem kX5_isIn {l : Launch} {D : va_G} {cI cJ : ClassId} (N : Nat) {p1 : Int32} {p2 : Int32} {p3 : Int32} {o : Int32} (hM : mX5_isIn N p1 p2 p3 = some o) (sz : Nat) : Met l yX5_isIn wsX5_isIn rmX5_isIn (va_Pc [.int p1, .int p2, .int p3] (Pre D cI cJ (zw) sz)) (va_Qi (fun (r : Int32) (_ : Unit) => r = o ∧ bz r) (fun _ _ => True) (fun _ => False)) 0 0 (fun _ => False) := by
  refine xofR (cc := cX5_isIn) (maxL := 3) (ret := (some .boolean)) rfl (by decide) rfl ?_
  intro p e s m args below meth c ls Q A hQ hAe hx hb hr hml hown hts hlocks hN hK H locs hP hD hS hl
  replace hown : s.vm.findClass RX5 = some m.cls := hown
  replace hl : lv_has ls 3 [(0, .int p1), (1, .int p2), (2, .int p3)] := hl
  rw [mX5_isIn] at hM
  refine lv_iload_n hx hb dX5_isIn_0 rfl (lv_at hl 0 rfl) ?_
  refine lv_iload_n hx hb dX5_isIn_1 rfl (lv_at hl 1 rfl) ?_
  refine lv_icmp_lt (tgt := 14) hx hb dX5_isIn_2 (by decide) (fun hc => ?_) (fun hc => ?_)
  · replace hM := it_p hc hM
    refine lv_iconst (v := 0) hx hb dX5_isIn_14 (by decide) ?_
    obtain rfl := Option.some.inj hM
    subst hQ hAe
    exact W.zret (ty := .boolean) (v := (0 : Int32)) hx hb hr (nb_z (Or.inl rfl)) (fun t ht hW => ⟨⟨(0 : Int32), (), rfl, ⟨rfl, Or.inl rfl⟩, trivial⟩, hS.F ht⟩) hS.2.2 dX5_isIn_15
  · replace hM := it_n hc hM
    refine lv_iload_n hx hb dX5_isIn_5 rfl (lv_at hl 0 rfl) ?_
    refine lv_iload_n hx hb dX5_isIn_6 rfl (lv_at hl 2 rfl) ?_
    refine lv_icmp_gt (tgt := 14) hx hb dX5_isIn_7 (by decide) (fun hc => ?_) (fun hc => ?_)
    · replace hM := it_p hc hM
      refine lv_iconst (v := 0) hx hb dX5_isIn_14 (by decide) ?_
      obtain rfl := Option.some.inj hM
      subst hQ hAe
      exact W.zret (ty := .boolean) (v := (0 : Int32)) hx hb hr (nb_z (Or.inl rfl)) (fun t ht hW => ⟨⟨(0 : Int32), (), rfl, ⟨rfl, Or.inl rfl⟩, trivial⟩, hS.F ht⟩) hS.2.2 dX5_isIn_15
    · replace hM := it_n hc hM
      refine lv_iconst (v := 1) hx hb dX5_isIn_10 (by decide) ?_
      refine lv_goto (tgt := 15) hx hb dX5_isIn_11 (by decide) ?_
      obtain rfl := Option.some.inj hM
      subst hQ hAe
      exact W.zret (ty := .boolean) (v := (1 : Int32)) hx hb hr (nb_z (Or.inr rfl)) (fun t ht hW => ⟨⟨(1 : Int32), (), rfl, ⟨rfl, Or.inr rfl⟩, trivial⟩, hS.F ht⟩) hS.2.2 dX5_isIn_15
def mX5_isCell (N : Nat) (w : Int32) (h : Int32) (p1 : Int32) : Option Int32 :=
  ((mX5_isIn N p1 (0 : Int32) ((w * h) - (1 : Int32))).bind fun x13 =>
  some x13)
abbrev rmX5_isCell : Room := { frames := 1, cells := 0, slots := 0, locals := 22 }
set_option maxHeartbeats 4000000 in
set_option maxRecDepth 100000 in
theorem kX5_isCell {l : Launch} {D : va_G} {cI cJ : ClassId} (N : Nat) (b : Nat → Nat) {th : Int32} {w : Int32} {h : Int32} {ms : RowI} {mu : RowI} {mb : RowI} {me : RowI} {mf : RowI} {mt : Int32} {mv : Int32} {ml : Int32} {mk : RowI} {p1 : Int32} {o : Int32} (hM : mX5_isCell N w h p1 = some o) (sz : Nat) : Met l yX5_isCell wsX5_isCell rmX5_isCell (va_Pc [.ref (b 0), .int p1] (Pre D cI cJ (mw b cI th w h ms mu mb me mf mt mv ml mk) sz)) (va_Qi (fun (r : Int32) (_ : Unit) => r = o ∧ bz r) (fun _ _ => True) (fun _ => False)) 0 0 (fun _ => False) := by
  refine xofR (cc := cX5_isCell) (maxL := 2) (ret := (some .boolean)) rfl (by decide) rfl ?_
  intro p e s m args below meth c ls Q A hQ hAe hx hb hr hml hown hts hlocks hN hK H locs hP hD hS hl
  replace hown : s.vm.findClass RX5 = some m.cls := hown
  replace hl : lv_has ls 2 [(0, .ref (b 0)), (1, .int p1)] := hl
  have iX5 : ∀ w ∈ wsX50, w ∈ wsX5_isCell := by decide +kernel
  have f13 := hts (.fieldLink RX5 13 "CryptSumsModel" "h" "I") (by decide +kernel)
  have f7 := hts (.fieldLink RX5 7 "CryptSumsModel" "w" "I") (by decide +kernel)
  rw [mX5_isCell] at hM
  refine lv_iload_n hx hb dX5_isCell_0 rfl (lv_at hl 1 rfl) ?_
  refine lv_iconst (v := 0) hx hb dX5_isCell_1 (by decide) ?_
  refine lv_aload_n hx hb dX5_isCell_2 rfl (lv_at hl 0 rfl) ?_
  refine va_get (D := D) (ci := 5) (v := .int w) (C := RX5) (T := TX5) (N := 12) hx hb hts iX5 hown hK hP 0 rfl rfl 1 (by decide) f7 (fun _ h9 => h9) rfl dX5_isCell_3 ?_
  refine lv_aload_n hx hb dX5_isCell_6 rfl (lv_at hl 0 rfl) ?_
  refine va_get (D := D) (ci := 5) (v := .int h) (C := RX5) (T := TX5) (N := 12) hx hb hts iX5 hown hK hP 0 rfl rfl 2 (by decide) f13 (fun _ h9 => h9) rfl dX5_isCell_7 ?_
  refine lv_imul hx hb dX5_isCell_10 ?_
  refine lv_iconst (v := 1) hx hb dX5_isCell_11 (by decide) ?_
  refine lv_isub hx hb dX5_isCell_12 ?_
  obtain ⟨x13, hC, hM⟩ := bd_s hM
  refine cR_i (va_runS (As := [.int p1, .int (0 : Int32), .int ((w * h) - (1 : Int32))]) (rest := []) ⟨hx, hb, hml, hown, hts⟩ (kX5_isIn (l := l) (D := D) (cI := cI) (cJ := cJ) N (p1 := p1) (p2 := (0 : Int32)) (p3 := ((w * h) - (1 : Int32))) hC H.size) (va_cwS 3 hts gX5_isCell_X5_isIn rfl rfl rfl (by decide +kernel) ⟨Nat.le_of_ble_eq_true rfl, Nat.le_of_ble_eq_true rfl⟩) (preS [.int p1, .int (0 : Int32), .int ((w * h) - (1 : Int32))] hN hK (hP.sub (ws' := zw) [] rfl) (hD.sub (ws' := zw) [] (by decide) rfl)) rfl rfl hl.1 rfl (lv_room (Nat.le_of_ble_eq_true rfl)) dX5_isCell_13 ⟨Nat.le_of_ble_eq_true rfl, Nat.le_of_ble_eq_true rfl⟩) hP hS (fun r u H locs hw hP hS => ?_)
  obtain ⟨hw, hz13⟩ := hw
  rw [hw] at hz13
  rw [hw]
  obtain rfl := Option.some.inj hM
  subst hQ hAe
  exact W.zret (ty := .boolean) (v := x13) hx hb hr (nb_z (hz13)) (fun t ht hW => ⟨⟨x13, (), rfl, ⟨rfl, hz13⟩, trivial⟩, hS.F ht⟩) hS.2.2 dX5_isCell_16
def mX5_sumOf_4 (N : Nat) (p1 : Int32) : Nat → Int32 → Int32 → Option Int32
  | 0 => fun _ _ => none
  | n + 1 => fun v1 v2 => (if (9 : Int32) < v2 then
  some v1
  else
  (mX5_sumOf_4 N p1 n (v1 + (((p1 >>> (v2 &&& 31)) &&& (1 : Int32)) * v2)) (v2 + 1)))
def mX5_sumOf (N : Nat) (p1 : Int32) : Option Int32 :=
  (mX5_sumOf_4 N p1 N (0 : Int32) (1 : Int32))
abbrev rmX5_sumOf : Room := { frames := 0, cells := 0, slots := 0, locals := 0 }
set_option maxHeartbeats 4000000 in
set_option maxRecDepth 100000 in
theorem kX5_sumOf {l : Launch} {D : va_G} {cI cJ : ClassId} (N : Nat) {p1 : Int32} {o : Int32} (hM : mX5_sumOf N p1 = some o) (sz : Nat) : Met l yX5_sumOf wsX5_sumOf rmX5_sumOf (va_Pc [.int p1] (Pre D cI cJ (zw) sz)) (va_Qi (fun (r : Int32) (_ : Unit) => r = o) (fun _ _ => True) (fun _ => False)) 0 0 (fun _ => False) := by
  refine xofR (cc := cX5_sumOf) (maxL := 3) (ret := (some .int)) rfl (by decide) rfl ?_
  intro p e s m args below meth c ls Q A hQ hAe hx hb hr hml hown hts hlocks hN hK H locs hP hD hS hl
  replace hown : s.vm.findClass RX5 = some m.cls := hown
  replace hl : lv_has ls 3 [(0, .int p1)] := hl
  have c4 : ∀ (n : Nat), ∀ (v1 : Int32) (v2 : Int32), mX5_sumOf_4 N p1 n v1 v2 = some o → ∀ (H : Heap) (locs : List Loc) (ls : Array Slot), va_P D vwCl (zw) H → va_S A s.heap H locs → lv_has ls 3 [(0, .int p1), (1, .int v1), (2, .int v2)] → W p l e rmX5_sumOf s m args below meth c H locs 0 0 Q (F0 m 4 ls []) := by
    intro n
    induction n with
    | zero =>
      intro v1 v2 hM
      rw [mX5_sumOf_4] at hM
      cases hM
    | succ n ih =>
      intro v1 v2 hM H locs ls hP hS hl
      rw [mX5_sumOf_4] at hM
      refine lv_iload_n hx hb dX5_sumOf_4 rfl (lv_at hl 2 rfl) ?_
      refine lv_bipush (v := 9) hx hb dX5_sumOf_5 (by decide) ?_
      refine lv_icmp_gt (tgt := 26) hx hb dX5_sumOf_7 (by decide) (fun hc => ?_) (fun hc => ?_)
      · replace hM := it_p hc hM
        refine lv_iload_n hx hb dX5_sumOf_26 rfl (lv_at hl 1 rfl) ?_
        obtain rfl := Option.some.inj hM
        subst hQ hAe
        exact W.iret (v := v1) hx hb hr (fun t ht hW => ⟨⟨v1, (), rfl, rfl, trivial⟩, hS.F ht⟩) hS.2.2 dX5_sumOf_27
      · replace hM := it_n hc hM
        refine lv_iload_n hx hb dX5_sumOf_10 rfl (lv_at hl 1 rfl) ?_
        refine lv_iload_n hx hb dX5_sumOf_11 rfl (lv_at hl 0 rfl) ?_
        refine lv_iload_n hx hb dX5_sumOf_12 rfl (lv_at hl 2 rfl) ?_
        refine lv_ishr hx hb dX5_sumOf_13 ?_
        refine lv_iconst (v := 1) hx hb dX5_sumOf_14 (by decide) ?_
        refine lv_iand hx hb dX5_sumOf_15 ?_
        refine lv_iload_n hx hb dX5_sumOf_16 rfl (lv_at hl 2 rfl) ?_
        refine lv_imul hx hb dX5_sumOf_17 ?_
        refine lv_iadd hx hb dX5_sumOf_18 ?_
        refine lv_istore_n (lv' := [(1, .int (v1 + (((p1 >>> (v2 &&& 31)) &&& (1 : Int32)) * v2))), (0, .int p1), (2, .int v2)]) hx hb dX5_sumOf_19 rfl hl (by decide) rfl (fun ls hl => ?_)
        refine lv_iinc (v := (v2 + 1)) (lv' := [(2, .int (v2 + 1)), (1, .int (v1 + (((p1 >>> (v2 &&& 31)) &&& (1 : Int32)) * v2))), (0, .int p1)]) hx hb dX5_sumOf_20 hl (k := 2) rfl (by rfl) (by decide) rfl (fun ls hl => ?_)
        refine lv_goto (tgt := 4) hx hb dX5_sumOf_23 (by decide) ?_
        exact ih (v1 + (((p1 >>> (v2 &&& 31)) &&& (1 : Int32)) * v2)) (v2 + 1) hM H locs ls hP hS (lv_sub hl [2, 1, 0] rfl)
  rw [mX5_sumOf] at hM
  refine lv_iconst (v := 0) hx hb dX5_sumOf_0 (by decide) ?_
  refine lv_istore_n (lv' := [(1, .int (0 : Int32)), (0, .int p1)]) hx hb dX5_sumOf_1 rfl hl (by decide) rfl (fun ls hl => ?_)
  refine lv_iconst (v := 1) hx hb dX5_sumOf_2 (by decide) ?_
  refine lv_istore_n (lv' := [(2, .int (1 : Int32)), (1, .int (0 : Int32)), (0, .int p1)]) hx hb dX5_sumOf_3 rfl hl (by decide) rfl (fun ls hl => ?_)
  exact c4 N (0 : Int32) (1 : Int32) hM H locs ls hP hS (lv_sub hl [2, 1, 0] rfl)
def mX5_behind (N : Nat) (w : Int32) (h : Int32) (p1 : Int32) (p2 : Int32) : Option Int32 :=
  (if p2 = (1 : Int32) then
  (if (w * h) ≤ (p1 + w) then
  some (-1 : Int32)
  else
  some (p1 + w))
  else
  (if w = 0 then none else
  (if w ≤ ((p1 - p1 / w * w) + (1 : Int32)) then
  some (-1 : Int32)
  else
  some (p1 + (1 : Int32)))))
abbrev rmX5_behind : Room := { frames := 0, cells := 0, slots := 0, locals := 0 }
set_option maxHeartbeats 4000000 in
set_option maxRecDepth 100000 in
theorem kX5_behind {l : Launch} {D : va_G} {cI cJ : ClassId} (N : Nat) (b : Nat → Nat) {th : Int32} {w : Int32} {h : Int32} {ms : RowI} {mu : RowI} {mb : RowI} {me : RowI} {mf : RowI} {mt : Int32} {mv : Int32} {ml : Int32} {mk : RowI} {p1 : Int32} {p2 : Int32} {o : Int32} (hM : mX5_behind N w h p1 p2 = some o) (sz : Nat) : Met l yX5_behind wsX5_behind rmX5_behind (va_Pc [.ref (b 0), .int p1, .int p2] (Pre D cI cJ (mw b cI th w h ms mu mb me mf mt mv ml mk) sz)) (va_Qi (fun (r : Int32) (_ : Unit) => r = o) (fun _ _ => True) (fun _ => False)) 0 0 (fun _ => False) := by
  refine xofR (cc := cX5_behind) (maxL := 3) (ret := (some .int)) rfl (by decide) rfl ?_
  intro p e s m args below meth c ls Q A hQ hAe hx hb hr hml hown hts hlocks hN hK H locs hP hD hS hl
  replace hown : s.vm.findClass RX5 = some m.cls := hown
  replace hl : lv_has ls 3 [(0, .ref (b 0)), (1, .int p1), (2, .int p2)] := hl
  have iX5 : ∀ w ∈ wsX50, w ∈ wsX5_behind := by decide +kernel
  have f13 := hts (.fieldLink RX5 13 "CryptSumsModel" "h" "I") (by decide +kernel)
  have f7 := hts (.fieldLink RX5 7 "CryptSumsModel" "w" "I") (by decide +kernel)
  rw [mX5_behind] at hM
  refine lv_iload_n hx hb dX5_behind_0 rfl (lv_at hl 2 rfl) ?_
  refine lv_iconst (v := 1) hx hb dX5_behind_1 (by decide) ?_
  refine lv_icmp_ne (tgt := 34) hx hb dX5_behind_2 (by decide) (fun hc => ?_) (fun hc => ?_)
  · replace hM := it_n hc hM
    refine lv_iload_n hx hb dX5_behind_34 rfl (lv_at hl 1 rfl) ?_
    refine lv_aload_n hx hb dX5_behind_35 rfl (lv_at hl 0 rfl) ?_
    refine va_get (D := D) (ci := 5) (v := .int w) (C := RX5) (T := TX5) (N := 12) hx hb hts iX5 hown hK hP 0 rfl rfl 1 (by decide) f7 (fun _ h9 => h9) rfl dX5_behind_36 ?_
    obtain ⟨hz39, hM⟩ := it_x hM
    refine lv_irem hx hb dX5_behind_39 hz39 ?_
    refine lv_iconst (v := 1) hx hb dX5_behind_40 (by decide) ?_
    refine lv_iadd hx hb dX5_behind_41 ?_
    refine lv_aload_n hx hb dX5_behind_42 rfl (lv_at hl 0 rfl) ?_
    refine va_get (D := D) (ci := 5) (v := .int w) (C := RX5) (T := TX5) (N := 12) hx hb hts iX5 hown hK hP 0 rfl rfl 1 (by decide) f7 (fun _ h9 => h9) rfl dX5_behind_43 ?_
    refine lv_icmp_ge (tgt := 55) hx hb dX5_behind_46 (by decide) (fun hc => ?_) (fun hc => ?_)
    · replace hM := it_p hc hM
      refine lv_iconst (v := -1) hx hb dX5_behind_55 (by decide) ?_
      obtain rfl := Option.some.inj hM
      subst hQ hAe
      exact W.iret (v := (-1 : Int32)) hx hb hr (fun t ht hW => ⟨⟨(-1 : Int32), (), rfl, rfl, trivial⟩, hS.F ht⟩) hS.2.2 dX5_behind_56
    · replace hM := it_n hc hM
      refine lv_iload_n hx hb dX5_behind_49 rfl (lv_at hl 1 rfl) ?_
      refine lv_iconst (v := 1) hx hb dX5_behind_50 (by decide) ?_
      refine lv_iadd hx hb dX5_behind_51 ?_
      refine lv_goto (tgt := 56) hx hb dX5_behind_52 (by decide) ?_
      obtain rfl := Option.some.inj hM
      subst hQ hAe
      exact W.iret (v := (p1 + (1 : Int32))) hx hb hr (fun t ht hW => ⟨⟨(p1 + (1 : Int32)), (), rfl, rfl, trivial⟩, hS.F ht⟩) hS.2.2 dX5_behind_56
  · replace hM := it_p hc hM
    refine lv_iload_n hx hb dX5_behind_5 rfl (lv_at hl 1 rfl) ?_
    refine lv_aload_n hx hb dX5_behind_6 rfl (lv_at hl 0 rfl) ?_
    refine va_get (D := D) (ci := 5) (v := .int w) (C := RX5) (T := TX5) (N := 12) hx hb hts iX5 hown hK hP 0 rfl rfl 1 (by decide) f7 (fun _ h9 => h9) rfl dX5_behind_7 ?_
    refine lv_iadd hx hb dX5_behind_10 ?_
    refine lv_aload_n hx hb dX5_behind_11 rfl (lv_at hl 0 rfl) ?_
    refine va_get (D := D) (ci := 5) (v := .int w) (C := RX5) (T := TX5) (N := 12) hx hb hts iX5 hown hK hP 0 rfl rfl 1 (by decide) f7 (fun _ h9 => h9) rfl dX5_behind_12 ?_
    refine lv_aload_n hx hb dX5_behind_15 rfl (lv_at hl 0 rfl) ?_
    refine va_get (D := D) (ci := 5) (v := .int h) (C := RX5) (T := TX5) (N := 12) hx hb hts iX5 hown hK hP 0 rfl rfl 2 (by decide) f13 (fun _ h9 => h9) rfl dX5_behind_16 ?_
    refine lv_imul hx hb dX5_behind_19 ?_
    refine lv_icmp_ge (tgt := 32) hx hb dX5_behind_20 (by decide) (fun hc => ?_) (fun hc => ?_)
    · replace hM := it_p hc hM
      refine lv_iconst (v := -1) hx hb dX5_behind_32 (by decide) ?_
      obtain rfl := Option.some.inj hM
      subst hQ hAe
      exact W.iret (v := (-1 : Int32)) hx hb hr (fun t ht hW => ⟨⟨(-1 : Int32), (), rfl, rfl, trivial⟩, hS.F ht⟩) hS.2.2 dX5_behind_33
    · replace hM := it_n hc hM
      refine lv_iload_n hx hb dX5_behind_23 rfl (lv_at hl 1 rfl) ?_
      refine lv_aload_n hx hb dX5_behind_24 rfl (lv_at hl 0 rfl) ?_
      refine va_get (D := D) (ci := 5) (v := .int w) (C := RX5) (T := TX5) (N := 12) hx hb hts iX5 hown hK hP 0 rfl rfl 1 (by decide) f7 (fun _ h9 => h9) rfl dX5_behind_25 ?_
      refine lv_iadd hx hb dX5_behind_28 ?_
      refine lv_goto (tgt := 33) hx hb dX5_behind_29 (by decide) ?_
      obtain rfl := Option.some.inj hM
      subst hQ hAe
      exact W.iret (v := (p1 + w)) hx hb hr (fun t ht hW => ⟨⟨(p1 + w), (), rfl, rfl, trivial⟩, hS.F ht⟩) hS.2.2 dX5_behind_33
def mX5_link_52 (N : Nat) (w : Int32) (h : Int32) (ms : RowI) (K2 : Int32 → RowI → Option RowI) (K9 : Int32 → Int32 → RowI → Option RowI) (v1 : Int32) (v2 : Int32) (s0 : Int32) (mb' : RowI) : Option RowI :=
  (if s0 < 0 then
  (if bad (((36 : Int32) * v1) + v2) 72 then none else
  (K9 v1 (v2 + 1) (upd mb' (((36 : Int32) * v1) + v2).toNatClampNeg v2)))
  else
  (if bad s0 36 then none else
  (if (ms s0.toNatClampNeg) = (-1 : Int32) then
  (if bad (((36 : Int32) * v1) + v2) 72 then none else
  (K9 v1 (v2 + 1) (upd mb' (((36 : Int32) * v1) + v2).toNatClampNeg v2)))
  else
  (if bad (((36 : Int32) * v1) + s0) 72 then none else
  (if bad (((36 : Int32) * v1) + v2) 72 then none else
  (K9 v1 (v2 + 1) (upd mb' (((36 : Int32) * v1) + v2).toNatClampNeg (mb' (((36 : Int32) * v1) + s0).toNatClampNeg))))))))
def mX5_link_9 (N : Nat) (w : Int32) (h : Int32) (ms : RowI) (K2 : Int32 → RowI → Option RowI) : Nat → Int32 → Int32 → RowI → Option RowI
  | 0 => fun _ _ _ => none
  | n + 1 => fun v1 v2 mb' => (if (w * h) ≤ v2 then
  (K2 (v1 + 1) mb')
  else
  (if v1 = (1 : Int32) then
  (mX5_link_52 N w h ms K2 (mX5_link_9 N w h ms K2 n) v1 v2 (v2 - w) mb')
  else
  (if w = 0 then none else
  (if (v2 - v2 / w * w) = 0 then
  (mX5_link_52 N w h ms K2 (mX5_link_9 N w h ms K2 n) v1 v2 (-1 : Int32) mb')
  else
  (mX5_link_52 N w h ms K2 (mX5_link_9 N w h ms K2 n) v1 v2 (v2 - (1 : Int32)) mb')))))
def mX5_link_2 (N : Nat) (w : Int32) (h : Int32) (ms : RowI) : Nat → Int32 → RowI → Option RowI
  | 0 => fun _ _ => none
  | n + 1 => fun v1 mb' => (if (1 : Int32) < v1 then
  some mb'
  else
  (mX5_link_9 N w h ms (mX5_link_2 N w h ms n) N v1 (0 : Int32) mb'))
def mX5_link (N : Nat) (w : Int32) (h : Int32) (ms : RowI) (mb : RowI) : Option RowI :=
  (mX5_link_2 N w h ms N (0 : Int32) mb)
abbrev rmX5_link : Room := { frames := 0, cells := 0, slots := 0, locals := 0 }
set_option maxHeartbeats 4000000 in
set_option maxRecDepth 100000 in
theorem kX5_link {l : Launch} {D : va_G} {cI cJ : ClassId} (N : Nat) (b : Nat → Nat) {th : Int32} {w : Int32} {h : Int32} {ms : RowI} {mu : RowI} {mb : RowI} {me : RowI} {mf : RowI} {mt : Int32} {mv : Int32} {ml : Int32} {mk : RowI} {o : RowI} (hM : mX5_link N w h ms mb = some o) (sz : Nat) : Met l yX5_link wsX5_link rmX5_link (va_Pc [.ref (b 0)] (Pre D cI cJ (mw b cI th w h ms mu mb me mf mt mv ml mk) sz)) (va_Qv (fun (_ : Unit) => True) (aft D (mw b cI th w h ms mu mb me mf mt mv ml mk) sz (fun (_ : Unit) => (mw b cI th w h ms mu o me mf mt mv ml mk))) (va_A (mw b cI th w h ms mu mb me mf mt mv ml mk) sz)) 0 0 (va_A (mw b cI th w h ms mu mb me mf mt mv ml mk) sz) := by
  refine xofW (cc := cX5_link) (maxL := 4) (ret := none) rfl (by decide) rfl ?_
  intro p e s m args below meth c ls Q A hQ hAe hx hb hr hml hown hts hlocks hnm hN hK H locs hP hD hS hA hl
  replace hown : s.vm.findClass RX5 = some m.cls := hown
  replace hl : lv_has ls 4 [(0, .ref (b 0))] := hl
  have iX5 : ∀ w ∈ wsX50, w ∈ wsX5_link := by decide +kernel
  have f13 := hts (.fieldLink RX5 13 "CryptSumsModel" "h" "I") (by decide +kernel)
  have f16 := hts (.fieldLink RX5 16 "CryptSumsModel" "stones" "[I") (by decide +kernel)
  have f23 := hts (.fieldLink RX5 23 "CryptSumsModel" "begins" "[I") (by decide +kernel)
  have f7 := hts (.fieldLink RX5 7 "CryptSumsModel" "w" "I") (by decide +kernel)
  have c52 : ∀ (K2 : Int32 → RowI → Option RowI) (hK2 : ∀ (v1 : Int32) (mb' : RowI), K2 v1 mb' = some o → ∀ (H : Heap) (locs : List Loc) (ls : Array Slot), va_P D vwCl (mw b cI th w h ms mu mb' me mf mt mv ml mk) H → va_D A (mw b cI th w h ms mu mb' me mf mt mv ml mk) → va_S A s.heap H locs → lv_has ls 4 [(0, .ref (b 0)), (1, .int v1)] → W p l e rmX5_link s m args below meth c H locs 0 0 Q (F0 m 2 ls [])) (K9 : Int32 → Int32 → RowI → Option RowI) (hK9 : ∀ (v1 : Int32) (v2 : Int32) (mb' : RowI), K9 v1 v2 mb' = some o → ∀ (H : Heap) (locs : List Loc) (ls : Array Slot), va_P D vwCl (mw b cI th w h ms mu mb' me mf mt mv ml mk) H → va_D A (mw b cI th w h ms mu mb' me mf mt mv ml mk) → va_S A s.heap H locs → lv_has ls 4 [(0, .ref (b 0)), (1, .int v1), (2, .int v2)] → W p l e rmX5_link s m args below meth c H locs 0 0 Q (F0 m 9 ls [])) , ∀ (v1 : Int32) (v2 : Int32) (s0 : Int32) (mb' : RowI), mX5_link_52 N w h ms K2 K9 v1 v2 s0 mb' = some o → ∀ (H : Heap) (locs : List Loc) (ls : Array Slot), va_P D vwCl (mw b cI th w h ms mu mb' me mf mt mv ml mk) H → va_D A (mw b cI th w h ms mu mb' me mf mt mv ml mk) → va_S A s.heap H locs → lv_has ls 4 [(0, .ref (b 0)), (1, .int v1), (2, .int v2)] → W p l e rmX5_link s m args below meth c H locs 0 0 Q (F0 m 52 ls [.int s0]) := by
      intro K2 hK2 K9 hK9 v1 v2 s0 mb' hM H locs ls hP hD hS hl
      rw [mX5_link_52] at hM
      refine lv_istore_n (lv' := [(3, .int s0), (0, .ref (b 0)), (1, .int v1), (2, .int v2)]) hx hb dX5_link_52 rfl hl (by decide) rfl (fun ls hl => ?_)
      refine lv_aload_n hx hb dX5_link_53 rfl (lv_at hl 1 rfl) ?_
      refine va_get (D := D) (ci := 5) (v := .ref (b 3)) (C := RX5) (T := TX5) (N := 12) hx hb hts iX5 hown hK hP 0 rfl rfl 5 (by decide) f23 (fun _ h9 => h9) rfl dX5_link_54 ?_
      refine lv_bipush (v := 36) hx hb dX5_link_57 (by decide) ?_
      refine lv_iload_n hx hb dX5_link_59 rfl (lv_at hl 2 rfl) ?_
      refine lv_imul hx hb dX5_link_60 ?_
      refine lv_iload_n hx hb dX5_link_61 rfl (lv_at hl 3 rfl) ?_
      refine lv_iadd hx hb dX5_link_62 ?_
      refine lv_iload_n hx hb dX5_link_63 rfl (lv_at hl 0 rfl) ?_
      refine lv_if_lt (tgt := 77) hx hb dX5_link_64 (by decide) (fun hc => ?_) (fun hc => ?_)
      · replace hM := it_p hc hM
        refine lv_iload_n hx hb dX5_link_77 rfl (lv_at hl 3 rfl) ?_
        refine lv_goto (tgt := 92) hx hb dX5_link_78 (by decide) ?_
        obtain ⟨hb92, hM⟩ := it_x hM
        refine va_iast (D := D) hx hb hK hP hD hS 3 0 rfl rfl hb92 dX5_link_92 (fun H locs hP hD hS => ?_)
        replace hP : va_P D vwCl (mw b cI th w h ms mu (upd mb' (((36 : Int32) * v1) + v2).toNatClampNeg v2) me mf mt mv ml mk) H := hP
        replace hD : va_D A (mw b cI th w h ms mu (upd mb' (((36 : Int32) * v1) + v2).toNatClampNeg v2) me mf mt mv ml mk) := hD
        refine lv_iinc (v := (v2 + 1)) (lv' := [(2, .int (v2 + 1)), (3, .int s0), (0, .ref (b 0)), (1, .int v1)]) hx hb dX5_link_93 hl (k := 3) rfl (by rfl) (by decide) rfl (fun ls hl => ?_)
        refine lv_goto (tgt := 9) hx hb dX5_link_96 (by decide) ?_
        exact hK9 v1 (v2 + 1) (upd mb' (((36 : Int32) * v1) + v2).toNatClampNeg v2) hM H locs ls hP hD hS (lv_sub hl [2, 3, 0] rfl)
      · replace hM := it_n hc hM
        refine lv_aload_n hx hb dX5_link_67 rfl (lv_at hl 1 rfl) ?_
        refine va_get (D := D) (ci := 5) (v := .ref (b 1)) (C := RX5) (T := TX5) (N := 12) hx hb hts iX5 hown hK hP 0 rfl rfl 3 (by decide) f16 (fun _ h9 => h9) rfl dX5_link_68 ?_
        refine lv_iload_n hx hb dX5_link_71 rfl (lv_at hl 0 rfl) ?_
        obtain ⟨hb72, hM⟩ := it_x hM
        refine va_iald (D := D) hx hb hK hP 1 0 rfl rfl hb72 dX5_link_72 ?_
        refine lv_iconst (v := -1) hx hb dX5_link_73 (by decide) ?_
        refine lv_icmp_ne (tgt := 81) hx hb dX5_link_74 (by decide) (fun hc => ?_) (fun hc => ?_)
        · replace hM := it_n hc hM
          refine lv_aload_n hx hb dX5_link_81 rfl (lv_at hl 1 rfl) ?_
          refine va_get (D := D) (ci := 5) (v := .ref (b 3)) (C := RX5) (T := TX5) (N := 12) hx hb hts iX5 hown hK hP 0 rfl rfl 5 (by decide) f23 (fun _ h9 => h9) rfl dX5_link_82 ?_
          refine lv_bipush (v := 36) hx hb dX5_link_85 (by decide) ?_
          refine lv_iload_n hx hb dX5_link_87 rfl (lv_at hl 2 rfl) ?_
          refine lv_imul hx hb dX5_link_88 ?_
          refine lv_iload_n hx hb dX5_link_89 rfl (lv_at hl 0 rfl) ?_
          refine lv_iadd hx hb dX5_link_90 ?_
          obtain ⟨hb91, hM⟩ := it_x hM
          refine va_iald (D := D) hx hb hK hP 3 0 rfl rfl hb91 dX5_link_91 ?_
          obtain ⟨hb92, hM⟩ := it_x hM
          refine va_iast (D := D) hx hb hK hP hD hS 3 0 rfl rfl hb92 dX5_link_92 (fun H locs hP hD hS => ?_)
          replace hP : va_P D vwCl (mw b cI th w h ms mu (upd mb' (((36 : Int32) * v1) + v2).toNatClampNeg (mb' (((36 : Int32) * v1) + s0).toNatClampNeg)) me mf mt mv ml mk) H := hP
          replace hD : va_D A (mw b cI th w h ms mu (upd mb' (((36 : Int32) * v1) + v2).toNatClampNeg (mb' (((36 : Int32) * v1) + s0).toNatClampNeg)) me mf mt mv ml mk) := hD
          refine lv_iinc (v := (v2 + 1)) (lv' := [(2, .int (v2 + 1)), (3, .int s0), (0, .ref (b 0)), (1, .int v1)]) hx hb dX5_link_93 hl (k := 3) rfl (by rfl) (by decide) rfl (fun ls hl => ?_)
          refine lv_goto (tgt := 9) hx hb dX5_link_96 (by decide) ?_
          exact hK9 v1 (v2 + 1) (upd mb' (((36 : Int32) * v1) + v2).toNatClampNeg (mb' (((36 : Int32) * v1) + s0).toNatClampNeg)) hM H locs ls hP hD hS (lv_sub hl [2, 3, 0] rfl)
        · replace hM := it_p hc hM
          refine lv_iload_n hx hb dX5_link_77 rfl (lv_at hl 3 rfl) ?_
          refine lv_goto (tgt := 92) hx hb dX5_link_78 (by decide) ?_
          obtain ⟨hb92, hM⟩ := it_x hM
          refine va_iast (D := D) hx hb hK hP hD hS 3 0 rfl rfl hb92 dX5_link_92 (fun H locs hP hD hS => ?_)
          replace hP : va_P D vwCl (mw b cI th w h ms mu (upd mb' (((36 : Int32) * v1) + v2).toNatClampNeg v2) me mf mt mv ml mk) H := hP
          replace hD : va_D A (mw b cI th w h ms mu (upd mb' (((36 : Int32) * v1) + v2).toNatClampNeg v2) me mf mt mv ml mk) := hD
          refine lv_iinc (v := (v2 + 1)) (lv' := [(2, .int (v2 + 1)), (3, .int s0), (0, .ref (b 0)), (1, .int v1)]) hx hb dX5_link_93 hl (k := 3) rfl (by rfl) (by decide) rfl (fun ls hl => ?_)
          refine lv_goto (tgt := 9) hx hb dX5_link_96 (by decide) ?_
          exact hK9 v1 (v2 + 1) (upd mb' (((36 : Int32) * v1) + v2).toNatClampNeg v2) hM H locs ls hP hD hS (lv_sub hl [2, 3, 0] rfl)
  have c9 : ∀ (K2 : Int32 → RowI → Option RowI) (hK2 : ∀ (v1 : Int32) (mb' : RowI), K2 v1 mb' = some o → ∀ (H : Heap) (locs : List Loc) (ls : Array Slot), va_P D vwCl (mw b cI th w h ms mu mb' me mf mt mv ml mk) H → va_D A (mw b cI th w h ms mu mb' me mf mt mv ml mk) → va_S A s.heap H locs → lv_has ls 4 [(0, .ref (b 0)), (1, .int v1)] → W p l e rmX5_link s m args below meth c H locs 0 0 Q (F0 m 2 ls [])) (n : Nat), ∀ (v1 : Int32) (v2 : Int32) (mb' : RowI), mX5_link_9 N w h ms K2 n v1 v2 mb' = some o → ∀ (H : Heap) (locs : List Loc) (ls : Array Slot), va_P D vwCl (mw b cI th w h ms mu mb' me mf mt mv ml mk) H → va_D A (mw b cI th w h ms mu mb' me mf mt mv ml mk) → va_S A s.heap H locs → lv_has ls 4 [(0, .ref (b 0)), (1, .int v1), (2, .int v2)] → W p l e rmX5_link s m args below meth c H locs 0 0 Q (F0 m 9 ls []) := by
    intro K2 hK2 n
    induction n with
    | zero =>
      intro v1 v2 mb' hM
      rw [mX5_link_9] at hM
      cases hM
    | succ n ih =>
      intro v1 v2 mb' hM H locs ls hP hD hS hl
      rw [mX5_link_9] at hM
      refine lv_iload_n hx hb dX5_link_9 rfl (lv_at hl 2 rfl) ?_
      refine lv_aload_n hx hb dX5_link_10 rfl (lv_at hl 0 rfl) ?_
      refine va_get (D := D) (ci := 5) (v := .int w) (C := RX5) (T := TX5) (N := 12) hx hb hts iX5 hown hK hP 0 rfl rfl 1 (by decide) f7 (fun _ h9 => h9) rfl dX5_link_11 ?_
      refine lv_aload_n hx hb dX5_link_14 rfl (lv_at hl 0 rfl) ?_
      refine va_get (D := D) (ci := 5) (v := .int h) (C := RX5) (T := TX5) (N := 12) hx hb hts iX5 hown hK hP 0 rfl rfl 2 (by decide) f13 (fun _ h9 => h9) rfl dX5_link_15 ?_
      refine lv_imul hx hb dX5_link_18 ?_
      refine lv_icmp_ge (tgt := 99) hx hb dX5_link_19 (by decide) (fun hc => ?_) (fun hc => ?_)
      · replace hM := it_p hc hM
        refine lv_iinc (v := (v1 + 1)) (lv' := [(1, .int (v1 + 1)), (0, .ref (b 0)), (2, .int v2)]) hx hb dX5_link_99 hl (k := 1) rfl (by rfl) (by decide) rfl (fun ls hl => ?_)
        refine lv_goto (tgt := 2) hx hb dX5_link_102 (by decide) ?_
        exact hK2 (v1 + 1) mb' hM H locs ls hP hD hS (lv_sub hl [1, 0] rfl)
      · replace hM := it_n hc hM
        refine lv_iload_n hx hb dX5_link_22 rfl (lv_at hl 1 rfl) ?_
        refine lv_iconst (v := 1) hx hb dX5_link_23 (by decide) ?_
        refine lv_icmp_ne (tgt := 36) hx hb dX5_link_24 (by decide) (fun hc => ?_) (fun hc => ?_)
        · replace hM := it_n hc hM
          refine lv_iload_n hx hb dX5_link_36 rfl (lv_at hl 2 rfl) ?_
          refine lv_aload_n hx hb dX5_link_37 rfl (lv_at hl 0 rfl) ?_
          refine va_get (D := D) (ci := 5) (v := .int w) (C := RX5) (T := TX5) (N := 12) hx hb hts iX5 hown hK hP 0 rfl rfl 1 (by decide) f7 (fun _ h9 => h9) rfl dX5_link_38 ?_
          obtain ⟨hz41, hM⟩ := it_x hM
          refine lv_irem hx hb dX5_link_41 hz41 ?_
          refine lv_if_ne (tgt := 49) hx hb dX5_link_42 (by decide) (fun hc => ?_) (fun hc => ?_)
          · replace hM := it_n hc hM
            refine lv_iload_n hx hb dX5_link_49 rfl (lv_at hl 2 rfl) ?_
            refine lv_iconst (v := 1) hx hb dX5_link_50 (by decide) ?_
            refine lv_isub hx hb dX5_link_51 ?_
            exact c52 K2 hK2 (mX5_link_9 N w h ms K2 n) ih v1 v2 (v2 - (1 : Int32)) mb' hM H locs ls hP hD hS (lv_sub hl [0, 1, 2] rfl)
          · replace hM := it_p hc hM
            refine lv_iconst (v := -1) hx hb dX5_link_45 (by decide) ?_
            refine lv_goto (tgt := 52) hx hb dX5_link_46 (by decide) ?_
            exact c52 K2 hK2 (mX5_link_9 N w h ms K2 n) ih v1 v2 (-1 : Int32) mb' hM H locs ls hP hD hS (lv_sub hl [0, 1, 2] rfl)
        · replace hM := it_p hc hM
          refine lv_iload_n hx hb dX5_link_27 rfl (lv_at hl 2 rfl) ?_
          refine lv_aload_n hx hb dX5_link_28 rfl (lv_at hl 0 rfl) ?_
          refine va_get (D := D) (ci := 5) (v := .int w) (C := RX5) (T := TX5) (N := 12) hx hb hts iX5 hown hK hP 0 rfl rfl 1 (by decide) f7 (fun _ h9 => h9) rfl dX5_link_29 ?_
          refine lv_isub hx hb dX5_link_32 ?_
          refine lv_goto (tgt := 52) hx hb dX5_link_33 (by decide) ?_
          exact c52 K2 hK2 (mX5_link_9 N w h ms K2 n) ih v1 v2 (v2 - w) mb' hM H locs ls hP hD hS (lv_sub hl [0, 1, 2] rfl)
  have c2 : ∀ (n : Nat), ∀ (v1 : Int32) (mb' : RowI), mX5_link_2 N w h ms n v1 mb' = some o → ∀ (H : Heap) (locs : List Loc) (ls : Array Slot), va_P D vwCl (mw b cI th w h ms mu mb' me mf mt mv ml mk) H → va_D A (mw b cI th w h ms mu mb' me mf mt mv ml mk) → va_S A s.heap H locs → lv_has ls 4 [(0, .ref (b 0)), (1, .int v1)] → W p l e rmX5_link s m args below meth c H locs 0 0 Q (F0 m 2 ls []) := by
    intro n
    induction n with
    | zero =>
      intro v1 mb' hM
      rw [mX5_link_2] at hM
      cases hM
    | succ n ih =>
      intro v1 mb' hM H locs ls hP hD hS hl
      rw [mX5_link_2] at hM
      refine lv_iload_n hx hb dX5_link_2 rfl (lv_at hl 1 rfl) ?_
      refine lv_iconst (v := 1) hx hb dX5_link_3 (by decide) ?_
      refine lv_icmp_gt (tgt := 105) hx hb dX5_link_4 (by decide) (fun hc => ?_) (fun hc => ?_)
      · replace hM := it_p hc hM
        obtain rfl := Option.some.inj hM
        subst hQ hAe
        exact W.vret hx hb hr (fun t ht hW => ⟨⟨(), rfl, trivial, ⟨by rw [ht]; exact hP, hD⟩⟩, hS.F ht⟩) hS.2.2 dX5_link_105
      · replace hM := it_n hc hM
        refine lv_iconst (v := 0) hx hb dX5_link_7 (by decide) ?_
        refine lv_istore_n (lv' := [(2, .int (0 : Int32)), (0, .ref (b 0)), (1, .int v1)]) hx hb dX5_link_8 rfl hl (by decide) rfl (fun ls hl => ?_)
        exact c9 (mX5_link_2 N w h ms n) ih N v1 (0 : Int32) mb' hM H locs ls hP hD hS (lv_sub hl [1, 2, 0] rfl)
  rw [mX5_link] at hM
  refine lv_iconst (v := 0) hx hb dX5_link_0 (by decide) ?_
  refine lv_istore_n (lv' := [(1, .int (0 : Int32)), (0, .ref (b 0))]) hx hb dX5_link_1 rfl hl (by decide) rfl (fun ls hl => ?_)
  exact c2 N (0 : Int32) mb hM H locs ls hP hD hS (lv_sub hl [1, 0] rfl)
def mX5_beginOf (N : Nat) (mb : RowI) (p1 : Int32) (p2 : Int32) : Option Int32 :=
  (if bad (((36 : Int32) * p2) + p1) 72 then none else
  some (mb (((36 : Int32) * p2) + p1).toNatClampNeg))
abbrev rmX5_beginOf : Room := { frames := 0, cells := 0, slots := 0, locals := 0 }
set_option maxHeartbeats 4000000 in
set_option maxRecDepth 100000 in
theorem kX5_beginOf {l : Launch} {D : va_G} {cI cJ : ClassId} (N : Nat) (b : Nat → Nat) {th : Int32} {w : Int32} {h : Int32} {ms : RowI} {mu : RowI} {mb : RowI} {me : RowI} {mf : RowI} {mt : Int32} {mv : Int32} {ml : Int32} {mk : RowI} {p1 : Int32} {p2 : Int32} {o : Int32} (hM : mX5_beginOf N mb p1 p2 = some o) (sz : Nat) : Met l yX5_beginOf wsX5_beginOf rmX5_beginOf (va_Pc [.ref (b 0), .int p1, .int p2] (Pre D cI cJ (mw b cI th w h ms mu mb me mf mt mv ml mk) sz)) (va_Qi (fun (r : Int32) (_ : Unit) => r = o) (fun _ _ => True) (fun _ => False)) 0 0 (fun _ => False) := by
  refine xofR (cc := cX5_beginOf) (maxL := 3) (ret := (some .int)) rfl (by decide) rfl ?_
  intro p e s m args below meth c ls Q A hQ hAe hx hb hr hml hown hts hlocks hN hK H locs hP hD hS hl
  replace hown : s.vm.findClass RX5 = some m.cls := hown
  replace hl : lv_has ls 3 [(0, .ref (b 0)), (1, .int p1), (2, .int p2)] := hl
  have iX5 : ∀ w ∈ wsX50, w ∈ wsX5_beginOf := by decide +kernel
  have f23 := hts (.fieldLink RX5 23 "CryptSumsModel" "begins" "[I") (by decide +kernel)
  rw [mX5_beginOf] at hM
  refine lv_aload_n hx hb dX5_beginOf_0 rfl (lv_at hl 0 rfl) ?_
  refine va_get (D := D) (ci := 5) (v := .ref (b 3)) (C := RX5) (T := TX5) (N := 12) hx hb hts iX5 hown hK hP 0 rfl rfl 5 (by decide) f23 (fun _ h9 => h9) rfl dX5_beginOf_1 ?_
  refine lv_bipush (v := 36) hx hb dX5_beginOf_4 (by decide) ?_
  refine lv_iload_n hx hb dX5_beginOf_6 rfl (lv_at hl 2 rfl) ?_
  refine lv_imul hx hb dX5_beginOf_7 ?_
  refine lv_iload_n hx hb dX5_beginOf_8 rfl (lv_at hl 1 rfl) ?_
  refine lv_iadd hx hb dX5_beginOf_9 ?_
  obtain ⟨hb10, hM⟩ := it_x hM
  refine va_iald (D := D) hx hb hK hP 3 0 rfl rfl hb10 dX5_beginOf_10 ?_
  obtain rfl := Option.some.inj hM
  subst hQ hAe
  exact W.iret (v := (mb (((36 : Int32) * p2) + p1).toNatClampNeg)) hx hb hr (fun t ht hW => ⟨⟨(mb (((36 : Int32) * p2) + p1).toNatClampNeg), (), rfl, rfl, trivial⟩, hS.F ht⟩) hS.2.2 dX5_beginOf_11
def mX5_isOpen (N : Nat) (ms : RowI) (p1 : Int32) : Option Int32 :=
  (if p1 = (-1 : Int32) then
  some (0 : Int32)
  else
  (if bad p1 36 then none else
  (if (ms p1.toNatClampNeg) = (-1 : Int32) then
  some (0 : Int32)
  else
  some (1 : Int32))))
abbrev rmX5_isOpen : Room := { frames := 0, cells := 0, slots := 0, locals := 0 }
set_option maxHeartbeats 4000000 in
set_option maxRecDepth 100000 in
theorem kX5_isOpen {l : Launch} {D : va_G} {cI cJ : ClassId} (N : Nat) (b : Nat → Nat) {th : Int32} {w : Int32} {h : Int32} {ms : RowI} {mu : RowI} {mb : RowI} {me : RowI} {mf : RowI} {mt : Int32} {mv : Int32} {ml : Int32} {mk : RowI} {p1 : Int32} {o : Int32} (hM : mX5_isOpen N ms p1 = some o) (sz : Nat) : Met l yX5_isOpen wsX5_isOpen rmX5_isOpen (va_Pc [.ref (b 0), .int p1] (Pre D cI cJ (mw b cI th w h ms mu mb me mf mt mv ml mk) sz)) (va_Qi (fun (r : Int32) (_ : Unit) => r = o ∧ bz r) (fun _ _ => True) (fun _ => False)) 0 0 (fun _ => False) := by
  refine xofR (cc := cX5_isOpen) (maxL := 2) (ret := (some .boolean)) rfl (by decide) rfl ?_
  intro p e s m args below meth c ls Q A hQ hAe hx hb hr hml hown hts hlocks hN hK H locs hP hD hS hl
  replace hown : s.vm.findClass RX5 = some m.cls := hown
  replace hl : lv_has ls 2 [(0, .ref (b 0)), (1, .int p1)] := hl
  have iX5 : ∀ w ∈ wsX50, w ∈ wsX5_isOpen := by decide +kernel
  have f16 := hts (.fieldLink RX5 16 "CryptSumsModel" "stones" "[I") (by decide +kernel)
  rw [mX5_isOpen] at hM
  refine lv_iload_n hx hb dX5_isOpen_0 rfl (lv_at hl 1 rfl) ?_
  refine lv_iconst (v := -1) hx hb dX5_isOpen_1 (by decide) ?_
  refine lv_icmp_eq (tgt := 19) hx hb dX5_isOpen_2 (by decide) (fun hc => ?_) (fun hc => ?_)
  · replace hM := it_p hc hM
    refine lv_iconst (v := 0) hx hb dX5_isOpen_19 (by decide) ?_
    obtain rfl := Option.some.inj hM
    subst hQ hAe
    exact W.zret (ty := .boolean) (v := (0 : Int32)) hx hb hr (nb_z (Or.inl rfl)) (fun t ht hW => ⟨⟨(0 : Int32), (), rfl, ⟨rfl, Or.inl rfl⟩, trivial⟩, hS.F ht⟩) hS.2.2 dX5_isOpen_20
  · replace hM := it_n hc hM
    refine lv_aload_n hx hb dX5_isOpen_5 rfl (lv_at hl 0 rfl) ?_
    refine va_get (D := D) (ci := 5) (v := .ref (b 1)) (C := RX5) (T := TX5) (N := 12) hx hb hts iX5 hown hK hP 0 rfl rfl 3 (by decide) f16 (fun _ h9 => h9) rfl dX5_isOpen_6 ?_
    refine lv_iload_n hx hb dX5_isOpen_9 rfl (lv_at hl 1 rfl) ?_
    obtain ⟨hb10, hM⟩ := it_x hM
    refine va_iald (D := D) hx hb hK hP 1 0 rfl rfl hb10 dX5_isOpen_10 ?_
    refine lv_iconst (v := -1) hx hb dX5_isOpen_11 (by decide) ?_
    refine lv_icmp_eq (tgt := 19) hx hb dX5_isOpen_12 (by decide) (fun hc => ?_) (fun hc => ?_)
    · replace hM := it_p hc hM
      refine lv_iconst (v := 0) hx hb dX5_isOpen_19 (by decide) ?_
      obtain rfl := Option.some.inj hM
      subst hQ hAe
      exact W.zret (ty := .boolean) (v := (0 : Int32)) hx hb hr (nb_z (Or.inl rfl)) (fun t ht hW => ⟨⟨(0 : Int32), (), rfl, ⟨rfl, Or.inl rfl⟩, trivial⟩, hS.F ht⟩) hS.2.2 dX5_isOpen_20
    · replace hM := it_n hc hM
      refine lv_iconst (v := 1) hx hb dX5_isOpen_15 (by decide) ?_
      refine lv_goto (tgt := 20) hx hb dX5_isOpen_16 (by decide) ?_
      obtain rfl := Option.some.inj hM
      subst hQ hAe
      exact W.zret (ty := .boolean) (v := (1 : Int32)) hx hb hr (nb_z (Or.inr rfl)) (fun t ht hW => ⟨⟨(1 : Int32), (), rfl, ⟨rfl, Or.inr rfl⟩, trivial⟩, hS.F ht⟩) hS.2.2 dX5_isOpen_20
def mX5_isMade_17 (N : Nat) (me : RowI) (mf : RowI) (p3 : Int32) : Nat → Int32 → Int32 → Option Int32
  | 0 => fun _ _ => none
  | n + 1 => fun v4 v5 => (if bad (v4 + (1 : Int32)) 461 then none else
  (if (mf (v4 + (1 : Int32)).toNatClampNeg) ≤ v5 then
  some (0 : Int32)
  else
  (if bad v5 512 then none else
  (if ((me v5.toNatClampNeg) &&& p3) = 0 then
  some (1 : Int32)
  else
  (mX5_isMade_17 N me mf p3 n v4 (v5 + 1))))))
def mX5_isMade (N : Nat) (me : RowI) (mf : RowI) (p1 : Int32) (p2 : Int32) (p3 : Int32) : Option Int32 :=
  (if bad (((46 : Int32) * p1) + p2) 461 then none else
  (mX5_isMade_17 N me mf p3 N (((46 : Int32) * p1) + p2) (mf (((46 : Int32) * p1) + p2).toNatClampNeg)))
abbrev rmX5_isMade : Room := { frames := 0, cells := 0, slots := 0, locals := 0 }
set_option maxHeartbeats 4000000 in
set_option maxRecDepth 100000 in
theorem kX5_isMade {l : Launch} {D : va_G} {cI cJ : ClassId} (N : Nat) (b : Nat → Nat) {th : Int32} {w : Int32} {h : Int32} {ms : RowI} {mu : RowI} {mb : RowI} {me : RowI} {mf : RowI} {mt : Int32} {mv : Int32} {ml : Int32} {mk : RowI} {p1 : Int32} {p2 : Int32} {p3 : Int32} {o : Int32} (hM : mX5_isMade N me mf p1 p2 p3 = some o) (sz : Nat) : Met l yX5_isMade wsX5_isMade rmX5_isMade (va_Pc [.ref (b 0), .int p1, .int p2, .int p3] (Pre D cI cJ (mw b cI th w h ms mu mb me mf mt mv ml mk) sz)) (va_Qi (fun (r : Int32) (_ : Unit) => r = o ∧ bz r) (fun _ _ => True) (fun _ => False)) 0 0 (fun _ => False) := by
  refine xofR (cc := cX5_isMade) (maxL := 6) (ret := (some .boolean)) rfl (by decide) rfl ?_
  intro p e s m args below meth c ls Q A hQ hAe hx hb hr hml hown hts hlocks hN hK H locs hP hD hS hl
  replace hown : s.vm.findClass RX5 = some m.cls := hown
  replace hl : lv_has ls 6 [(0, .ref (b 0)), (1, .int p1), (2, .int p2), (3, .int p3)] := hl
  have iX5 : ∀ w ∈ wsX50, w ∈ wsX5_isMade := by decide +kernel
  have f26 := hts (.fieldLink RX5 26 "CryptSumsModel" "sets" "[I") (by decide +kernel)
  have f29 := hts (.fieldLink RX5 29 "CryptSumsModel" "first" "[I") (by decide +kernel)
  have c17 : ∀ (n : Nat), ∀ (v4 : Int32) (v5 : Int32), mX5_isMade_17 N me mf p3 n v4 v5 = some o → ∀ (H : Heap) (locs : List Loc) (ls : Array Slot), va_P D vwCl (mw b cI th w h ms mu mb me mf mt mv ml mk) H → va_S A s.heap H locs → lv_has ls 6 [(0, .ref (b 0)), (3, .int p3), (4, .int v4), (5, .int v5)] → W p l e rmX5_isMade s m args below meth c H locs 0 0 Q (F0 m 17 ls []) := by
    intro n
    induction n with
    | zero =>
      intro v4 v5 hM
      rw [mX5_isMade_17] at hM
      cases hM
    | succ n ih =>
      intro v4 v5 hM H locs ls hP hS hl
      rw [mX5_isMade_17] at hM
      refine lv_iload hx hb dX5_isMade_17 (lv_at hl 3 rfl) ?_
      refine lv_aload_n hx hb dX5_isMade_19 rfl (lv_at hl 0 rfl) ?_
      refine va_get (D := D) (ci := 5) (v := .ref (b 5)) (C := RX5) (T := TX5) (N := 12) hx hb hts iX5 hown hK hP 0 rfl rfl 7 (by decide) f29 (fun _ h9 => h9) rfl dX5_isMade_20 ?_
      refine lv_iload hx hb dX5_isMade_23 (lv_at hl 2 rfl) ?_
      refine lv_iconst (v := 1) hx hb dX5_isMade_25 (by decide) ?_
      refine lv_iadd hx hb dX5_isMade_26 ?_
      obtain ⟨hb27, hM⟩ := it_x hM
      refine va_iald (D := D) hx hb hK hP 5 0 rfl rfl hb27 dX5_isMade_27 ?_
      refine lv_icmp_ge (tgt := 51) hx hb dX5_isMade_28 (by decide) (fun hc => ?_) (fun hc => ?_)
      · replace hM := it_p hc hM
        refine lv_iconst (v := 0) hx hb dX5_isMade_51 (by decide) ?_
        obtain rfl := Option.some.inj hM
        subst hQ hAe
        exact W.zret (ty := .boolean) (v := (0 : Int32)) hx hb hr (nb_z (Or.inl rfl)) (fun t ht hW => ⟨⟨(0 : Int32), (), rfl, ⟨rfl, Or.inl rfl⟩, trivial⟩, hS.F ht⟩) hS.2.2 dX5_isMade_52
      · replace hM := it_n hc hM
        refine lv_aload_n hx hb dX5_isMade_31 rfl (lv_at hl 0 rfl) ?_
        refine va_get (D := D) (ci := 5) (v := .ref (b 4)) (C := RX5) (T := TX5) (N := 12) hx hb hts iX5 hown hK hP 0 rfl rfl 6 (by decide) f26 (fun _ h9 => h9) rfl dX5_isMade_32 ?_
        refine lv_iload hx hb dX5_isMade_35 (lv_at hl 3 rfl) ?_
        obtain ⟨hb37, hM⟩ := it_x hM
        refine va_iald (D := D) hx hb hK hP 4 0 rfl rfl hb37 dX5_isMade_37 ?_
        refine lv_iload_n hx hb dX5_isMade_38 rfl (lv_at hl 1 rfl) ?_
        refine lv_iand hx hb dX5_isMade_39 ?_
        refine lv_if_ne (tgt := 45) hx hb dX5_isMade_40 (by decide) (fun hc => ?_) (fun hc => ?_)
        · replace hM := it_n hc hM
          refine lv_iinc (v := (v5 + 1)) (lv' := [(5, .int (v5 + 1)), (0, .ref (b 0)), (3, .int p3), (4, .int v4)]) hx hb dX5_isMade_45 hl (k := 3) rfl (by rfl) (by decide) rfl (fun ls hl => ?_)
          refine lv_goto (tgt := 17) hx hb dX5_isMade_48 (by decide) ?_
          exact ih v4 (v5 + 1) hM H locs ls hP hS (lv_sub hl [1, 2, 3, 0] rfl)
        · replace hM := it_p hc hM
          refine lv_iconst (v := 1) hx hb dX5_isMade_43 (by decide) ?_
          obtain rfl := Option.some.inj hM
          subst hQ hAe
          exact W.zret (ty := .boolean) (v := (1 : Int32)) hx hb hr (nb_z (Or.inr rfl)) (fun t ht hW => ⟨⟨(1 : Int32), (), rfl, ⟨rfl, Or.inr rfl⟩, trivial⟩, hS.F ht⟩) hS.2.2 dX5_isMade_44
  rw [mX5_isMade] at hM
  refine lv_bipush (v := 46) hx hb dX5_isMade_0 (by decide) ?_
  refine lv_iload_n hx hb dX5_isMade_2 rfl (lv_at hl 1 rfl) ?_
  refine lv_imul hx hb dX5_isMade_3 ?_
  refine lv_iload_n hx hb dX5_isMade_4 rfl (lv_at hl 2 rfl) ?_
  refine lv_iadd hx hb dX5_isMade_5 ?_
  refine lv_istore (lv' := [(4, .int (((46 : Int32) * p1) + p2)), (0, .ref (b 0)), (1, .int p1), (2, .int p2), (3, .int p3)]) hx hb dX5_isMade_6 hl (by decide) rfl (fun ls hl => ?_)
  refine lv_aload_n hx hb dX5_isMade_8 rfl (lv_at hl 1 rfl) ?_
  refine va_get (D := D) (ci := 5) (v := .ref (b 5)) (C := RX5) (T := TX5) (N := 12) hx hb hts iX5 hown hK hP 0 rfl rfl 7 (by decide) f29 (fun _ h9 => h9) rfl dX5_isMade_9 ?_
  refine lv_iload hx hb dX5_isMade_12 (lv_at hl 0 rfl) ?_
  obtain ⟨hb14, hM⟩ := it_x hM
  refine va_iald (D := D) hx hb hK hP 5 0 rfl rfl hb14 dX5_isMade_14 ?_
  refine lv_istore (lv' := [(5, .int (mf (((46 : Int32) * p1) + p2).toNatClampNeg)), (4, .int (((46 : Int32) * p1) + p2)), (0, .ref (b 0)), (1, .int p1), (2, .int p2), (3, .int p3)]) hx hb dX5_isMade_15 hl (by decide) rfl (fun ls hl => ?_)
  exact c17 N (((46 : Int32) * p1) + p2) (mf (((46 : Int32) * p1) + p2).toNatClampNeg) hM H locs ls hP hS (lv_sub hl [2, 5, 1, 0] rfl)
def mX5_isWell_79 (N : Nat) (w : Int32) (h : Int32) (ms : RowI) (mu : RowI) (me : RowI) (mf : RowI) (p2 : Int32) (K16 : Int32 → Int32 → Int32 → Int32 → Option Int32) (v3 : Int32) (v4 : Int32) (v6 : Int32) (s0 : Int32) (s1 : Int32) : Option Int32 :=
  ((mX5_behind N w h v6 p2).bind fun x86 =>
  (K16 v3 v4 (s1 + s0) x86))
def mX5_isWell_48 (N : Nat) (w : Int32) (h : Int32) (ms : RowI) (mu : RowI) (me : RowI) (mf : RowI) (p2 : Int32) (K16 : Int32 → Int32 → Int32 → Int32 → Option Int32) (v3 : Int32) (v4 : Int32) (v5 : Int32) (v6 : Int32) (s0 : Int32) : Option Int32 :=
  (if (v4 &&& s0) = 0 then
  (if s0 = 0 then
  (mX5_isWell_79 N w h ms mu me mf p2 K16 v3 (v4 ||| s0) v6 (1 : Int32) v5)
  else
  (mX5_isWell_79 N w h ms mu me mf p2 K16 v3 (v4 ||| s0) v6 (0 : Int32) v5))
  else
  some (0 : Int32))
def mX5_isWell_16 (N : Nat) (w : Int32) (h : Int32) (ms : RowI) (mu : RowI) (me : RowI) (mf : RowI) (p2 : Int32) : Nat → Int32 → Int32 → Int32 → Int32 → Option Int32
  | 0 => fun _ _ _ _ => none
  | n + 1 => fun v3 v4 v5 v6 => ((mX5_isOpen N ms v6).bind fun x19 =>
  (if x19 = 0 then
  (if bad (((36 : Int32) * p2) + v3) 72 then none else
  ((mX5_sumOf N v4).bind fun x107 =>
  (if bad (((36 : Int32) * p2) + v3) 72 then none else
  (if (mu (((36 : Int32) * p2) + v3).toNatClampNeg) = 0 then
  some (1 : Int32)
  else
  (if ((mu (((36 : Int32) * p2) + v3).toNatClampNeg) - x107) < 0 then
  some (0 : Int32)
  else
  ((mX5_isMade N me mf v5 ((mu (((36 : Int32) * p2) + v3).toNatClampNeg) - x107) v4).bind fun x141 =>
  (if x141 = 0 then
  some (0 : Int32)
  else
  some (1 : Int32))))))))
  else
  (if bad v6 36 then none else
  (if (ms v6.toNatClampNeg) = 0 then
  (mX5_isWell_48 N w h ms mu me mf p2 (mX5_isWell_16 N w h ms mu me mf p2 n) v3 v4 v5 v6 (0 : Int32))
  else
  (if bad v6 36 then none else
  (mX5_isWell_48 N w h ms mu me mf p2 (mX5_isWell_16 N w h ms mu me mf p2 n) v3 v4 v5 v6 ((1 : Int32) <<< ((ms v6.toNatClampNeg) &&& 31))))))))
def mX5_isWell (N : Nat) (w : Int32) (h : Int32) (ms : RowI) (mu : RowI) (mb : RowI) (me : RowI) (mf : RowI) (p1 : Int32) (p2 : Int32) : Option Int32 :=
  ((mX5_beginOf N mb p1 p2).bind fun x3 =>
  (mX5_isWell_16 N w h ms mu me mf p2 N x3 (0 : Int32) (0 : Int32) x3))
abbrev rmX5_isWell : Room := { frames := 1, cells := 0, slots := 0, locals := 25 }
set_option maxHeartbeats 4000000 in
set_option maxRecDepth 100000 in
theorem kX5_isWell {l : Launch} {D : va_G} {cI cJ : ClassId} (N : Nat) (b : Nat → Nat) {th : Int32} {w : Int32} {h : Int32} {ms : RowI} {mu : RowI} {mb : RowI} {me : RowI} {mf : RowI} {mt : Int32} {mv : Int32} {ml : Int32} {mk : RowI} {p1 : Int32} {p2 : Int32} {o : Int32} (hM : mX5_isWell N w h ms mu mb me mf p1 p2 = some o) (sz : Nat) : Met l yX5_isWell wsX5_isWell rmX5_isWell (va_Pc [.ref (b 0), .int p1, .int p2] (Pre D cI cJ (mw b cI th w h ms mu mb me mf mt mv ml mk) sz)) (va_Qi (fun (r : Int32) (_ : Unit) => r = o ∧ bz r) (fun _ _ => True) (fun _ => False)) 0 0 (fun _ => False) := by
  refine xofR (cc := cX5_isWell) (maxL := 8) (ret := (some .boolean)) rfl (by decide) rfl ?_
  intro p e s m args below meth c ls Q A hQ hAe hx hb hr hml hown hts hlocks hN hK H locs hP hD hS hl
  replace hown : s.vm.findClass RX5 = some m.cls := hown
  replace hl : lv_has ls 8 [(0, .ref (b 0)), (1, .int p1), (2, .int p2)] := hl
  have iX5 : ∀ w ∈ wsX50, w ∈ wsX5_isWell := by decide +kernel
  have f16 := hts (.fieldLink RX5 16 "CryptSumsModel" "stones" "[I") (by decide +kernel)
  have f20 := hts (.fieldLink RX5 20 "CryptSumsModel" "sums" "[I") (by decide +kernel)
  have c79 : ∀ (K16 : Int32 → Int32 → Int32 → Int32 → Option Int32) (hK16 : ∀ (v3 : Int32) (v4 : Int32) (v5 : Int32) (v6 : Int32), K16 v3 v4 v5 v6 = some o → ∀ (H : Heap) (locs : List Loc) (ls : Array Slot), va_P D vwCl (mw b cI th w h ms mu mb me mf mt mv ml mk) H → va_S A s.heap H locs → lv_has ls 8 [(0, .ref (b 0)), (2, .int p2), (3, .int v3), (4, .int v4), (5, .int v5), (6, .int v6)] → W p l e rmX5_isWell s m args below meth c H locs 0 0 Q (F0 m 16 ls [])) , ∀ (v3 : Int32) (v4 : Int32) (v6 : Int32) (s0 : Int32) (s1 : Int32), mX5_isWell_79 N w h ms mu me mf p2 K16 v3 v4 v6 s0 s1 = some o → ∀ (H : Heap) (locs : List Loc) (ls : Array Slot), va_P D vwCl (mw b cI th w h ms mu mb me mf mt mv ml mk) H → va_S A s.heap H locs → lv_has ls 8 [(0, .ref (b 0)), (2, .int p2), (3, .int v3), (4, .int v4), (6, .int v6)] → W p l e rmX5_isWell s m args below meth c H locs 0 0 Q (F0 m 79 ls [.int s0, .int s1]) := by
      intro K16 hK16 v3 v4 v6 s0 s1 hM H locs ls hP hS hl
      rw [mX5_isWell_79] at hM
      refine lv_iadd hx hb dX5_isWell_79 ?_
      refine lv_istore (lv' := [(5, .int (s1 + s0)), (0, .ref (b 0)), (2, .int p2), (3, .int v3), (4, .int v4), (6, .int v6)]) hx hb dX5_isWell_80 hl (by decide) rfl (fun ls hl => ?_)
      refine lv_aload_n hx hb dX5_isWell_82 rfl (lv_at hl 1 rfl) ?_
      refine lv_iload hx hb dX5_isWell_83 (lv_at hl 5 rfl) ?_
      refine lv_iload_n hx hb dX5_isWell_85 rfl (lv_at hl 2 rfl) ?_
      obtain ⟨x86, hC, hM⟩ := bd_s hM
      refine cR_i (va_runV (As := [.int v6, .int p2]) (rest := []) ⟨hx, hb, hml, hown, hts⟩ (kX5_behind (l := l) (D := D) (cI := cI) (cJ := cJ) N b (th := th) (w := w) (h := h) (ms := ms) (mu := mu) (mb := mb) (me := me) (mf := mf) (mt := mt) (mv := mv) (ml := ml) (mk := mk) (p1 := v6) (p2 := p2) hC H.size) (cwV 2 hts gX5_isWell_X5_behind rfl rfl rfl (by decide +kernel) ⟨Nat.le_of_ble_eq_true rfl, Nat.le_of_ble_eq_true rfl⟩) (preV [.int v6, .int p2] hN hK hP hD (ci := 5) (q0 := 0) rfl rfl) rfl rfl hl.1 rfl (lv_room (Nat.le_of_ble_eq_true rfl)) dX5_isWell_86 ⟨Nat.le_of_ble_eq_true rfl, Nat.le_of_ble_eq_true rfl⟩) hP hS (fun r u H locs hw hP hS => ?_)
      rw [hw]
      refine lv_istore (lv' := [(6, .int x86), (5, .int (s1 + s0)), (0, .ref (b 0)), (2, .int p2), (3, .int v3), (4, .int v4)]) hx hb dX5_isWell_89 hl (by decide) rfl (fun ls hl => ?_)
      refine lv_goto (tgt := 16) hx hb dX5_isWell_91 (by decide) ?_
      exact hK16 v3 v4 (s1 + s0) x86 hM H locs ls hP hS (lv_sub hl [2, 3, 4, 5, 1, 0] rfl)
  have c48 : ∀ (K16 : Int32 → Int32 → Int32 → Int32 → Option Int32) (hK16 : ∀ (v3 : Int32) (v4 : Int32) (v5 : Int32) (v6 : Int32), K16 v3 v4 v5 v6 = some o → ∀ (H : Heap) (locs : List Loc) (ls : Array Slot), va_P D vwCl (mw b cI th w h ms mu mb me mf mt mv ml mk) H → va_S A s.heap H locs → lv_has ls 8 [(0, .ref (b 0)), (2, .int p2), (3, .int v3), (4, .int v4), (5, .int v5), (6, .int v6)] → W p l e rmX5_isWell s m args below meth c H locs 0 0 Q (F0 m 16 ls [])) , ∀ (v3 : Int32) (v4 : Int32) (v5 : Int32) (v6 : Int32) (s0 : Int32), mX5_isWell_48 N w h ms mu me mf p2 K16 v3 v4 v5 v6 s0 = some o → ∀ (H : Heap) (locs : List Loc) (ls : Array Slot), va_P D vwCl (mw b cI th w h ms mu mb me mf mt mv ml mk) H → va_S A s.heap H locs → lv_has ls 8 [(0, .ref (b 0)), (2, .int p2), (3, .int v3), (4, .int v4), (5, .int v5), (6, .int v6)] → W p l e rmX5_isWell s m args below meth c H locs 0 0 Q (F0 m 48 ls [.int s0]) := by
      intro K16 hK16 v3 v4 v5 v6 s0 hM H locs ls hP hS hl
      rw [mX5_isWell_48] at hM
      refine lv_istore (lv' := [(7, .int s0), (0, .ref (b 0)), (2, .int p2), (3, .int v3), (4, .int v4), (5, .int v5), (6, .int v6)]) hx hb dX5_isWell_48 hl (by decide) rfl (fun ls hl => ?_)
      refine lv_iload hx hb dX5_isWell_50 (lv_at hl 4 rfl) ?_
      refine lv_iload hx hb dX5_isWell_52 (lv_at hl 0 rfl) ?_
      refine lv_iand hx hb dX5_isWell_54 ?_
      refine lv_if_eq (tgt := 60) hx hb dX5_isWell_55 (by decide) (fun hc => ?_) (fun hc => ?_)
      · replace hM := it_p hc hM
        refine lv_iload hx hb dX5_isWell_60 (lv_at hl 4 rfl) ?_
        refine lv_iload hx hb dX5_isWell_62 (lv_at hl 0 rfl) ?_
        refine lv_ior hx hb dX5_isWell_64 ?_
        refine lv_istore (lv' := [(4, .int (v4 ||| s0)), (7, .int s0), (0, .ref (b 0)), (2, .int p2), (3, .int v3), (5, .int v5), (6, .int v6)]) hx hb dX5_isWell_65 hl (by decide) rfl (fun ls hl => ?_)
        refine lv_iload hx hb dX5_isWell_67 (lv_at hl 5 rfl) ?_
        refine lv_iload hx hb dX5_isWell_69 (lv_at hl 1 rfl) ?_
        refine lv_if_ne (tgt := 78) hx hb dX5_isWell_71 (by decide) (fun hc => ?_) (fun hc => ?_)
        · replace hM := it_n hc hM
          refine lv_iconst (v := 0) hx hb dX5_isWell_78 (by decide) ?_
          exact c79 K16 hK16 v3 (v4 ||| s0) v6 (0 : Int32) v5 hM H locs ls hP hS (lv_sub hl [2, 3, 4, 0, 6] rfl)
        · replace hM := it_p hc hM
          refine lv_iconst (v := 1) hx hb dX5_isWell_74 (by decide) ?_
          refine lv_goto (tgt := 79) hx hb dX5_isWell_75 (by decide) ?_
          exact c79 K16 hK16 v3 (v4 ||| s0) v6 (1 : Int32) v5 hM H locs ls hP hS (lv_sub hl [2, 3, 4, 0, 6] rfl)
      · replace hM := it_n hc hM
        refine lv_iconst (v := 0) hx hb dX5_isWell_58 (by decide) ?_
        obtain rfl := Option.some.inj hM
        subst hQ hAe
        exact W.zret (ty := .boolean) (v := (0 : Int32)) hx hb hr (nb_z (Or.inl rfl)) (fun t ht hW => ⟨⟨(0 : Int32), (), rfl, ⟨rfl, Or.inl rfl⟩, trivial⟩, hS.F ht⟩) hS.2.2 dX5_isWell_59
  have c16 : ∀ (n : Nat), ∀ (v3 : Int32) (v4 : Int32) (v5 : Int32) (v6 : Int32), mX5_isWell_16 N w h ms mu me mf p2 n v3 v4 v5 v6 = some o → ∀ (H : Heap) (locs : List Loc) (ls : Array Slot), va_P D vwCl (mw b cI th w h ms mu mb me mf mt mv ml mk) H → va_S A s.heap H locs → lv_has ls 8 [(0, .ref (b 0)), (2, .int p2), (3, .int v3), (4, .int v4), (5, .int v5), (6, .int v6)] → W p l e rmX5_isWell s m args below meth c H locs 0 0 Q (F0 m 16 ls []) := by
    intro n
    induction n with
    | zero =>
      intro v3 v4 v5 v6 hM
      rw [mX5_isWell_16] at hM
      cases hM
    | succ n ih =>
      intro v3 v4 v5 v6 hM H locs ls hP hS hl
      rw [mX5_isWell_16] at hM
      refine lv_aload_n hx hb dX5_isWell_16 rfl (lv_at hl 0 rfl) ?_
      refine lv_iload hx hb dX5_isWell_17 (lv_at hl 5 rfl) ?_
      obtain ⟨x19, hC, hM⟩ := bd_s hM
      refine cR_i (va_runV (As := [.int v6]) (rest := []) ⟨hx, hb, hml, hown, hts⟩ (kX5_isOpen (l := l) (D := D) (cI := cI) (cJ := cJ) N b (th := th) (w := w) (h := h) (ms := ms) (mu := mu) (mb := mb) (me := me) (mf := mf) (mt := mt) (mv := mv) (ml := ml) (mk := mk) (p1 := v6) hC H.size) (cwV 1 hts gX5_isWell_X5_isOpen rfl rfl rfl (by decide +kernel) ⟨Nat.le_of_ble_eq_true rfl, Nat.le_of_ble_eq_true rfl⟩) (preV [.int v6] hN hK hP hD (ci := 5) (q0 := 0) rfl rfl) rfl rfl hl.1 rfl (lv_room (Nat.le_of_ble_eq_true rfl)) dX5_isWell_19 ⟨Nat.le_of_ble_eq_true rfl, Nat.le_of_ble_eq_true rfl⟩) hP hS (fun r u H locs hw hP hS => ?_)
      obtain ⟨hw, hz19⟩ := hw
      rw [hw] at hz19
      rw [hw]
      refine lv_if_eq (tgt := 94) hx hb dX5_isWell_22 (by decide) (fun hc => ?_) (fun hc => ?_)
      · replace hM := it_p hc hM
        refine lv_aload_n hx hb dX5_isWell_94 rfl (lv_at hl 0 rfl) ?_
        refine va_get (D := D) (ci := 5) (v := .ref (b 2)) (C := RX5) (T := TX5) (N := 12) hx hb hts iX5 hown hK hP 0 rfl rfl 4 (by decide) f20 (fun _ h9 => h9) rfl dX5_isWell_95 ?_
        refine lv_bipush (v := 36) hx hb dX5_isWell_98 (by decide) ?_
        refine lv_iload_n hx hb dX5_isWell_100 rfl (lv_at hl 1 rfl) ?_
        refine lv_imul hx hb dX5_isWell_101 ?_
        refine lv_iload_n hx hb dX5_isWell_102 rfl (lv_at hl 2 rfl) ?_
        refine lv_iadd hx hb dX5_isWell_103 ?_
        obtain ⟨hb104, hM⟩ := it_x hM
        refine va_iald (D := D) hx hb hK hP 2 0 rfl rfl hb104 dX5_isWell_104 ?_
        refine lv_iload hx hb dX5_isWell_105 (lv_at hl 3 rfl) ?_
        obtain ⟨x107, hC, hM⟩ := bd_s hM
        refine cR_i (va_runS (As := [.int v4]) (rest := [.int (mu (((36 : Int32) * p2) + v3).toNatClampNeg)]) ⟨hx, hb, hml, hown, hts⟩ (kX5_sumOf (l := l) (D := D) (cI := cI) (cJ := cJ) N (p1 := v4) hC H.size) (va_cwS 1 hts gX5_isWell_X5_sumOf rfl rfl rfl (by decide +kernel) ⟨Nat.le_of_ble_eq_true rfl, Nat.le_of_ble_eq_true rfl⟩) (preS [.int v4] hN hK (hP.sub (ws' := zw) [] rfl) (hD.sub (ws' := zw) [] (by decide) rfl)) rfl rfl hl.1 rfl (lv_room (Nat.le_of_ble_eq_true rfl)) dX5_isWell_107 ⟨Nat.le_of_ble_eq_true rfl, Nat.le_of_ble_eq_true rfl⟩) hP hS (fun r u H locs hw hP hS => ?_)
        rw [hw]
        refine lv_isub hx hb dX5_isWell_110 ?_
        refine lv_istore (lv' := [(6, .int ((mu (((36 : Int32) * p2) + v3).toNatClampNeg) - x107)), (0, .ref (b 0)), (2, .int p2), (3, .int v3), (4, .int v4), (5, .int v5)]) hx hb dX5_isWell_111 hl (by decide) rfl (fun ls hl => ?_)
        refine lv_aload_n hx hb dX5_isWell_113 rfl (lv_at hl 1 rfl) ?_
        refine va_get (D := D) (ci := 5) (v := .ref (b 2)) (C := RX5) (T := TX5) (N := 12) hx hb hts iX5 hown hK hP 0 rfl rfl 4 (by decide) f20 (fun _ h9 => h9) rfl dX5_isWell_114 ?_
        refine lv_bipush (v := 36) hx hb dX5_isWell_117 (by decide) ?_
        refine lv_iload_n hx hb dX5_isWell_119 rfl (lv_at hl 2 rfl) ?_
        refine lv_imul hx hb dX5_isWell_120 ?_
        refine lv_iload_n hx hb dX5_isWell_121 rfl (lv_at hl 3 rfl) ?_
        refine lv_iadd hx hb dX5_isWell_122 ?_
        obtain ⟨hb123, hM⟩ := it_x hM
        refine va_iald (D := D) hx hb hK hP 2 0 rfl rfl hb123 dX5_isWell_123 ?_
        refine lv_if_ne (tgt := 129) hx hb dX5_isWell_124 (by decide) (fun hc => ?_) (fun hc => ?_)
        · replace hM := it_n hc hM
          refine lv_iload hx hb dX5_isWell_129 (lv_at hl 0 rfl) ?_
          refine lv_if_lt (tgt := 151) hx hb dX5_isWell_131 (by decide) (fun hc => ?_) (fun hc => ?_)
          · replace hM := it_p hc hM
            refine lv_iconst (v := 0) hx hb dX5_isWell_151 (by decide) ?_
            obtain rfl := Option.some.inj hM
            subst hQ hAe
            exact W.zret (ty := .boolean) (v := (0 : Int32)) hx hb hr (nb_z (Or.inl rfl)) (fun t ht hW => ⟨⟨(0 : Int32), (), rfl, ⟨rfl, Or.inl rfl⟩, trivial⟩, hS.F ht⟩) hS.2.2 dX5_isWell_152
          · replace hM := it_n hc hM
            refine lv_aload_n hx hb dX5_isWell_134 rfl (lv_at hl 1 rfl) ?_
            refine lv_iload hx hb dX5_isWell_135 (lv_at hl 5 rfl) ?_
            refine lv_iload hx hb dX5_isWell_137 (lv_at hl 0 rfl) ?_
            refine lv_iload hx hb dX5_isWell_139 (lv_at hl 4 rfl) ?_
            obtain ⟨x141, hC, hM⟩ := bd_s hM
            refine cR_i (va_runV (As := [.int v5, .int ((mu (((36 : Int32) * p2) + v3).toNatClampNeg) - x107), .int v4]) (rest := []) ⟨hx, hb, hml, hown, hts⟩ (kX5_isMade (l := l) (D := D) (cI := cI) (cJ := cJ) N b (th := th) (w := w) (h := h) (ms := ms) (mu := mu) (mb := mb) (me := me) (mf := mf) (mt := mt) (mv := mv) (ml := ml) (mk := mk) (p1 := v5) (p2 := ((mu (((36 : Int32) * p2) + v3).toNatClampNeg) - x107)) (p3 := v4) hC H.size) (cwV 3 hts gX5_isWell_X5_isMade rfl rfl rfl (by decide +kernel) ⟨Nat.le_of_ble_eq_true rfl, Nat.le_of_ble_eq_true rfl⟩) (preV [.int v5, .int ((mu (((36 : Int32) * p2) + v3).toNatClampNeg) - x107), .int v4] hN hK hP hD (ci := 5) (q0 := 0) rfl rfl) rfl rfl hl.1 rfl (lv_room (Nat.le_of_ble_eq_true rfl)) dX5_isWell_141 ⟨Nat.le_of_ble_eq_true rfl, Nat.le_of_ble_eq_true rfl⟩) hP hS (fun r u H locs hw hP hS => ?_)
            obtain ⟨hw, hz141⟩ := hw
            rw [hw] at hz141
            rw [hw]
            refine lv_if_eq (tgt := 151) hx hb dX5_isWell_144 (by decide) (fun hc => ?_) (fun hc => ?_)
            · replace hM := it_p hc hM
              refine lv_iconst (v := 0) hx hb dX5_isWell_151 (by decide) ?_
              obtain rfl := Option.some.inj hM
              subst hQ hAe
              exact W.zret (ty := .boolean) (v := (0 : Int32)) hx hb hr (nb_z (Or.inl rfl)) (fun t ht hW => ⟨⟨(0 : Int32), (), rfl, ⟨rfl, Or.inl rfl⟩, trivial⟩, hS.F ht⟩) hS.2.2 dX5_isWell_152
            · replace hM := it_n hc hM
              refine lv_iconst (v := 1) hx hb dX5_isWell_147 (by decide) ?_
              refine lv_goto (tgt := 152) hx hb dX5_isWell_148 (by decide) ?_
              obtain rfl := Option.some.inj hM
              subst hQ hAe
              exact W.zret (ty := .boolean) (v := (1 : Int32)) hx hb hr (nb_z (Or.inr rfl)) (fun t ht hW => ⟨⟨(1 : Int32), (), rfl, ⟨rfl, Or.inr rfl⟩, trivial⟩, hS.F ht⟩) hS.2.2 dX5_isWell_152
        · replace hM := it_p hc hM
          refine lv_iconst (v := 1) hx hb dX5_isWell_127 (by decide) ?_
          obtain rfl := Option.some.inj hM
          subst hQ hAe
          exact W.zret (ty := .boolean) (v := (1 : Int32)) hx hb hr (nb_z (Or.inr rfl)) (fun t ht hW => ⟨⟨(1 : Int32), (), rfl, ⟨rfl, Or.inr rfl⟩, trivial⟩, hS.F ht⟩) hS.2.2 dX5_isWell_128
      · replace hM := it_n hc hM
        refine lv_aload_n hx hb dX5_isWell_25 rfl (lv_at hl 0 rfl) ?_
        refine va_get (D := D) (ci := 5) (v := .ref (b 1)) (C := RX5) (T := TX5) (N := 12) hx hb hts iX5 hown hK hP 0 rfl rfl 3 (by decide) f16 (fun _ h9 => h9) rfl dX5_isWell_26 ?_
        refine lv_iload hx hb dX5_isWell_29 (lv_at hl 5 rfl) ?_
        obtain ⟨hb31, hM⟩ := it_x hM
        refine va_iald (D := D) hx hb hK hP 1 0 rfl rfl hb31 dX5_isWell_31 ?_
        refine lv_if_ne (tgt := 39) hx hb dX5_isWell_32 (by decide) (fun hc => ?_) (fun hc => ?_)
        · replace hM := it_n hc hM
          refine lv_iconst (v := 1) hx hb dX5_isWell_39 (by decide) ?_
          refine lv_aload_n hx hb dX5_isWell_40 rfl (lv_at hl 0 rfl) ?_
          refine va_get (D := D) (ci := 5) (v := .ref (b 1)) (C := RX5) (T := TX5) (N := 12) hx hb hts iX5 hown hK hP 0 rfl rfl 3 (by decide) f16 (fun _ h9 => h9) rfl dX5_isWell_41 ?_
          refine lv_iload hx hb dX5_isWell_44 (lv_at hl 5 rfl) ?_
          obtain ⟨hb46, hM⟩ := it_x hM
          refine va_iald (D := D) hx hb hK hP 1 0 rfl rfl hb46 dX5_isWell_46 ?_
          refine lv_ishl hx hb dX5_isWell_47 ?_
          exact c48 (mX5_isWell_16 N w h ms mu me mf p2 n) ih v3 v4 v5 v6 ((1 : Int32) <<< ((ms v6.toNatClampNeg) &&& 31)) hM H locs ls hP hS (lv_sub hl [0, 1, 2, 3, 4, 5] rfl)
        · replace hM := it_p hc hM
          refine lv_iconst (v := 0) hx hb dX5_isWell_35 (by decide) ?_
          refine lv_goto (tgt := 48) hx hb dX5_isWell_36 (by decide) ?_
          exact c48 (mX5_isWell_16 N w h ms mu me mf p2 n) ih v3 v4 v5 v6 (0 : Int32) hM H locs ls hP hS (lv_sub hl [0, 1, 2, 3, 4, 5] rfl)
  rw [mX5_isWell] at hM
  refine lv_aload_n hx hb dX5_isWell_0 rfl (lv_at hl 0 rfl) ?_
  refine lv_iload_n hx hb dX5_isWell_1 rfl (lv_at hl 1 rfl) ?_
  refine lv_iload_n hx hb dX5_isWell_2 rfl (lv_at hl 2 rfl) ?_
  obtain ⟨x3, hC, hM⟩ := bd_s hM
  refine cR_i (va_runV (As := [.int p1, .int p2]) (rest := []) ⟨hx, hb, hml, hown, hts⟩ (kX5_beginOf (l := l) (D := D) (cI := cI) (cJ := cJ) N b (th := th) (w := w) (h := h) (ms := ms) (mu := mu) (mb := mb) (me := me) (mf := mf) (mt := mt) (mv := mv) (ml := ml) (mk := mk) (p1 := p1) (p2 := p2) hC H.size) (cwV 2 hts gX5_isWell_X5_beginOf rfl rfl rfl (by decide +kernel) ⟨Nat.le_of_ble_eq_true rfl, Nat.le_of_ble_eq_true rfl⟩) (preV [.int p1, .int p2] hN hK hP hD (ci := 5) (q0 := 0) rfl rfl) rfl rfl hl.1 rfl (lv_room (Nat.le_of_ble_eq_true rfl)) dX5_isWell_3 ⟨Nat.le_of_ble_eq_true rfl, Nat.le_of_ble_eq_true rfl⟩) hP hS (fun r u H locs hw hP hS => ?_)
  rw [hw]
  refine lv_istore_n (lv' := [(3, .int x3), (0, .ref (b 0)), (1, .int p1), (2, .int p2)]) hx hb dX5_isWell_6 rfl hl (by decide) rfl (fun ls hl => ?_)
  refine lv_iconst (v := 0) hx hb dX5_isWell_7 (by decide) ?_
  refine lv_istore (lv' := [(4, .int (0 : Int32)), (3, .int x3), (0, .ref (b 0)), (1, .int p1), (2, .int p2)]) hx hb dX5_isWell_8 hl (by decide) rfl (fun ls hl => ?_)
  refine lv_iconst (v := 0) hx hb dX5_isWell_10 (by decide) ?_
  refine lv_istore (lv' := [(5, .int (0 : Int32)), (4, .int (0 : Int32)), (3, .int x3), (0, .ref (b 0)), (1, .int p1), (2, .int p2)]) hx hb dX5_isWell_11 hl (by decide) rfl (fun ls hl => ?_)
  refine lv_iload_n hx hb dX5_isWell_13 rfl (lv_at hl 2 rfl) ?_
  refine lv_istore (lv' := [(6, .int x3), (5, .int (0 : Int32)), (4, .int (0 : Int32)), (3, .int x3), (0, .ref (b 0)), (1, .int p1), (2, .int p2)]) hx hb dX5_isWell_14 hl (by decide) rfl (fun ls hl => ?_)
  exact c16 N x3 (0 : Int32) (0 : Int32) x3 hM H locs ls hP hS (lv_sub hl [4, 6, 3, 2, 1, 0] rfl)
def mX5_stands_29 (N : Nat) (p1 : Int32) (ms' : RowI) : Option (Int32 × RowI) :=
  (if bad p1 36 then none else
  some ((0 : Int32), (upd ms' p1.toNatClampNeg (0 : Int32))))
def mX5_stands (N : Nat) (w : Int32) (h : Int32) (ms : RowI) (mu : RowI) (mb : RowI) (me : RowI) (mf : RowI) (p1 : Int32) (p2 : Int32) : Option (Int32 × RowI) :=
  (if bad p1 36 then none else
  ((mX5_isWell N w h (upd ms p1.toNatClampNeg p2) mu mb me mf p1 (0 : Int32)).bind fun x10 =>
  (if x10 = 0 then
  (mX5_stands_29 N p1 (upd ms p1.toNatClampNeg p2))
  else
  ((mX5_isWell N w h (upd ms p1.toNatClampNeg p2) mu mb me mf p1 (1 : Int32)).bind fun x19 =>
  (if x19 = 0 then
  (mX5_stands_29 N p1 (upd ms p1.toNatClampNeg p2))
  else
  (if bad p1 36 then none else
  some ((1 : Int32), (upd (upd ms p1.toNatClampNeg p2) p1.toNatClampNeg (0 : Int32)))))))))
abbrev rmX5_stands : Room := { frames := 2, cells := 0, slots := 0, locals := 52 }
set_option maxHeartbeats 4000000 in
set_option maxRecDepth 100000 in
theorem kX5_stands {l : Launch} {D : va_G} {cI cJ : ClassId} (N : Nat) (b : Nat → Nat) {th : Int32} {w : Int32} {h : Int32} {ms : RowI} {mu : RowI} {mb : RowI} {me : RowI} {mf : RowI} {mt : Int32} {mv : Int32} {ml : Int32} {mk : RowI} {p1 : Int32} {p2 : Int32} {o : (Int32 × RowI)} (hM : mX5_stands N w h ms mu mb me mf p1 p2 = some o) (sz : Nat) : Met l yX5_stands wsX5_stands rmX5_stands (va_Pc [.ref (b 0), .int p1, .int p2] (Pre D cI cJ (mw b cI th w h ms mu mb me mf mt mv ml mk) sz)) (va_Qi (fun (r : Int32) (_ : Unit) => r = o.1 ∧ bz r) (aft D (mw b cI th w h ms mu mb me mf mt mv ml mk) sz (fun (_ : Unit) => (mw b cI th w h o.2 mu mb me mf mt mv ml mk))) (va_A (mw b cI th w h ms mu mb me mf mt mv ml mk) sz)) 0 0 (va_A (mw b cI th w h ms mu mb me mf mt mv ml mk) sz) := by
  refine xofW (cc := cX5_stands) (maxL := 4) (ret := (some .boolean)) rfl (by decide) rfl ?_
  intro p e s m args below meth c ls Q A hQ hAe hx hb hr hml hown hts hlocks hnm hN hK H locs hP hD hS hA hl
  replace hown : s.vm.findClass RX5 = some m.cls := hown
  replace hl : lv_has ls 4 [(0, .ref (b 0)), (1, .int p1), (2, .int p2)] := hl
  have iX5 : ∀ w ∈ wsX50, w ∈ wsX5_stands := by decide +kernel
  have f16 := hts (.fieldLink RX5 16 "CryptSumsModel" "stones" "[I") (by decide +kernel)
  have c29 : ∀ (ms' : RowI), mX5_stands_29 N p1 ms' = some o → ∀ (H : Heap) (locs : List Loc) (ls : Array Slot), va_P D vwCl (mw b cI th w h ms' mu mb me mf mt mv ml mk) H → va_D A (mw b cI th w h ms' mu mb me mf mt mv ml mk) → va_S A s.heap H locs → lv_has ls 4 [(0, .ref (b 0)), (1, .int p1)] → W p l e rmX5_stands s m args below meth c H locs 0 0 Q (F0 m 29 ls []) := by
      intro  ms' hM H locs ls hP hD hS hl
      rw [mX5_stands_29] at hM
      refine lv_iconst (v := 0) hx hb dX5_stands_29 (by decide) ?_
      refine lv_istore_n (lv' := [(3, .int (0 : Int32)), (0, .ref (b 0)), (1, .int p1)]) hx hb dX5_stands_30 rfl hl (by decide) rfl (fun ls hl => ?_)
      refine lv_aload_n hx hb dX5_stands_31 rfl (lv_at hl 1 rfl) ?_
      refine va_get (D := D) (ci := 5) (v := .ref (b 1)) (C := RX5) (T := TX5) (N := 12) hx hb hts iX5 hown hK hP 0 rfl rfl 3 (by decide) f16 (fun _ h9 => h9) rfl dX5_stands_32 ?_
      refine lv_iload_n hx hb dX5_stands_35 rfl (lv_at hl 2 rfl) ?_
      refine lv_iconst (v := 0) hx hb dX5_stands_36 (by decide) ?_
      obtain ⟨hb37, hM⟩ := it_x hM
      refine va_iast (D := D) hx hb hK hP hD hS 1 0 rfl rfl hb37 dX5_stands_37 (fun H locs hP hD hS => ?_)
      replace hP : va_P D vwCl (mw b cI th w h (upd ms' p1.toNatClampNeg (0 : Int32)) mu mb me mf mt mv ml mk) H := hP
      replace hD : va_D A (mw b cI th w h (upd ms' p1.toNatClampNeg (0 : Int32)) mu mb me mf mt mv ml mk) := hD
      refine lv_iload_n hx hb dX5_stands_38 rfl (lv_at hl 0 rfl) ?_
      obtain rfl := Option.some.inj hM
      subst hQ hAe
      exact W.zret (ty := .boolean) (v := (0 : Int32)) hx hb hr (nb_z (Or.inl rfl)) (fun t ht hW => ⟨⟨(0 : Int32), (), rfl, ⟨rfl, Or.inl rfl⟩, ⟨by rw [ht]; exact hP, hD⟩⟩, hS.F ht⟩) hS.2.2 dX5_stands_39
  rw [mX5_stands] at hM
  refine lv_aload_n hx hb dX5_stands_0 rfl (lv_at hl 0 rfl) ?_
  refine va_get (D := D) (ci := 5) (v := .ref (b 1)) (C := RX5) (T := TX5) (N := 12) hx hb hts iX5 hown hK hP 0 rfl rfl 3 (by decide) f16 (fun _ h9 => h9) rfl dX5_stands_1 ?_
  refine lv_iload_n hx hb dX5_stands_4 rfl (lv_at hl 1 rfl) ?_
  refine lv_iload_n hx hb dX5_stands_5 rfl (lv_at hl 2 rfl) ?_
  obtain ⟨hb6, hM⟩ := it_x hM
  refine va_iast (D := D) hx hb hK hP hD hS 1 0 rfl rfl hb6 dX5_stands_6 (fun H locs hP hD hS => ?_)
  replace hP : va_P D vwCl (mw b cI th w h (upd ms p1.toNatClampNeg p2) mu mb me mf mt mv ml mk) H := hP
  replace hD : va_D A (mw b cI th w h (upd ms p1.toNatClampNeg p2) mu mb me mf mt mv ml mk) := hD
  refine lv_aload_n hx hb dX5_stands_7 rfl (lv_at hl 0 rfl) ?_
  refine lv_iload_n hx hb dX5_stands_8 rfl (lv_at hl 1 rfl) ?_
  refine lv_iconst (v := 0) hx hb dX5_stands_9 (by decide) ?_
  obtain ⟨x10, hC, hM⟩ := bd_s hM
  refine cR_i (va_runV (As := [.int p1, .int (0 : Int32)]) (rest := []) ⟨hx, hb, hml, hown, hts⟩ (kX5_isWell (l := l) (D := D) (cI := cI) (cJ := cJ) N b (th := th) (w := w) (h := h) (ms := (upd ms p1.toNatClampNeg p2)) (mu := mu) (mb := mb) (me := me) (mf := mf) (mt := mt) (mv := mv) (ml := ml) (mk := mk) (p1 := p1) (p2 := (0 : Int32)) hC H.size) (cwV 2 hts gX5_stands_X5_isWell rfl rfl rfl (by decide +kernel) ⟨Nat.le_of_ble_eq_true rfl, Nat.le_of_ble_eq_true rfl⟩) (preV [.int p1, .int (0 : Int32)] hN hK hP hD (ci := 5) (q0 := 0) rfl rfl) rfl rfl hl.1 rfl (lv_room (Nat.le_of_ble_eq_true rfl)) dX5_stands_10 ⟨Nat.le_of_ble_eq_true rfl, Nat.le_of_ble_eq_true rfl⟩) hP hS (fun r u H locs hw hP hS => ?_)
  obtain ⟨hw, hz10⟩ := hw
  rw [hw] at hz10
  rw [hw]
  refine lv_if_eq (tgt := 29) hx hb dX5_stands_13 (by decide) (fun hc => ?_) (fun hc => ?_)
  · replace hM := it_p hc hM
    exact c29 (upd ms p1.toNatClampNeg p2) hM H locs ls hP hD hS (lv_sub hl [0, 1] rfl)
  · replace hM := it_n hc hM
    refine lv_aload_n hx hb dX5_stands_16 rfl (lv_at hl 0 rfl) ?_
    refine lv_iload_n hx hb dX5_stands_17 rfl (lv_at hl 1 rfl) ?_
    refine lv_iconst (v := 1) hx hb dX5_stands_18 (by decide) ?_
    obtain ⟨x19, hC, hM⟩ := bd_s hM
    refine cR_i (va_runV (As := [.int p1, .int (1 : Int32)]) (rest := []) ⟨hx, hb, hml, hown, hts⟩ (kX5_isWell (l := l) (D := D) (cI := cI) (cJ := cJ) N b (th := th) (w := w) (h := h) (ms := (upd ms p1.toNatClampNeg p2)) (mu := mu) (mb := mb) (me := me) (mf := mf) (mt := mt) (mv := mv) (ml := ml) (mk := mk) (p1 := p1) (p2 := (1 : Int32)) hC H.size) (cwV 2 hts gX5_stands_X5_isWell rfl rfl rfl (by decide +kernel) ⟨Nat.le_of_ble_eq_true rfl, Nat.le_of_ble_eq_true rfl⟩) (preV [.int p1, .int (1 : Int32)] hN hK hP hD (ci := 5) (q0 := 0) rfl rfl) rfl rfl hl.1 rfl (lv_room (Nat.le_of_ble_eq_true rfl)) dX5_stands_19 ⟨Nat.le_of_ble_eq_true rfl, Nat.le_of_ble_eq_true rfl⟩) hP hS (fun r u H locs hw hP hS => ?_)
    obtain ⟨hw, hz19⟩ := hw
    rw [hw] at hz19
    rw [hw]
    refine lv_if_eq (tgt := 29) hx hb dX5_stands_22 (by decide) (fun hc => ?_) (fun hc => ?_)
    · replace hM := it_p hc hM
      exact c29 (upd ms p1.toNatClampNeg p2) hM H locs ls hP hD hS (lv_sub hl [0, 1] rfl)
    · replace hM := it_n hc hM
      refine lv_iconst (v := 1) hx hb dX5_stands_25 (by decide) ?_
      refine lv_goto (tgt := 30) hx hb dX5_stands_26 (by decide) ?_
      refine lv_istore_n (lv' := [(3, .int (1 : Int32)), (0, .ref (b 0)), (1, .int p1), (2, .int p2)]) hx hb dX5_stands_30 rfl hl (by decide) rfl (fun ls hl => ?_)
      refine lv_aload_n hx hb dX5_stands_31 rfl (lv_at hl 1 rfl) ?_
      refine va_get (D := D) (ci := 5) (v := .ref (b 1)) (C := RX5) (T := TX5) (N := 12) hx hb hts iX5 hown hK hP 0 rfl rfl 3 (by decide) f16 (fun _ h9 => h9) rfl dX5_stands_32 ?_
      refine lv_iload_n hx hb dX5_stands_35 rfl (lv_at hl 2 rfl) ?_
      refine lv_iconst (v := 0) hx hb dX5_stands_36 (by decide) ?_
      obtain ⟨hb37, hM⟩ := it_x hM
      refine va_iast (D := D) hx hb hK hP hD hS 1 0 rfl rfl hb37 dX5_stands_37 (fun H locs hP hD hS => ?_)
      replace hP : va_P D vwCl (mw b cI th w h (upd (upd ms p1.toNatClampNeg p2) p1.toNatClampNeg (0 : Int32)) mu mb me mf mt mv ml mk) H := hP
      replace hD : va_D A (mw b cI th w h (upd (upd ms p1.toNatClampNeg p2) p1.toNatClampNeg (0 : Int32)) mu mb me mf mt mv ml mk) := hD
      refine lv_iload_n hx hb dX5_stands_38 rfl (lv_at hl 0 rfl) ?_
      obtain rfl := Option.some.inj hM
      subst hQ hAe
      exact W.zret (ty := .boolean) (v := (1 : Int32)) hx hb hr (nb_z (Or.inr rfl)) (fun t ht hW => ⟨⟨(1 : Int32), (), rfl, ⟨rfl, Or.inr rfl⟩, ⟨by rw [ht]; exact hP, hD⟩⟩, hS.F ht⟩) hS.2.2 dX5_stands_39
def mX5_canOf_15 (N : Nat) (w : Int32) (h : Int32) (mu : RowI) (mb : RowI) (me : RowI) (mf : RowI) (p1 : Int32) : Nat → Int32 → Int32 → RowI → Option (Int32 × RowI)
  | 0 => fun _ _ _ => none
  | n + 1 => fun v2 v3 ms' => (if (9 : Int32) < v3 then
  some (v2, ms')
  else
  ((mX5_stands N w h ms' mu mb me mf p1 v3).bind fun x24 =>
  (if x24.1 = 0 then
  (mX5_canOf_15 N w h mu mb me mf p1 n v2 (v3 + 1) x24.2)
  else
  (mX5_canOf_15 N w h mu mb me mf p1 n (v2 ||| ((1 : Int32) <<< (v3 &&& 31))) (v3 + 1) x24.2))))
def mX5_canOf (N : Nat) (w : Int32) (h : Int32) (ms : RowI) (mu : RowI) (mb : RowI) (me : RowI) (mf : RowI) (p1 : Int32) : Option (Int32 × RowI) :=
  (if bad p1 36 then none else
  (if (ms p1.toNatClampNeg) = 0 then
  (mX5_canOf_15 N w h mu mb me mf p1 N (0 : Int32) (1 : Int32) ms)
  else
  some ((0 : Int32), ms)))
abbrev rmX5_canOf : Room := { frames := 3, cells := 0, slots := 0, locals := 75 }
set_option maxHeartbeats 4000000 in
set_option maxRecDepth 100000 in
theorem kX5_canOf {l : Launch} {D : va_G} {cI cJ : ClassId} (N : Nat) (b : Nat → Nat) {th : Int32} {w : Int32} {h : Int32} {ms : RowI} {mu : RowI} {mb : RowI} {me : RowI} {mf : RowI} {mt : Int32} {mv : Int32} {ml : Int32} {mk : RowI} {p1 : Int32} {o : (Int32 × RowI)} (hM : mX5_canOf N w h ms mu mb me mf p1 = some o) (sz : Nat) : Met l yX5_canOf wsX5_canOf rmX5_canOf (va_Pc [.ref (b 0), .int p1] (Pre D cI cJ (mw b cI th w h ms mu mb me mf mt mv ml mk) sz)) (va_Qi (fun (r : Int32) (_ : Unit) => r = o.1) (aft D (mw b cI th w h ms mu mb me mf mt mv ml mk) sz (fun (_ : Unit) => (mw b cI th w h o.2 mu mb me mf mt mv ml mk))) (va_A (mw b cI th w h ms mu mb me mf mt mv ml mk) sz)) 0 0 (va_A (mw b cI th w h ms mu mb me mf mt mv ml mk) sz) := by
  refine xofW (cc := cX5_canOf) (maxL := 4) (ret := (some .int)) rfl (by decide) rfl ?_
  intro p e s m args below meth c ls Q A hQ hAe hx hb hr hml hown hts hlocks hnm hN hK H locs hP hD hS hA hl
  replace hown : s.vm.findClass RX5 = some m.cls := hown
  replace hl : lv_has ls 4 [(0, .ref (b 0)), (1, .int p1)] := hl
  have iX5 : ∀ w ∈ wsX50, w ∈ wsX5_canOf := by decide +kernel
  have f16 := hts (.fieldLink RX5 16 "CryptSumsModel" "stones" "[I") (by decide +kernel)
  have c15 : ∀ (n : Nat), ∀ (v2 : Int32) (v3 : Int32) (ms' : RowI), mX5_canOf_15 N w h mu mb me mf p1 n v2 v3 ms' = some o → ∀ (H : Heap) (locs : List Loc) (ls : Array Slot), va_P D vwCl (mw b cI th w h ms' mu mb me mf mt mv ml mk) H → va_D A (mw b cI th w h ms' mu mb me mf mt mv ml mk) → va_S A s.heap H locs → lv_has ls 4 [(0, .ref (b 0)), (1, .int p1), (2, .int v2), (3, .int v3)] → W p l e rmX5_canOf s m args below meth c H locs 0 0 Q (F0 m 15 ls []) := by
    intro n
    induction n with
    | zero =>
      intro v2 v3 ms' hM
      rw [mX5_canOf_15] at hM
      cases hM
    | succ n ih =>
      intro v2 v3 ms' hM H locs ls hP hD hS hl
      rw [mX5_canOf_15] at hM
      refine lv_iload_n hx hb dX5_canOf_15 rfl (lv_at hl 3 rfl) ?_
      refine lv_bipush (v := 9) hx hb dX5_canOf_16 (by decide) ?_
      refine lv_icmp_gt (tgt := 42) hx hb dX5_canOf_18 (by decide) (fun hc => ?_) (fun hc => ?_)
      · replace hM := it_p hc hM
        refine lv_iload_n hx hb dX5_canOf_42 rfl (lv_at hl 2 rfl) ?_
        obtain rfl := Option.some.inj hM
        subst hQ hAe
        exact W.iret (v := v2) hx hb hr (fun t ht hW => ⟨⟨v2, (), rfl, rfl, ⟨by rw [ht]; exact hP, hD⟩⟩, hS.F ht⟩) hS.2.2 dX5_canOf_43
      · replace hM := it_n hc hM
        refine lv_aload_n hx hb dX5_canOf_21 rfl (lv_at hl 0 rfl) ?_
        refine lv_iload_n hx hb dX5_canOf_22 rfl (lv_at hl 1 rfl) ?_
        refine lv_iload_n hx hb dX5_canOf_23 rfl (lv_at hl 3 rfl) ?_
        obtain ⟨x24, hC, hM⟩ := bd_s hM
        refine cW_i [0, 1, 2, 3, 4, 5, 6] [] (va_runV (As := [.int p1, .int v3]) (rest := []) ⟨hx, hb, hml, hown, hts⟩ (kX5_stands (l := l) (D := D) (cI := cI) (cJ := cJ) N b (th := th) (w := w) (h := h) (ms := ms') (mu := mu) (mb := mb) (me := me) (mf := mf) (mt := mt) (mv := mv) (ml := ml) (mk := mk) (p1 := p1) (p2 := v3) hC H.size) (cwV 2 hts gX5_canOf_X5_stands rfl rfl rfl (by decide +kernel) ⟨Nat.le_of_ble_eq_true rfl, Nat.le_of_ble_eq_true rfl⟩) (preV [.int p1, .int v3] hN hK hP hD (ci := 5) (q0 := 0) rfl rfl) rfl rfl hl.1 rfl (lv_room (Nat.le_of_ble_eq_true rfl)) dX5_canOf_24 ⟨Nat.le_of_ble_eq_true rfl, Nat.le_of_ble_eq_true rfl⟩) hP hD hS hA rfl (wr := []) rfl (by decide) (by decide) (fun r u24 H locs hw hP hD hS => ?_)
        replace hP : va_P D vwCl (mw b cI th w h x24.2 mu mb me mf mt mv ml mk) H := hP
        replace hD : va_D A (mw b cI th w h x24.2 mu mb me mf mt mv ml mk) := hD
        obtain ⟨hw, hz24⟩ := hw
        rw [hw] at hz24
        rw [hw]
        refine lv_if_eq (tgt := 36) hx hb dX5_canOf_27 (by decide) (fun hc => ?_) (fun hc => ?_)
        · replace hM := it_p hc hM
          refine lv_iinc (v := (v3 + 1)) (lv' := [(3, .int (v3 + 1)), (0, .ref (b 0)), (1, .int p1), (2, .int v2)]) hx hb dX5_canOf_36 hl (k := 3) rfl (by rfl) (by decide) rfl (fun ls hl => ?_)
          refine lv_goto (tgt := 15) hx hb dX5_canOf_39 (by decide) ?_
          exact ih v2 (v3 + 1) x24.2 hM H locs ls hP hD hS (lv_sub hl [1, 2, 3, 0] rfl)
        · replace hM := it_n hc hM
          refine lv_iload_n hx hb dX5_canOf_30 rfl (lv_at hl 2 rfl) ?_
          refine lv_iconst (v := 1) hx hb dX5_canOf_31 (by decide) ?_
          refine lv_iload_n hx hb dX5_canOf_32 rfl (lv_at hl 3 rfl) ?_
          refine lv_ishl hx hb dX5_canOf_33 ?_
          refine lv_ior hx hb dX5_canOf_34 ?_
          refine lv_istore_n (lv' := [(2, .int (v2 ||| ((1 : Int32) <<< (v3 &&& 31)))), (0, .ref (b 0)), (1, .int p1), (3, .int v3)]) hx hb dX5_canOf_35 rfl hl (by decide) rfl (fun ls hl => ?_)
          refine lv_iinc (v := (v3 + 1)) (lv' := [(3, .int (v3 + 1)), (2, .int (v2 ||| ((1 : Int32) <<< (v3 &&& 31)))), (0, .ref (b 0)), (1, .int p1)]) hx hb dX5_canOf_36 hl (k := 3) rfl (by rfl) (by decide) rfl (fun ls hl => ?_)
          refine lv_goto (tgt := 15) hx hb dX5_canOf_39 (by decide) ?_
          exact ih (v2 ||| ((1 : Int32) <<< (v3 &&& 31))) (v3 + 1) x24.2 hM H locs ls hP hD hS (lv_sub hl [2, 3, 1, 0] rfl)
  rw [mX5_canOf] at hM
  refine lv_iconst (v := 0) hx hb dX5_canOf_0 (by decide) ?_
  refine lv_istore_n (lv' := [(2, .int (0 : Int32)), (0, .ref (b 0)), (1, .int p1)]) hx hb dX5_canOf_1 rfl hl (by decide) rfl (fun ls hl => ?_)
  refine lv_aload_n hx hb dX5_canOf_2 rfl (lv_at hl 1 rfl) ?_
  refine va_get (D := D) (ci := 5) (v := .ref (b 1)) (C := RX5) (T := TX5) (N := 12) hx hb hts iX5 hown hK hP 0 rfl rfl 3 (by decide) f16 (fun _ h9 => h9) rfl dX5_canOf_3 ?_
  refine lv_iload_n hx hb dX5_canOf_6 rfl (lv_at hl 2 rfl) ?_
  obtain ⟨hb7, hM⟩ := it_x hM
  refine va_iald (D := D) hx hb hK hP 1 0 rfl rfl hb7 dX5_canOf_7 ?_
  refine lv_if_eq (tgt := 13) hx hb dX5_canOf_8 (by decide) (fun hc => ?_) (fun hc => ?_)
  · replace hM := it_p hc hM
    refine lv_iconst (v := 1) hx hb dX5_canOf_13 (by decide) ?_
    refine lv_istore_n (lv' := [(3, .int (1 : Int32)), (2, .int (0 : Int32)), (0, .ref (b 0)), (1, .int p1)]) hx hb dX5_canOf_14 rfl hl (by decide) rfl (fun ls hl => ?_)
    exact c15 N (0 : Int32) (1 : Int32) ms hM H locs ls hP hD hS (lv_sub hl [2, 3, 1, 0] rfl)
  · replace hM := it_n hc hM
    refine lv_iconst (v := 0) hx hb dX5_canOf_11 (by decide) ?_
    obtain rfl := Option.some.inj hM
    subst hQ hAe
    exact W.iret (v := (0 : Int32)) hx hb hr (fun t ht hW => ⟨⟨(0 : Int32), (), rfl, rfl, ⟨by rw [ht]; exact hP, hD⟩⟩, hS.F ht⟩) hS.2.2 dX5_canOf_12
def mX5_isAllWell_2 (N : Nat) (w : Int32) (h : Int32) (ms : RowI) (mu : RowI) (mb : RowI) (me : RowI) (mf : RowI) : Nat → Int32 → Option Int32
  | 0 => fun _ => none
  | n + 1 => fun v1 => (if (w * h) ≤ v1 then
  some (1 : Int32)
  else
  (if bad v1 36 then none else
  (if (ms v1.toNatClampNeg) = (-1 : Int32) then
  (mX5_isAllWell_2 N w h ms mu mb me mf n (v1 + 1))
  else
  ((mX5_isWell N w h ms mu mb me mf v1 (0 : Int32)).bind fun x28 =>
  (if x28 = 0 then
  some (0 : Int32)
  else
  ((mX5_isWell N w h ms mu mb me mf v1 (1 : Int32)).bind fun x37 =>
  (if x37 = 0 then
  some (0 : Int32)
  else
  (mX5_isAllWell_2 N w h ms mu mb me mf n (v1 + 1)))))))))
def mX5_isAllWell (N : Nat) (w : Int32) (h : Int32) (ms : RowI) (mu : RowI) (mb : RowI) (me : RowI) (mf : RowI) : Option Int32 :=
  (mX5_isAllWell_2 N w h ms mu mb me mf N (0 : Int32))
abbrev rmX5_isAllWell : Room := { frames := 2, cells := 0, slots := 0, locals := 52 }
set_option maxHeartbeats 4000000 in
set_option maxRecDepth 100000 in
theorem kX5_isAllWell {l : Launch} {D : va_G} {cI cJ : ClassId} (N : Nat) (b : Nat → Nat) {th : Int32} {w : Int32} {h : Int32} {ms : RowI} {mu : RowI} {mb : RowI} {me : RowI} {mf : RowI} {mt : Int32} {mv : Int32} {ml : Int32} {mk : RowI} {o : Int32} (hM : mX5_isAllWell N w h ms mu mb me mf = some o) (sz : Nat) : Met l yX5_isAllWell wsX5_isAllWell rmX5_isAllWell (va_Pc [.ref (b 0)] (Pre D cI cJ (mw b cI th w h ms mu mb me mf mt mv ml mk) sz)) (va_Qi (fun (r : Int32) (_ : Unit) => r = o ∧ bz r) (fun _ _ => True) (fun _ => False)) 0 0 (fun _ => False) := by
  refine xofR (cc := cX5_isAllWell) (maxL := 2) (ret := (some .boolean)) rfl (by decide) rfl ?_
  intro p e s m args below meth c ls Q A hQ hAe hx hb hr hml hown hts hlocks hN hK H locs hP hD hS hl
  replace hown : s.vm.findClass RX5 = some m.cls := hown
  replace hl : lv_has ls 2 [(0, .ref (b 0))] := hl
  have iX5 : ∀ w ∈ wsX50, w ∈ wsX5_isAllWell := by decide +kernel
  have f13 := hts (.fieldLink RX5 13 "CryptSumsModel" "h" "I") (by decide +kernel)
  have f16 := hts (.fieldLink RX5 16 "CryptSumsModel" "stones" "[I") (by decide +kernel)
  have f7 := hts (.fieldLink RX5 7 "CryptSumsModel" "w" "I") (by decide +kernel)
  have c2 : ∀ (n : Nat), ∀ (v1 : Int32), mX5_isAllWell_2 N w h ms mu mb me mf n v1 = some o → ∀ (H : Heap) (locs : List Loc) (ls : Array Slot), va_P D vwCl (mw b cI th w h ms mu mb me mf mt mv ml mk) H → va_S A s.heap H locs → lv_has ls 2 [(0, .ref (b 0)), (1, .int v1)] → W p l e rmX5_isAllWell s m args below meth c H locs 0 0 Q (F0 m 2 ls []) := by
    intro n
    induction n with
    | zero =>
      intro v1 hM
      rw [mX5_isAllWell_2] at hM
      cases hM
    | succ n ih =>
      intro v1 hM H locs ls hP hS hl
      rw [mX5_isAllWell_2] at hM
      refine lv_iload_n hx hb dX5_isAllWell_2 rfl (lv_at hl 1 rfl) ?_
      refine lv_aload_n hx hb dX5_isAllWell_3 rfl (lv_at hl 0 rfl) ?_
      refine va_get (D := D) (ci := 5) (v := .int w) (C := RX5) (T := TX5) (N := 12) hx hb hts iX5 hown hK hP 0 rfl rfl 1 (by decide) f7 (fun _ h9 => h9) rfl dX5_isAllWell_4 ?_
      refine lv_aload_n hx hb dX5_isAllWell_7 rfl (lv_at hl 0 rfl) ?_
      refine va_get (D := D) (ci := 5) (v := .int h) (C := RX5) (T := TX5) (N := 12) hx hb hts iX5 hown hK hP 0 rfl rfl 2 (by decide) f13 (fun _ h9 => h9) rfl dX5_isAllWell_8 ?_
      refine lv_imul hx hb dX5_isAllWell_11 ?_
      refine lv_icmp_ge (tgt := 51) hx hb dX5_isAllWell_12 (by decide) (fun hc => ?_) (fun hc => ?_)
      · replace hM := it_p hc hM
        refine lv_iconst (v := 1) hx hb dX5_isAllWell_51 (by decide) ?_
        obtain rfl := Option.some.inj hM
        subst hQ hAe
        exact W.zret (ty := .boolean) (v := (1 : Int32)) hx hb hr (nb_z (Or.inr rfl)) (fun t ht hW => ⟨⟨(1 : Int32), (), rfl, ⟨rfl, Or.inr rfl⟩, trivial⟩, hS.F ht⟩) hS.2.2 dX5_isAllWell_52
      · replace hM := it_n hc hM
        refine lv_aload_n hx hb dX5_isAllWell_15 rfl (lv_at hl 0 rfl) ?_
        refine va_get (D := D) (ci := 5) (v := .ref (b 1)) (C := RX5) (T := TX5) (N := 12) hx hb hts iX5 hown hK hP 0 rfl rfl 3 (by decide) f16 (fun _ h9 => h9) rfl dX5_isAllWell_16 ?_
        refine lv_iload_n hx hb dX5_isAllWell_19 rfl (lv_at hl 1 rfl) ?_
        obtain ⟨hb20, hM⟩ := it_x hM
        refine va_iald (D := D) hx hb hK hP 1 0 rfl rfl hb20 dX5_isAllWell_20 ?_
        refine lv_iconst (v := -1) hx hb dX5_isAllWell_21 (by decide) ?_
        refine lv_icmp_eq (tgt := 45) hx hb dX5_isAllWell_22 (by decide) (fun hc => ?_) (fun hc => ?_)
        · replace hM := it_p hc hM
          refine lv_iinc (v := (v1 + 1)) (lv' := [(1, .int (v1 + 1)), (0, .ref (b 0))]) hx hb dX5_isAllWell_45 hl (k := 1) rfl (by rfl) (by decide) rfl (fun ls hl => ?_)
          refine lv_goto (tgt := 2) hx hb dX5_isAllWell_48 (by decide) ?_
          exact ih (v1 + 1) hM H locs ls hP hS (lv_sub hl [1, 0] rfl)
        · replace hM := it_n hc hM
          refine lv_aload_n hx hb dX5_isAllWell_25 rfl (lv_at hl 0 rfl) ?_
          refine lv_iload_n hx hb dX5_isAllWell_26 rfl (lv_at hl 1 rfl) ?_
          refine lv_iconst (v := 0) hx hb dX5_isAllWell_27 (by decide) ?_
          obtain ⟨x28, hC, hM⟩ := bd_s hM
          refine cR_i (va_runV (As := [.int v1, .int (0 : Int32)]) (rest := []) ⟨hx, hb, hml, hown, hts⟩ (kX5_isWell (l := l) (D := D) (cI := cI) (cJ := cJ) N b (th := th) (w := w) (h := h) (ms := ms) (mu := mu) (mb := mb) (me := me) (mf := mf) (mt := mt) (mv := mv) (ml := ml) (mk := mk) (p1 := v1) (p2 := (0 : Int32)) hC H.size) (cwV 2 hts gX5_isAllWell_X5_isWell rfl rfl rfl (by decide +kernel) ⟨Nat.le_of_ble_eq_true rfl, Nat.le_of_ble_eq_true rfl⟩) (preV [.int v1, .int (0 : Int32)] hN hK hP hD (ci := 5) (q0 := 0) rfl rfl) rfl rfl hl.1 rfl (lv_room (Nat.le_of_ble_eq_true rfl)) dX5_isAllWell_28 ⟨Nat.le_of_ble_eq_true rfl, Nat.le_of_ble_eq_true rfl⟩) hP hS (fun r u H locs hw hP hS => ?_)
          obtain ⟨hw, hz28⟩ := hw
          rw [hw] at hz28
          rw [hw]
          refine lv_if_eq (tgt := 43) hx hb dX5_isAllWell_31 (by decide) (fun hc => ?_) (fun hc => ?_)
          · replace hM := it_p hc hM
            refine lv_iconst (v := 0) hx hb dX5_isAllWell_43 (by decide) ?_
            obtain rfl := Option.some.inj hM
            subst hQ hAe
            exact W.zret (ty := .boolean) (v := (0 : Int32)) hx hb hr (nb_z (Or.inl rfl)) (fun t ht hW => ⟨⟨(0 : Int32), (), rfl, ⟨rfl, Or.inl rfl⟩, trivial⟩, hS.F ht⟩) hS.2.2 dX5_isAllWell_44
          · replace hM := it_n hc hM
            refine lv_aload_n hx hb dX5_isAllWell_34 rfl (lv_at hl 0 rfl) ?_
            refine lv_iload_n hx hb dX5_isAllWell_35 rfl (lv_at hl 1 rfl) ?_
            refine lv_iconst (v := 1) hx hb dX5_isAllWell_36 (by decide) ?_
            obtain ⟨x37, hC, hM⟩ := bd_s hM
            refine cR_i (va_runV (As := [.int v1, .int (1 : Int32)]) (rest := []) ⟨hx, hb, hml, hown, hts⟩ (kX5_isWell (l := l) (D := D) (cI := cI) (cJ := cJ) N b (th := th) (w := w) (h := h) (ms := ms) (mu := mu) (mb := mb) (me := me) (mf := mf) (mt := mt) (mv := mv) (ml := ml) (mk := mk) (p1 := v1) (p2 := (1 : Int32)) hC H.size) (cwV 2 hts gX5_isAllWell_X5_isWell rfl rfl rfl (by decide +kernel) ⟨Nat.le_of_ble_eq_true rfl, Nat.le_of_ble_eq_true rfl⟩) (preV [.int v1, .int (1 : Int32)] hN hK hP hD (ci := 5) (q0 := 0) rfl rfl) rfl rfl hl.1 rfl (lv_room (Nat.le_of_ble_eq_true rfl)) dX5_isAllWell_37 ⟨Nat.le_of_ble_eq_true rfl, Nat.le_of_ble_eq_true rfl⟩) hP hS (fun r u H locs hw hP hS => ?_)
            obtain ⟨hw, hz37⟩ := hw
            rw [hw] at hz37
            rw [hw]
            refine lv_if_ne (tgt := 45) hx hb dX5_isAllWell_40 (by decide) (fun hc => ?_) (fun hc => ?_)
            · replace hM := it_n hc hM
              refine lv_iinc (v := (v1 + 1)) (lv' := [(1, .int (v1 + 1)), (0, .ref (b 0))]) hx hb dX5_isAllWell_45 hl (k := 1) rfl (by rfl) (by decide) rfl (fun ls hl => ?_)
              refine lv_goto (tgt := 2) hx hb dX5_isAllWell_48 (by decide) ?_
              exact ih (v1 + 1) hM H locs ls hP hS (lv_sub hl [1, 0] rfl)
            · replace hM := it_p hc hM
              refine lv_iconst (v := 0) hx hb dX5_isAllWell_43 (by decide) ?_
              obtain rfl := Option.some.inj hM
              subst hQ hAe
              exact W.zret (ty := .boolean) (v := (0 : Int32)) hx hb hr (nb_z (Or.inl rfl)) (fun t ht hW => ⟨⟨(0 : Int32), (), rfl, ⟨rfl, Or.inl rfl⟩, trivial⟩, hS.F ht⟩) hS.2.2 dX5_isAllWell_44
  rw [mX5_isAllWell] at hM
  refine lv_iconst (v := 0) hx hb dX5_isAllWell_0 (by decide) ?_
  refine lv_istore_n (lv' := [(1, .int (0 : Int32)), (0, .ref (b 0))]) hx hb dX5_isAllWell_1 rfl hl (by decide) rfl (fun ls hl => ?_)
  exact c2 N (0 : Int32) hM H locs ls hP hS (lv_sub hl [1, 0] rfl)
def mX5_isOver (N : Nat) (mv : Int32) (ml : Int32) : Option Int32 :=
  (if ml = 0 then
  (if mv = (100 : Int32) then
  some (1 : Int32)
  else
  some (0 : Int32))
  else
  some (1 : Int32))
abbrev rmX5_isOver : Room := { frames := 0, cells := 0, slots := 0, locals := 0 }
set_option maxHeartbeats 4000000 in
set_option maxRecDepth 100000 in
theorem kX5_isOver {l : Launch} {D : va_G} {cI cJ : ClassId} (N : Nat) (b : Nat → Nat) {th : Int32} {w : Int32} {h : Int32} {ms : RowI} {mu : RowI} {mb : RowI} {me : RowI} {mf : RowI} {mt : Int32} {mv : Int32} {ml : Int32} {mk : RowI} {o : Int32} (hM : mX5_isOver N mv ml = some o) (sz : Nat) : Met l yX5_isOver wsX5_isOver rmX5_isOver (va_Pc [.ref (b 0)] (Pre D cI cJ (mw b cI th w h ms mu mb me mf mt mv ml mk) sz)) (va_Qi (fun (r : Int32) (_ : Unit) => r = o ∧ bz r) (fun _ _ => True) (fun _ => False)) 0 0 (fun _ => False) := by
  refine xofR (cc := cX5_isOver) (maxL := 1) (ret := (some .boolean)) rfl (by decide) rfl ?_
  intro p e s m args below meth c ls Q A hQ hAe hx hb hr hml hown hts hlocks hN hK H locs hP hD hS hl
  replace hown : s.vm.findClass RX5 = some m.cls := hown
  replace hl : lv_has ls 1 [(0, .ref (b 0))] := hl
  have iX5 : ∀ w ∈ wsX50, w ∈ wsX5_isOver := by decide +kernel
  have f75 := hts (.fieldLink RX5 75 "CryptSumsModel" "isLong" "Z") (by decide +kernel)
  have f79 := hts (.fieldLink RX5 79 "CryptSumsModel" "ways" "I") (by decide +kernel)
  rw [mX5_isOver] at hM
  refine lv_aload_n hx hb dX5_isOver_0 rfl (lv_at hl 0 rfl) ?_
  refine va_get (D := D) (ci := 5) (v := .int ml) (C := RX5) (T := TX5) (N := 12) hx hb hts iX5 hown hK hP 0 rfl rfl 10 (by decide) f75 (fun _ h9 => h9) rfl dX5_isOver_1 ?_
  refine lv_if_ne (tgt := 16) hx hb dX5_isOver_4 (by decide) (fun hc => ?_) (fun hc => ?_)
  · replace hM := it_n hc hM
    refine lv_iconst (v := 1) hx hb dX5_isOver_16 (by decide) ?_
    refine lv_goto (tgt := 21) hx hb dX5_isOver_17 (by decide) ?_
    obtain rfl := Option.some.inj hM
    subst hQ hAe
    exact W.zret (ty := .boolean) (v := (1 : Int32)) hx hb hr (nb_z (Or.inr rfl)) (fun t ht hW => ⟨⟨(1 : Int32), (), rfl, ⟨rfl, Or.inr rfl⟩, trivial⟩, hS.F ht⟩) hS.2.2 dX5_isOver_21
  · replace hM := it_p hc hM
    refine lv_aload_n hx hb dX5_isOver_7 rfl (lv_at hl 0 rfl) ?_
    refine va_get (D := D) (ci := 5) (v := .int mv) (C := RX5) (T := TX5) (N := 12) hx hb hts iX5 hown hK hP 0 rfl rfl 9 (by decide) f79 (fun _ h9 => h9) rfl dX5_isOver_8 ?_
    refine lv_bipush (v := 100) hx hb dX5_isOver_11 (by decide) ?_
    refine lv_icmp_ne (tgt := 20) hx hb dX5_isOver_13 (by decide) (fun hc => ?_) (fun hc => ?_)
    · replace hM := it_n hc hM
      refine lv_iconst (v := 0) hx hb dX5_isOver_20 (by decide) ?_
      obtain rfl := Option.some.inj hM
      subst hQ hAe
      exact W.zret (ty := .boolean) (v := (0 : Int32)) hx hb hr (nb_z (Or.inl rfl)) (fun t ht hW => ⟨⟨(0 : Int32), (), rfl, ⟨rfl, Or.inl rfl⟩, trivial⟩, hS.F ht⟩) hS.2.2 dX5_isOver_21
    · replace hM := it_p hc hM
      refine lv_iconst (v := 1) hx hb dX5_isOver_16 (by decide) ?_
      refine lv_goto (tgt := 21) hx hb dX5_isOver_17 (by decide) ?_
      obtain rfl := Option.some.inj hM
      subst hQ hAe
      exact W.zret (ty := .boolean) (v := (1 : Int32)) hx hb hr (nb_z (Or.inr rfl)) (fun t ht hW => ⟨⟨(1 : Int32), (), rfl, ⟨rfl, Or.inr rfl⟩, trivial⟩, hS.F ht⟩) hS.2.2 dX5_isOver_21
def mX5_told (N : Nat) (mv : Int32) (ml : Int32) : Option Int32 :=
  (if ml = 0 then
  some mv
  else
  some (-1 : Int32))
abbrev rmX5_told : Room := { frames := 0, cells := 0, slots := 0, locals := 0 }
set_option maxHeartbeats 4000000 in
set_option maxRecDepth 100000 in
theorem kX5_told {l : Launch} {D : va_G} {cI cJ : ClassId} (N : Nat) (b : Nat → Nat) {th : Int32} {w : Int32} {h : Int32} {ms : RowI} {mu : RowI} {mb : RowI} {me : RowI} {mf : RowI} {mt : Int32} {mv : Int32} {ml : Int32} {mk : RowI} {o : Int32} (hM : mX5_told N mv ml = some o) (sz : Nat) : Met l yX5_told wsX5_told rmX5_told (va_Pc [.ref (b 0)] (Pre D cI cJ (mw b cI th w h ms mu mb me mf mt mv ml mk) sz)) (va_Qi (fun (r : Int32) (_ : Unit) => r = o) (fun _ _ => True) (fun _ => False)) 0 0 (fun _ => False) := by
  refine xofR (cc := cX5_told) (maxL := 1) (ret := (some .int)) rfl (by decide) rfl ?_
  intro p e s m args below meth c ls Q A hQ hAe hx hb hr hml hown hts hlocks hN hK H locs hP hD hS hl
  replace hown : s.vm.findClass RX5 = some m.cls := hown
  replace hl : lv_has ls 1 [(0, .ref (b 0))] := hl
  have iX5 : ∀ w ∈ wsX50, w ∈ wsX5_told := by decide +kernel
  have f75 := hts (.fieldLink RX5 75 "CryptSumsModel" "isLong" "Z") (by decide +kernel)
  have f79 := hts (.fieldLink RX5 79 "CryptSumsModel" "ways" "I") (by decide +kernel)
  rw [mX5_told] at hM
  refine lv_aload_n hx hb dX5_told_0 rfl (lv_at hl 0 rfl) ?_
  refine va_get (D := D) (ci := 5) (v := .int ml) (C := RX5) (T := TX5) (N := 12) hx hb hts iX5 hown hK hP 0 rfl rfl 10 (by decide) f75 (fun _ h9 => h9) rfl dX5_told_1 ?_
  refine lv_if_eq (tgt := 11) hx hb dX5_told_4 (by decide) (fun hc => ?_) (fun hc => ?_)
  · replace hM := it_p hc hM
    refine lv_aload_n hx hb dX5_told_11 rfl (lv_at hl 0 rfl) ?_
    refine va_get (D := D) (ci := 5) (v := .int mv) (C := RX5) (T := TX5) (N := 12) hx hb hts iX5 hown hK hP 0 rfl rfl 9 (by decide) f79 (fun _ h9 => h9) rfl dX5_told_12 ?_
    obtain rfl := Option.some.inj hM
    subst hQ hAe
    exact W.iret (v := mv) hx hb hr (fun t ht hW => ⟨⟨mv, (), rfl, rfl, trivial⟩, hS.F ht⟩) hS.2.2 dX5_told_15
  · replace hM := it_n hc hM
    refine lv_iconst (v := -1) hx hb dX5_told_7 (by decide) ?_
    refine lv_goto (tgt := 15) hx hb dX5_told_8 (by decide) ?_
    obtain rfl := Option.some.inj hM
    subst hQ hAe
    exact W.iret (v := (-1 : Int32)) hx hb hr (fun t ht hW => ⟨⟨(-1 : Int32), (), rfl, rfl, trivial⟩, hS.F ht⟩) hS.2.2 dX5_told_15
