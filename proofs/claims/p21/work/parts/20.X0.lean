def mX4_hasNumber (N : Nat) (p1 : Int32) (p2 : Int32) : Option Int32 :=
  (if (p1 &&& ((1 : Int32) <<< (p2 &&& 31))) = 0 then
  some (0 : Int32)
  else
  some (1 : Int32))
abbrev rmX4_hasNumber : Room := { frames := 0, cells := 0, slots := 0, locals := 0 }
set_option maxHeartbeats 4000000 in
set_option maxRecDepth 100000 in
theorem kX4_hasNumber {l : Launch} {D : va_G} {cI cJ : ClassId} (N : Nat) {p1 : Int32} {p2 : Int32} {o : Int32} (hM : mX4_hasNumber N p1 p2 = some o) (sz : Nat) : Met l yX4_hasNumber wsX4_hasNumber rmX4_hasNumber (va_Pc [.int p1, .int p2] (Pre D cI cJ (zw) sz)) (va_Qi (fun (r : Int32) (_ : Unit) => r = o ∧ bz r) (fun _ _ => True) (fun _ => False)) 0 0 (fun _ => False) := by
  refine xofR (cc := cX4_hasNumber) (maxL := 2) (ret := (some .boolean)) rfl (by decide) rfl ?_
  intro p e s m args below meth c ls Q A hQ hAe hx hb hr hml hown hts hlocks hN hK H locs hP hD hS hl
  replace hown : s.vm.findClass RX4 = some m.cls := hown
  replace hl : lv_has ls 2 [(0, .int p1), (1, .int p2)] := hl
  rw [mX4_hasNumber] at hM
  refine lv_iload_n hx hb dX4_hasNumber_0 rfl (lv_at hl 0 rfl) ?_
  refine lv_iconst (v := 1) hx hb dX4_hasNumber_1 (by decide) ?_
  refine lv_iload_n hx hb dX4_hasNumber_2 rfl (lv_at hl 1 rfl) ?_
  refine lv_ishl hx hb dX4_hasNumber_3 ?_
  refine lv_iand hx hb dX4_hasNumber_4 ?_
  refine lv_if_eq (tgt := 12) hx hb dX4_hasNumber_5 (by decide) (fun hcc => ?_) (fun hcc => ?_)
  · replace hM := it_p hcc hM
    refine lv_iconst (v := 0) hx hb dX4_hasNumber_12 (by decide) ?_
    obtain rfl := Option.some.inj hM
    subst hQ hAe
    exact W.zret (ty := .boolean) (v := (0 : Int32)) hx hb hr (nb_z (Or.inl rfl)) (fun t ht hW => ⟨⟨(0 : Int32), (), rfl, ⟨rfl, Or.inl rfl⟩, trivial⟩, hS.F ht⟩) hS.2.2 dX4_hasNumber_13
  · replace hM := it_n hcc hM
    refine lv_iconst (v := 1) hx hb dX4_hasNumber_8 (by decide) ?_
    refine lv_goto (tgt := 13) hx hb dX4_hasNumber_9 (by decide) ?_
    obtain rfl := Option.some.inj hM
    subst hQ hAe
    exact W.zret (ty := .boolean) (v := (1 : Int32)) hx hb hr (nb_z (Or.inr rfl)) (fun t ht hW => ⟨⟨(1 : Int32), (), rfl, ⟨rfl, Or.inr rfl⟩, trivial⟩, hS.F ht⟩) hS.2.2 dX4_hasNumber_13
def mX4_totalOf_4 (N : Nat) (p1 : Int32) : Nat → Int32 → Int32 → Option Int32
  | 0 => fun _ _ => none
  | n + 1 => fun v1 v2 => (if (9 : Int32) < v2 then
  some v1
  else
  ((mX4_hasNumber N p1 v2).bind fun x12 =>
  (if x12 = 0 then
  (mX4_totalOf_4 N p1 n v1 (v2 + 1))
  else
  (mX4_totalOf_4 N p1 n (v1 + v2) (v2 + 1)))))
def mX4_totalOf (N : Nat) (p1 : Int32) : Option Int32 :=
  (mX4_totalOf_4 N p1 N (0 : Int32) (1 : Int32))
abbrev rmX4_totalOf : Room := { frames := 1, cells := 0, slots := 0, locals := 21 }
set_option maxHeartbeats 4000000 in
set_option maxRecDepth 100000 in
theorem kX4_totalOf {l : Launch} {D : va_G} {cI cJ : ClassId} (N : Nat) {p1 : Int32} {o : Int32} (hM : mX4_totalOf N p1 = some o) (sz : Nat) : Met l yX4_totalOf wsX4_totalOf rmX4_totalOf (va_Pc [.int p1] (Pre D cI cJ (zw) sz)) (va_Qi (fun (r : Int32) (_ : Unit) => r = o) (fun _ _ => True) (fun _ => False)) 0 0 (fun _ => False) := by
  refine xofR (cc := cX4_totalOf) (maxL := 3) (ret := (some .int)) rfl (by decide) rfl ?_
  intro p e s m args below meth c ls Q A hQ hAe hx hb hr hml hown hts hlocks hN hK H locs hP hD hS hl
  replace hown : s.vm.findClass RX4 = some m.cls := hown
  replace hl : lv_has ls 3 [(0, .int p1)] := hl
  have c4 : ∀ (n : Nat), ∀ (v1 : Int32) (v2 : Int32), mX4_totalOf_4 N p1 n v1 v2 = some o → ∀ (H : Heap) (locs : List Loc) (ls : Array Slot), va_P D vwCl (zw) H → va_S A s.heap H locs → lv_has ls 3 [(0, .int p1), (1, .int v1), (2, .int v2)] → W p l e rmX4_totalOf s m args below meth c H locs 0 0 Q (F0 m 4 ls []) := by
    intro n
    induction n with
    | zero =>
      intro v1 v2 hM
      rw [mX4_totalOf_4] at hM
      cases hM
    | succ n ih =>
      intro v1 v2 hM H locs ls hP hS hl
      rw [mX4_totalOf_4] at hM
      refine lv_iload_n hx hb dX4_totalOf_4 rfl (lv_at hl 2 rfl) ?_
      refine lv_bipush (v := 9) hx hb dX4_totalOf_5 (by decide) ?_
      refine lv_icmp_gt (tgt := 28) hx hb dX4_totalOf_7 (by decide) (fun hcc => ?_) (fun hcc => ?_)
      · replace hM := it_p hcc hM
        refine lv_iload_n hx hb dX4_totalOf_28 rfl (lv_at hl 1 rfl) ?_
        obtain rfl := Option.some.inj hM
        subst hQ hAe
        exact W.iret (v := v1) hx hb hr (fun t ht hW => ⟨⟨v1, (), rfl, rfl, trivial⟩, hS.F ht⟩) hS.2.2 dX4_totalOf_29
      · replace hM := it_n hcc hM
        refine lv_iload_n hx hb dX4_totalOf_10 rfl (lv_at hl 0 rfl) ?_
        refine lv_iload_n hx hb dX4_totalOf_11 rfl (lv_at hl 2 rfl) ?_
        obtain ⟨x12, hC, hM⟩ := bd_s hM
        refine cR_i (va_runS (As := [.int p1, .int v2]) (rest := []) ⟨hx, hb, hml, hown, hts⟩ (kX4_hasNumber (l := l) (D := D) (cI := cI) (cJ := cJ) N (p1 := p1) (p2 := v2) hC H.size) (va_cwS 2 hts gX4_totalOf_X4_hasNumber rfl rfl rfl (by decide +kernel) ⟨Nat.le_of_ble_eq_true rfl, Nat.le_of_ble_eq_true rfl⟩) (preS [.int p1, .int v2] hN hK hP hD) rfl rfl hl.1 rfl (lv_room (Nat.le_of_ble_eq_true rfl)) dX4_totalOf_12 ⟨Nat.le_of_ble_eq_true rfl, Nat.le_of_ble_eq_true rfl⟩) hP hS (fun r u H locs hw hP hS => ?_)
        obtain ⟨hw, hz12⟩ := hw
        rw [hw] at hz12
        rw [hw]
        refine lv_if_eq (tgt := 22) hx hb dX4_totalOf_15 (by decide) (fun hcc => ?_) (fun hcc => ?_)
        · replace hM := it_p hcc hM
          refine lv_iinc (v := (v2 + 1)) (lv' := [(2, .int (v2 + 1)), (0, .int p1), (1, .int v1)]) hx hb dX4_totalOf_22 hl (k := 2) rfl (by rfl) (by decide) rfl (fun ls hl => ?_)
          refine lv_goto (tgt := 4) hx hb dX4_totalOf_25 (by decide) ?_
          exact ih v1 (v2 + 1) hM H locs ls hP hS (lv_sub hl [1, 2, 0] rfl)
        · replace hM := it_n hcc hM
          refine lv_iload_n hx hb dX4_totalOf_18 rfl (lv_at hl 1 rfl) ?_
          refine lv_iload_n hx hb dX4_totalOf_19 rfl (lv_at hl 2 rfl) ?_
          refine lv_iadd hx hb dX4_totalOf_20 ?_
          refine lv_istore_n (lv' := [(1, .int (v1 + v2)), (0, .int p1), (2, .int v2)]) hx hb dX4_totalOf_21 rfl hl (by decide) rfl (fun ls hl => ?_)
          refine lv_iinc (v := (v2 + 1)) (lv' := [(2, .int (v2 + 1)), (1, .int (v1 + v2)), (0, .int p1)]) hx hb dX4_totalOf_22 hl (k := 2) rfl (by rfl) (by decide) rfl (fun ls hl => ?_)
          refine lv_goto (tgt := 4) hx hb dX4_totalOf_25 (by decide) ?_
          exact ih (v1 + v2) (v2 + 1) hM H locs ls hP hS (lv_sub hl [2, 1, 0] rfl)
  rw [mX4_totalOf] at hM
  refine lv_iconst (v := 0) hx hb dX4_totalOf_0 (by decide) ?_
  refine lv_istore_n (lv' := [(1, .int (0 : Int32)), (0, .int p1)]) hx hb dX4_totalOf_1 rfl hl (by decide) rfl (fun ls hl => ?_)
  refine lv_iconst (v := 1) hx hb dX4_totalOf_2 (by decide) ?_
  refine lv_istore_n (lv' := [(2, .int (1 : Int32)), (1, .int (0 : Int32)), (0, .int p1)]) hx hb dX4_totalOf_3 rfl hl (by decide) rfl (fun ls hl => ?_)
  exact c4 N (0 : Int32) (1 : Int32) hM H locs ls hP hS (lv_sub hl [2, 1, 0] rfl)
def mX4_smallestOf_2 (N : Nat) (p1 : Int32) : Nat → Int32 → Option Int32
  | 0 => fun _ => none
  | n + 1 => fun v1 => (if (9 : Int32) < v1 then
  some (0 : Int32)
  else
  ((mX4_hasNumber N p1 v1).bind fun x10 =>
  (if x10 = 0 then
  (mX4_smallestOf_2 N p1 n (v1 + 1))
  else
  some v1)))
def mX4_smallestOf (N : Nat) (p1 : Int32) : Option Int32 :=
  (mX4_smallestOf_2 N p1 N (1 : Int32))
abbrev rmX4_smallestOf : Room := { frames := 1, cells := 0, slots := 0, locals := 21 }
set_option maxHeartbeats 4000000 in
set_option maxRecDepth 100000 in
theorem kX4_smallestOf {l : Launch} {D : va_G} {cI cJ : ClassId} (N : Nat) {p1 : Int32} {o : Int32} (hM : mX4_smallestOf N p1 = some o) (sz : Nat) : Met l yX4_smallestOf wsX4_smallestOf rmX4_smallestOf (va_Pc [.int p1] (Pre D cI cJ (zw) sz)) (va_Qi (fun (r : Int32) (_ : Unit) => r = o) (fun _ _ => True) (fun _ => False)) 0 0 (fun _ => False) := by
  refine xofR (cc := cX4_smallestOf) (maxL := 2) (ret := (some .int)) rfl (by decide) rfl ?_
  intro p e s m args below meth c ls Q A hQ hAe hx hb hr hml hown hts hlocks hN hK H locs hP hD hS hl
  replace hown : s.vm.findClass RX4 = some m.cls := hown
  replace hl : lv_has ls 2 [(0, .int p1)] := hl
  have c2 : ∀ (n : Nat), ∀ (v1 : Int32), mX4_smallestOf_2 N p1 n v1 = some o → ∀ (H : Heap) (locs : List Loc) (ls : Array Slot), va_P D vwCl (zw) H → va_S A s.heap H locs → lv_has ls 2 [(0, .int p1), (1, .int v1)] → W p l e rmX4_smallestOf s m args below meth c H locs 0 0 Q (F0 m 2 ls []) := by
    intro n
    induction n with
    | zero =>
      intro v1 hM
      rw [mX4_smallestOf_2] at hM
      cases hM
    | succ n ih =>
      intro v1 hM H locs ls hP hS hl
      rw [mX4_smallestOf_2] at hM
      refine lv_iload_n hx hb dX4_smallestOf_2 rfl (lv_at hl 1 rfl) ?_
      refine lv_bipush (v := 9) hx hb dX4_smallestOf_3 (by decide) ?_
      refine lv_icmp_gt (tgt := 24) hx hb dX4_smallestOf_5 (by decide) (fun hcc => ?_) (fun hcc => ?_)
      · replace hM := it_p hcc hM
        refine lv_iconst (v := 0) hx hb dX4_smallestOf_24 (by decide) ?_
        obtain rfl := Option.some.inj hM
        subst hQ hAe
        exact W.iret (v := (0 : Int32)) hx hb hr (fun t ht hW => ⟨⟨(0 : Int32), (), rfl, rfl, trivial⟩, hS.F ht⟩) hS.2.2 dX4_smallestOf_25
      · replace hM := it_n hcc hM
        refine lv_iload_n hx hb dX4_smallestOf_8 rfl (lv_at hl 0 rfl) ?_
        refine lv_iload_n hx hb dX4_smallestOf_9 rfl (lv_at hl 1 rfl) ?_
        obtain ⟨x10, hC, hM⟩ := bd_s hM
        refine cR_i (va_runS (As := [.int p1, .int v1]) (rest := []) ⟨hx, hb, hml, hown, hts⟩ (kX4_hasNumber (l := l) (D := D) (cI := cI) (cJ := cJ) N (p1 := p1) (p2 := v1) hC H.size) (va_cwS 2 hts gX4_smallestOf_X4_hasNumber rfl rfl rfl (by decide +kernel) ⟨Nat.le_of_ble_eq_true rfl, Nat.le_of_ble_eq_true rfl⟩) (preS [.int p1, .int v1] hN hK hP hD) rfl rfl hl.1 rfl (lv_room (Nat.le_of_ble_eq_true rfl)) dX4_smallestOf_10 ⟨Nat.le_of_ble_eq_true rfl, Nat.le_of_ble_eq_true rfl⟩) hP hS (fun r u H locs hw hP hS => ?_)
        obtain ⟨hw, hz10⟩ := hw
        rw [hw] at hz10
        rw [hw]
        refine lv_if_eq (tgt := 18) hx hb dX4_smallestOf_13 (by decide) (fun hcc => ?_) (fun hcc => ?_)
        · replace hM := it_p hcc hM
          refine lv_iinc (v := (v1 + 1)) (lv' := [(1, .int (v1 + 1)), (0, .int p1)]) hx hb dX4_smallestOf_18 hl (k := 1) rfl (by rfl) (by decide) rfl (fun ls hl => ?_)
          refine lv_goto (tgt := 2) hx hb dX4_smallestOf_21 (by decide) ?_
          exact ih (v1 + 1) hM H locs ls hP hS (lv_sub hl [1, 0] rfl)
        · replace hM := it_n hcc hM
          refine lv_iload_n hx hb dX4_smallestOf_16 rfl (lv_at hl 1 rfl) ?_
          obtain rfl := Option.some.inj hM
          subst hQ hAe
          exact W.iret (v := v1) hx hb hr (fun t ht hW => ⟨⟨v1, (), rfl, rfl, trivial⟩, hS.F ht⟩) hS.2.2 dX4_smallestOf_17
  rw [mX4_smallestOf] at hM
  refine lv_iconst (v := 1) hx hb dX4_smallestOf_0 (by decide) ?_
  refine lv_istore_n (lv' := [(1, .int (1 : Int32)), (0, .int p1)]) hx hb dX4_smallestOf_1 rfl hl (by decide) rfl (fun ls hl => ?_)
  exact c2 N (1 : Int32) hM H locs ls hP hS (lv_sub hl [1, 0] rfl)
def mX4_isPartition (N : Nat) (p1 : Int32) (p2 : Int32) (p3 : Int32) : Option Int32 :=
  (if (bc p1) = p2 then
  ((mX4_totalOf N p1).bind fun x9 =>
  (if x9 = p3 then
  some (1 : Int32)
  else
  some (0 : Int32)))
  else
  some (0 : Int32))
abbrev rmX4_isPartition : Room := { frames := 2, cells := 0, slots := 0, locals := 43 }
set_option maxHeartbeats 4000000 in
set_option maxRecDepth 100000 in
theorem kX4_isPartition {l : Launch} {D : va_G} {cI cJ : ClassId} (N : Nat) {p1 : Int32} {p2 : Int32} {p3 : Int32} {o : Int32} (hM : mX4_isPartition N p1 p2 p3 = some o) (sz : Nat) : Met l yX4_isPartition wsX4_isPartition rmX4_isPartition (va_Pc [.int p1, .int p2, .int p3] (Pre D cI cJ (zw) sz)) (va_Qi (fun (r : Int32) (_ : Unit) => r = o ∧ bz r) (fun _ _ => True) (fun _ => False)) 0 0 (fun _ => False) := by
  refine xofR (cc := cX4_isPartition) (maxL := 3) (ret := (some .boolean)) rfl (by decide) rfl ?_
  intro p e s m args below meth c ls Q A hQ hAe hx hb hr hml hown hts hlocks hN hK H locs hP hD hS hl
  replace hown : s.vm.findClass RX4 = some m.cls := hown
  replace hl : lv_has ls 3 [(0, .int p1), (1, .int p2), (2, .int p3)] := hl
  rw [mX4_isPartition] at hM
  refine lv_iload_n hx hb dX4_isPartition_0 rfl (lv_at hl 0 rfl) ?_
  refine cR_i (va_runS (As := [.int p1]) (rest := []) ⟨hx, hb, hml, hown, hts⟩ (kJ6_bitCount (D := D) (cI := cI) (cJ := cJ) p1 H.size) (va_cwS 1 hts gX4_isPartition_J6_bitCount_0f7a4 rfl rfl rfl (by decide +kernel) ⟨Nat.le_of_ble_eq_true rfl, Nat.le_of_ble_eq_true rfl⟩) (preS [.int p1] hN hK (hP.sub (ws' := zw) [] rfl) (hD.sub (ws' := zw) [] (by decide) rfl)) rfl rfl hl.1 rfl (lv_room (Nat.le_of_ble_eq_true rfl)) dX4_isPartition_1 ⟨Nat.le_of_ble_eq_true rfl, Nat.le_of_ble_eq_true rfl⟩) hP hS (fun r u H locs hw hP hS => ?_)
  rw [hw]
  refine lv_iload_n hx hb dX4_isPartition_4 rfl (lv_at hl 1 rfl) ?_
  refine lv_icmp_ne (tgt := 20) hx hb dX4_isPartition_5 (by decide) (fun hcc => ?_) (fun hcc => ?_)
  · replace hM := it_n hcc hM
    refine lv_iconst (v := 0) hx hb dX4_isPartition_20 (by decide) ?_
    obtain rfl := Option.some.inj hM
    subst hQ hAe
    exact W.zret (ty := .boolean) (v := (0 : Int32)) hx hb hr (nb_z (Or.inl rfl)) (fun t ht hW => ⟨⟨(0 : Int32), (), rfl, ⟨rfl, Or.inl rfl⟩, trivial⟩, hS.F ht⟩) hS.2.2 dX4_isPartition_21
  · replace hM := it_p hcc hM
    refine lv_iload_n hx hb dX4_isPartition_8 rfl (lv_at hl 0 rfl) ?_
    obtain ⟨x9, hC, hM⟩ := bd_s hM
    refine cR_i (va_runS (As := [.int p1]) (rest := []) ⟨hx, hb, hml, hown, hts⟩ (kX4_totalOf (l := l) (D := D) (cI := cI) (cJ := cJ) N (p1 := p1) hC H.size) (va_cwS 1 hts gX4_isPartition_X4_totalOf rfl rfl rfl (by decide +kernel) ⟨Nat.le_of_ble_eq_true rfl, Nat.le_of_ble_eq_true rfl⟩) (preS [.int p1] hN hK hP hD) rfl rfl hl.1 rfl (lv_room (Nat.le_of_ble_eq_true rfl)) dX4_isPartition_9 ⟨Nat.le_of_ble_eq_true rfl, Nat.le_of_ble_eq_true rfl⟩) hP hS (fun r u H locs hw hP hS => ?_)
    rw [hw]
    refine lv_iload_n hx hb dX4_isPartition_12 rfl (lv_at hl 2 rfl) ?_
    refine lv_icmp_ne (tgt := 20) hx hb dX4_isPartition_13 (by decide) (fun hcc => ?_) (fun hcc => ?_)
    · replace hM := it_n hcc hM
      refine lv_iconst (v := 0) hx hb dX4_isPartition_20 (by decide) ?_
      obtain rfl := Option.some.inj hM
      subst hQ hAe
      exact W.zret (ty := .boolean) (v := (0 : Int32)) hx hb hr (nb_z (Or.inl rfl)) (fun t ht hW => ⟨⟨(0 : Int32), (), rfl, ⟨rfl, Or.inl rfl⟩, trivial⟩, hS.F ht⟩) hS.2.2 dX4_isPartition_21
    · replace hM := it_p hcc hM
      refine lv_iconst (v := 1) hx hb dX4_isPartition_16 (by decide) ?_
      refine lv_goto (tgt := 21) hx hb dX4_isPartition_17 (by decide) ?_
      obtain rfl := Option.some.inj hM
      subst hQ hAe
      exact W.zret (ty := .boolean) (v := (1 : Int32)) hx hb hr (nb_z (Or.inr rfl)) (fun t ht hW => ⟨⟨(1 : Int32), (), rfl, ⟨rfl, Or.inr rfl⟩, trivial⟩, hS.F ht⟩) hS.2.2 dX4_isPartition_21
def mX4_stir (N : Nat) (p1 : Int64) (p2 : Int32) : Option Int64 :=
  some ((p1 * (31 : Int64)) + (p2.toInt64))
abbrev rmX4_stir : Room := { frames := 0, cells := 0, slots := 0, locals := 0 }
set_option maxHeartbeats 4000000 in
set_option maxRecDepth 100000 in
theorem kX4_stir {l : Launch} {D : va_G} {cI cJ : ClassId} (N : Nat) {p1 : Int64} {p2 : Int32} {o : Int64} (hM : mX4_stir N p1 p2 = some o) (sz : Nat) : Met l yX4_stir wsX4_stir rmX4_stir (va_Pc [.long p1, .int p2] (Pre D cI cJ (zw) sz)) (va_Ql (fun (r : Int64) (_ : Unit) => r = o) (fun _ _ => True) (fun _ => False)) 0 0 (fun _ => False) := by
  refine xofR (cc := cX4_stir) (maxL := 3) (ret := (some .long)) rfl (by decide) rfl ?_
  intro p e s m args below meth c ls Q A hQ hAe hx hb hr hml hown hts hlocks hN hK H locs hP hD hS hl
  replace hown : s.vm.findClass RX4 = some m.cls := hown
  replace hl : lv_has ls 3 [(0, .long p1), (2, .int p2)] := hl
  rw [mX4_stir] at hM
  refine lv_lload_n hx hb dX4_stir_0 rfl (lv_at hl 0 rfl) ?_
  refine lv_ldc2 (v := (31 : Int64)) hx hb hown (hts (.constantLong RX4 144 (31)) (by decide +kernel)) dX4_stir_1 ?_
  refine lv_lmul hx hb dX4_stir_4 ?_
  refine lv_iload_n hx hb dX4_stir_5 rfl (lv_at hl 1 rfl) ?_
  refine lv_i2l (v := p2.toInt64) hx hb dX4_stir_6 rfl ?_
  refine lv_ladd hx hb dX4_stir_7 ?_
  obtain rfl := Option.some.inj hM
  subst hQ hAe
  exact W.lret (v := ((p1 * (31 : Int64)) + (p2.toInt64))) hx hb hr (fun t ht hW => ⟨⟨((p1 * (31 : Int64)) + (p2.toInt64)), (), rfl, rfl, trivial⟩, hS.F ht⟩) hS.2.2 dX4_stir_8
def mX2_make (N : Nat) (su : RowJ) (p1 : Int32) (p2 : Int32) (p3 : Int32) : Option Int32 :=
  (if p2 < 0 then
  some (0 : Int32)
  else
  (if (7 : Int32) ≤ p2 then
  some (0 : Int32)
  else
  (if p3 < 0 then
  some (0 : Int32)
  else
  (if p3 ≤ (45 : Int32) then
  (if (((p1 >>> ((1 : Int32) &&& 31)) * (7 : Int32)) + p2) < 0 then
  some (0 : Int32)
  else
  (if (3584 : Int32) ≤ (((p1 >>> ((1 : Int32) &&& 31)) * (7 : Int32)) + p2) then
  some (0 : Int32)
  else
  (if bad (((p1 >>> ((1 : Int32) &&& 31)) * (7 : Int32)) + p2) 3584 then none else
  (if (lg_cmp (((su (((p1 >>> ((1 : Int32) &&& 31)) * (7 : Int32)) + p2).toNatClampNeg) >>> (p3.toInt64 &&& 63)) &&& (1 : Int64)) (0 : Int64)) = 0 then
  some (0 : Int32)
  else
  some (1 : Int32)))))
  else
  some (0 : Int32)))))
abbrev rmX2_make : Room := { frames := 0, cells := 0, slots := 0, locals := 0 }
set_option maxHeartbeats 4000000 in
set_option maxRecDepth 100000 in
theorem kX2_make {l : Launch} {D : va_G} {cI cJ : ClassId} (N : Nat) (a : Nat → Nat) {su : RowJ} {p1 : Int32} {p2 : Int32} {p3 : Int32} {o : Int32} (hM : mX2_make N su p1 p2 p3 = some o) (sz : Nat) : Met l yX2_make wsX2_make rmX2_make (va_Pc [.ref (a 10), .int p1, .int p2, .int p3] (Pre D cI cJ (pw a cI cJ su) sz)) (va_Qi (fun (r : Int32) (_ : Unit) => r = o ∧ bz r) (fun _ _ => True) (fun _ => False)) 0 0 (fun _ => False) := by
  refine xofR (cc := cX2_make) (maxL := 5) (ret := (some .boolean)) rfl (by decide) rfl ?_
  intro p e s m args below meth c ls Q A hQ hAe hx hb hr hml hown hts hlocks hN hK H locs hP hD hS hl
  replace hown : s.vm.findClass RX2 = some m.cls := hown
  replace hl : lv_has ls 5 [(0, .ref (a 10)), (1, .int p1), (2, .int p2), (3, .int p3)] := hl
  have iX2 : ∀ w ∈ wsX20, w ∈ wsX2_make := by decide +kernel
  have f11 := hts (.fieldLink RX2 11 "CryptSums$Partitions" "sums" "[J") (by decide +kernel)
  rw [mX2_make] at hM
  refine lv_iload_n hx hb dX2_make_0 rfl (lv_at hl 2 rfl) ?_
  refine lv_if_lt (tgt := 20) hx hb dX2_make_1 (by decide) (fun hcc => ?_) (fun hcc => ?_)
  · replace hM := it_p hcc hM
    refine lv_iconst (v := 0) hx hb dX2_make_20 (by decide) ?_
    obtain rfl := Option.some.inj hM
    subst hQ hAe
    exact W.zret (ty := .boolean) (v := (0 : Int32)) hx hb hr (nb_z (Or.inl rfl)) (fun t ht hW => ⟨⟨(0 : Int32), (), rfl, ⟨rfl, Or.inl rfl⟩, trivial⟩, hS.F ht⟩) hS.2.2 dX2_make_21
  · replace hM := it_n hcc hM
    refine lv_iload_n hx hb dX2_make_4 rfl (lv_at hl 2 rfl) ?_
    refine lv_bipush (v := 7) hx hb dX2_make_5 (by decide) ?_
    refine lv_icmp_ge (tgt := 20) hx hb dX2_make_7 (by decide) (fun hcc => ?_) (fun hcc => ?_)
    · replace hM := it_p hcc hM
      refine lv_iconst (v := 0) hx hb dX2_make_20 (by decide) ?_
      obtain rfl := Option.some.inj hM
      subst hQ hAe
      exact W.zret (ty := .boolean) (v := (0 : Int32)) hx hb hr (nb_z (Or.inl rfl)) (fun t ht hW => ⟨⟨(0 : Int32), (), rfl, ⟨rfl, Or.inl rfl⟩, trivial⟩, hS.F ht⟩) hS.2.2 dX2_make_21
    · replace hM := it_n hcc hM
      refine lv_iload_n hx hb dX2_make_10 rfl (lv_at hl 3 rfl) ?_
      refine lv_if_lt (tgt := 20) hx hb dX2_make_11 (by decide) (fun hcc => ?_) (fun hcc => ?_)
      · replace hM := it_p hcc hM
        refine lv_iconst (v := 0) hx hb dX2_make_20 (by decide) ?_
        obtain rfl := Option.some.inj hM
        subst hQ hAe
        exact W.zret (ty := .boolean) (v := (0 : Int32)) hx hb hr (nb_z (Or.inl rfl)) (fun t ht hW => ⟨⟨(0 : Int32), (), rfl, ⟨rfl, Or.inl rfl⟩, trivial⟩, hS.F ht⟩) hS.2.2 dX2_make_21
      · replace hM := it_n hcc hM
        refine lv_iload_n hx hb dX2_make_14 rfl (lv_at hl 3 rfl) ?_
        refine lv_bipush (v := 45) hx hb dX2_make_15 (by decide) ?_
        refine lv_icmp_le (tgt := 22) hx hb dX2_make_17 (by decide) (fun hcc => ?_) (fun hcc => ?_)
        · replace hM := it_p hcc hM
          refine lv_iload_n hx hb dX2_make_22 rfl (lv_at hl 1 rfl) ?_
          refine lv_iconst (v := 1) hx hb dX2_make_23 (by decide) ?_
          refine lv_ishr hx hb dX2_make_24 ?_
          refine lv_bipush (v := 7) hx hb dX2_make_25 (by decide) ?_
          refine lv_imul hx hb dX2_make_27 ?_
          refine lv_iload_n hx hb dX2_make_28 rfl (lv_at hl 2 rfl) ?_
          refine lv_iadd hx hb dX2_make_29 ?_
          refine lv_istore (lv' := [(4, .int (((p1 >>> ((1 : Int32) &&& 31)) * (7 : Int32)) + p2)), (0, .ref (a 10)), (1, .int p1), (2, .int p2), (3, .int p3)]) hx hb dX2_make_30 hl (by decide) rfl (fun ls hl => ?_)
          refine lv_iload hx hb dX2_make_32 (lv_at hl 0 rfl) ?_
          refine lv_if_lt (tgt := 67) hx hb dX2_make_34 (by decide) (fun hcc => ?_) (fun hcc => ?_)
          · replace hM := it_p hcc hM
            refine lv_iconst (v := 0) hx hb dX2_make_67 (by decide) ?_
            obtain rfl := Option.some.inj hM
            subst hQ hAe
            exact W.zret (ty := .boolean) (v := (0 : Int32)) hx hb hr (nb_z (Or.inl rfl)) (fun t ht hW => ⟨⟨(0 : Int32), (), rfl, ⟨rfl, Or.inl rfl⟩, trivial⟩, hS.F ht⟩) hS.2.2 dX2_make_68
          · replace hM := it_n hcc hM
            refine lv_iload hx hb dX2_make_37 (lv_at hl 0 rfl) ?_
            refine lv_aload_n hx hb dX2_make_39 rfl (lv_at hl 1 rfl) ?_
            refine va_get (D := D) (ci := 2) (v := .ref (a 11)) (C := RX2) (T := TX2) (N := 1) hx hb hts iX2 hown hK hP 0 rfl rfl 0 (by decide) f11 (fun _ h9 => h9) rfl dX2_make_40 ?_
            refine va_alen (D := D) (v := 3584) hx hb hK hP 1 1 rfl rfl rfl dX2_make_43 ?_
            refine lv_icmp_ge (tgt := 67) hx hb dX2_make_44 (by decide) (fun hcc => ?_) (fun hcc => ?_)
            · replace hM := it_p hcc hM
              refine lv_iconst (v := 0) hx hb dX2_make_67 (by decide) ?_
              obtain rfl := Option.some.inj hM
              subst hQ hAe
              exact W.zret (ty := .boolean) (v := (0 : Int32)) hx hb hr (nb_z (Or.inl rfl)) (fun t ht hW => ⟨⟨(0 : Int32), (), rfl, ⟨rfl, Or.inl rfl⟩, trivial⟩, hS.F ht⟩) hS.2.2 dX2_make_68
            · replace hM := it_n hcc hM
              refine lv_aload_n hx hb dX2_make_47 rfl (lv_at hl 1 rfl) ?_
              refine va_get (D := D) (ci := 2) (v := .ref (a 11)) (C := RX2) (T := TX2) (N := 1) hx hb hts iX2 hown hK hP 0 rfl rfl 0 (by decide) f11 (fun _ h9 => h9) rfl dX2_make_48 ?_
              refine lv_iload hx hb dX2_make_51 (lv_at hl 0 rfl) ?_
              obtain ⟨hb53, hM⟩ := it_x hM
              refine va_lald (D := D) hx hb hK hP 1 1 rfl rfl hb53 dX2_make_53 ?_
              refine lv_iload_n hx hb dX2_make_54 rfl (lv_at hl 4 rfl) ?_
              refine lv_lshr (v := ((su (((p1 >>> ((1 : Int32) &&& 31)) * (7 : Int32)) + p2).toNatClampNeg) >>> (p3.toInt64 &&& 63))) hx hb dX2_make_55 rfl ?_
              refine lv_lconst (v := 1) hx hb dX2_make_56 (by decide) ?_
              refine lv_land hx hb dX2_make_57 ?_
              refine lv_lconst (v := 0) hx hb dX2_make_58 (by decide) ?_
              refine W.lcmp hx hb dX2_make_59 ?_
              refine lv_if_eq (tgt := 67) hx hb dX2_make_60 (by decide) (fun hcc => ?_) (fun hcc => ?_)
              · replace hM := it_p hcc hM
                refine lv_iconst (v := 0) hx hb dX2_make_67 (by decide) ?_
                obtain rfl := Option.some.inj hM
                subst hQ hAe
                exact W.zret (ty := .boolean) (v := (0 : Int32)) hx hb hr (nb_z (Or.inl rfl)) (fun t ht hW => ⟨⟨(0 : Int32), (), rfl, ⟨rfl, Or.inl rfl⟩, trivial⟩, hS.F ht⟩) hS.2.2 dX2_make_68
              · replace hM := it_n hcc hM
                refine lv_iconst (v := 1) hx hb dX2_make_63 (by decide) ?_
                refine lv_goto (tgt := 68) hx hb dX2_make_64 (by decide) ?_
                obtain rfl := Option.some.inj hM
                subst hQ hAe
                exact W.zret (ty := .boolean) (v := (1 : Int32)) hx hb hr (nb_z (Or.inr rfl)) (fun t ht hW => ⟨⟨(1 : Int32), (), rfl, ⟨rfl, Or.inr rfl⟩, trivial⟩, hS.F ht⟩) hS.2.2 dX2_make_68
        · replace hM := it_n hcc hM
          refine lv_iconst (v := 0) hx hb dX2_make_20 (by decide) ?_
          obtain rfl := Option.some.inj hM
          subst hQ hAe
          exact W.zret (ty := .boolean) (v := (0 : Int32)) hx hb hr (nb_z (Or.inl rfl)) (fun t ht hW => ⟨⟨(0 : Int32), (), rfl, ⟨rfl, Or.inl rfl⟩, trivial⟩, hS.F ht⟩) hS.2.2 dX2_make_21
def mX2_sumsOf (N : Nat) (su : RowJ) (p1 : Int32) (p2 : Int32) : Option Int64 :=
  (if (((p1 >>> ((1 : Int32) &&& 31)) * (7 : Int32)) + p2) < 0 then
  some (0 : Int64)
  else
  (if (3584 : Int32) ≤ (((p1 >>> ((1 : Int32) &&& 31)) * (7 : Int32)) + p2) then
  some (0 : Int64)
  else
  (if bad (((p1 >>> ((1 : Int32) &&& 31)) * (7 : Int32)) + p2) 3584 then none else
  some (su (((p1 >>> ((1 : Int32) &&& 31)) * (7 : Int32)) + p2).toNatClampNeg))))
abbrev rmX2_sumsOf : Room := { frames := 0, cells := 0, slots := 0, locals := 0 }
set_option maxHeartbeats 4000000 in
set_option maxRecDepth 100000 in
theorem kX2_sumsOf {l : Launch} {D : va_G} {cI cJ : ClassId} (N : Nat) (a : Nat → Nat) {su : RowJ} {p1 : Int32} {p2 : Int32} {o : Int64} (hM : mX2_sumsOf N su p1 p2 = some o) (sz : Nat) : Met l yX2_sumsOf wsX2_sumsOf rmX2_sumsOf (va_Pc [.ref (a 10), .int p1, .int p2] (Pre D cI cJ (pw a cI cJ su) sz)) (va_Ql (fun (r : Int64) (_ : Unit) => r = o) (fun _ _ => True) (fun _ => False)) 0 0 (fun _ => False) := by
  refine xofR (cc := cX2_sumsOf) (maxL := 4) (ret := (some .long)) rfl (by decide) rfl ?_
  intro p e s m args below meth c ls Q A hQ hAe hx hb hr hml hown hts hlocks hN hK H locs hP hD hS hl
  replace hown : s.vm.findClass RX2 = some m.cls := hown
  replace hl : lv_has ls 4 [(0, .ref (a 10)), (1, .int p1), (2, .int p2)] := hl
  have iX2 : ∀ w ∈ wsX20, w ∈ wsX2_sumsOf := by decide +kernel
  have f11 := hts (.fieldLink RX2 11 "CryptSums$Partitions" "sums" "[J") (by decide +kernel)
  rw [mX2_sumsOf] at hM
  refine lv_iload_n hx hb dX2_sumsOf_0 rfl (lv_at hl 1 rfl) ?_
  refine lv_iconst (v := 1) hx hb dX2_sumsOf_1 (by decide) ?_
  refine lv_ishr hx hb dX2_sumsOf_2 ?_
  refine lv_bipush (v := 7) hx hb dX2_sumsOf_3 (by decide) ?_
  refine lv_imul hx hb dX2_sumsOf_5 ?_
  refine lv_iload_n hx hb dX2_sumsOf_6 rfl (lv_at hl 2 rfl) ?_
  refine lv_iadd hx hb dX2_sumsOf_7 ?_
  refine lv_istore_n (lv' := [(3, .int (((p1 >>> ((1 : Int32) &&& 31)) * (7 : Int32)) + p2)), (0, .ref (a 10)), (1, .int p1), (2, .int p2)]) hx hb dX2_sumsOf_8 rfl hl (by decide) rfl (fun ls hl => ?_)
  refine lv_iload_n hx hb dX2_sumsOf_9 rfl (lv_at hl 0 rfl) ?_
  refine lv_if_lt (tgt := 31) hx hb dX2_sumsOf_10 (by decide) (fun hcc => ?_) (fun hcc => ?_)
  · replace hM := it_p hcc hM
    refine lv_lconst (v := 0) hx hb dX2_sumsOf_31 (by decide) ?_
    obtain rfl := Option.some.inj hM
    subst hQ hAe
    exact W.lret (v := (0 : Int64)) hx hb hr (fun t ht hW => ⟨⟨(0 : Int64), (), rfl, rfl, trivial⟩, hS.F ht⟩) hS.2.2 dX2_sumsOf_32
  · replace hM := it_n hcc hM
    refine lv_iload_n hx hb dX2_sumsOf_13 rfl (lv_at hl 0 rfl) ?_
    refine lv_aload_n hx hb dX2_sumsOf_14 rfl (lv_at hl 1 rfl) ?_
    refine va_get (D := D) (ci := 2) (v := .ref (a 11)) (C := RX2) (T := TX2) (N := 1) hx hb hts iX2 hown hK hP 0 rfl rfl 0 (by decide) f11 (fun _ h9 => h9) rfl dX2_sumsOf_15 ?_
    refine va_alen (D := D) (v := 3584) hx hb hK hP 1 1 rfl rfl rfl dX2_sumsOf_18 ?_
    refine lv_icmp_ge (tgt := 31) hx hb dX2_sumsOf_19 (by decide) (fun hcc => ?_) (fun hcc => ?_)
    · replace hM := it_p hcc hM
      refine lv_lconst (v := 0) hx hb dX2_sumsOf_31 (by decide) ?_
      obtain rfl := Option.some.inj hM
      subst hQ hAe
      exact W.lret (v := (0 : Int64)) hx hb hr (fun t ht hW => ⟨⟨(0 : Int64), (), rfl, rfl, trivial⟩, hS.F ht⟩) hS.2.2 dX2_sumsOf_32
    · replace hM := it_n hcc hM
      refine lv_aload_n hx hb dX2_sumsOf_22 rfl (lv_at hl 1 rfl) ?_
      refine va_get (D := D) (ci := 2) (v := .ref (a 11)) (C := RX2) (T := TX2) (N := 1) hx hb hts iX2 hown hK hP 0 rfl rfl 0 (by decide) f11 (fun _ h9 => h9) rfl dX2_sumsOf_23 ?_
      refine lv_iload_n hx hb dX2_sumsOf_26 rfl (lv_at hl 0 rfl) ?_
      obtain ⟨hb27, hM⟩ := it_x hM
      refine va_lald (D := D) hx hb hK hP 1 1 rfl rfl hb27 dX2_sumsOf_27 ?_
      refine lv_goto (tgt := 32) hx hb dX2_sumsOf_28 (by decide) ?_
      obtain rfl := Option.some.inj hM
      subst hQ hAe
      exact W.lret (v := (su (((p1 >>> ((1 : Int32) &&& 31)) * (7 : Int32)) + p2).toNatClampNeg)) hx hb hr (fun t ht hW => ⟨⟨(su (((p1 >>> ((1 : Int32) &&& 31)) * (7 : Int32)) + p2).toNatClampNeg), (), rfl, rfl, trivial⟩, hS.F ht⟩) hS.2.2 dX2_sumsOf_32
def mX2_keepSums (N : Nat) (su : RowJ) (p1 : Int32) (p2 : Int32) (p3 : Int64) : Option RowJ :=
  (if (((p1 >>> ((1 : Int32) &&& 31)) * (7 : Int32)) + p2) < 0 then
  some su
  else
  (if (3584 : Int32) ≤ (((p1 >>> ((1 : Int32) &&& 31)) * (7 : Int32)) + p2) then
  some su
  else
  (if bad (((p1 >>> ((1 : Int32) &&& 31)) * (7 : Int32)) + p2) 3584 then none else
  some (vp_updL su (((p1 >>> ((1 : Int32) &&& 31)) * (7 : Int32)) + p2).toNatClampNeg p3))))
abbrev rmX2_keepSums : Room := { frames := 0, cells := 0, slots := 0, locals := 0 }
set_option maxHeartbeats 4000000 in
set_option maxRecDepth 100000 in
theorem kX2_keepSums {l : Launch} {D : va_G} {cI cJ : ClassId} (N : Nat) (a : Nat → Nat) {su : RowJ} {p1 : Int32} {p2 : Int32} {p3 : Int64} {o : RowJ} (hM : mX2_keepSums N su p1 p2 p3 = some o) (sz : Nat) : Met l yX2_keepSums wsX2_keepSums rmX2_keepSums (va_Pc [.ref (a 10), .int p1, .int p2, .long p3] (Pre D cI cJ (pw a cI cJ su) sz)) (va_Qv (fun (_ : Unit) => True) (aft D (pw a cI cJ su) sz (fun (_ : Unit) => (pw a cI cJ o))) (va_A (pw a cI cJ su) sz)) 0 0 (va_A (pw a cI cJ su) sz) := by
  refine xofW (cc := cX2_keepSums) (maxL := 6) (ret := none) rfl (by decide) rfl ?_
  intro p e s m args below meth c ls Q A hQ hAe hx hb hr hml hown hts hlocks hnm hN hK H locs hP hD hS hA hl
  replace hown : s.vm.findClass RX2 = some m.cls := hown
  replace hl : lv_has ls 6 [(0, .ref (a 10)), (1, .int p1), (2, .int p2), (3, .long p3)] := hl
  have iX2 : ∀ w ∈ wsX20, w ∈ wsX2_keepSums := by decide +kernel
  have f11 := hts (.fieldLink RX2 11 "CryptSums$Partitions" "sums" "[J") (by decide +kernel)
  rw [mX2_keepSums] at hM
  refine lv_iload_n hx hb dX2_keepSums_0 rfl (lv_at hl 1 rfl) ?_
  refine lv_iconst (v := 1) hx hb dX2_keepSums_1 (by decide) ?_
  refine lv_ishr hx hb dX2_keepSums_2 ?_
  refine lv_bipush (v := 7) hx hb dX2_keepSums_3 (by decide) ?_
  refine lv_imul hx hb dX2_keepSums_5 ?_
  refine lv_iload_n hx hb dX2_keepSums_6 rfl (lv_at hl 2 rfl) ?_
  refine lv_iadd hx hb dX2_keepSums_7 ?_
  refine lv_istore (lv' := [(5, .int (((p1 >>> ((1 : Int32) &&& 31)) * (7 : Int32)) + p2)), (0, .ref (a 10)), (1, .int p1), (2, .int p2), (3, .long p3)]) hx hb dX2_keepSums_8 hl (by decide) rfl (fun ls hl => ?_)
  refine lv_iload hx hb dX2_keepSums_10 (lv_at hl 0 rfl) ?_
  refine lv_if_lt (tgt := 33) hx hb dX2_keepSums_12 (by decide) (fun hcc => ?_) (fun hcc => ?_)
  · replace hM := it_p hcc hM
    obtain rfl := Option.some.inj hM
    subst hQ hAe
    exact W.vret hx hb hr (fun t ht hW => ⟨⟨(), rfl, trivial, ⟨by rw [ht]; exact hP, hD⟩⟩, hS.F ht⟩) hS.2.2 dX2_keepSums_33
  · replace hM := it_n hcc hM
    refine lv_iload hx hb dX2_keepSums_15 (lv_at hl 0 rfl) ?_
    refine lv_aload_n hx hb dX2_keepSums_17 rfl (lv_at hl 1 rfl) ?_
    refine va_get (D := D) (ci := 2) (v := .ref (a 11)) (C := RX2) (T := TX2) (N := 1) hx hb hts iX2 hown hK hP 0 rfl rfl 0 (by decide) f11 (fun _ h9 => h9) rfl dX2_keepSums_18 ?_
    refine va_alen (D := D) (v := 3584) hx hb hK hP 1 1 rfl rfl rfl dX2_keepSums_21 ?_
    refine lv_icmp_ge (tgt := 33) hx hb dX2_keepSums_22 (by decide) (fun hcc => ?_) (fun hcc => ?_)
    · replace hM := it_p hcc hM
      obtain rfl := Option.some.inj hM
      subst hQ hAe
      exact W.vret hx hb hr (fun t ht hW => ⟨⟨(), rfl, trivial, ⟨by rw [ht]; exact hP, hD⟩⟩, hS.F ht⟩) hS.2.2 dX2_keepSums_33
    · replace hM := it_n hcc hM
      refine lv_aload_n hx hb dX2_keepSums_25 rfl (lv_at hl 1 rfl) ?_
      refine va_get (D := D) (ci := 2) (v := .ref (a 11)) (C := RX2) (T := TX2) (N := 1) hx hb hts iX2 hown hK hP 0 rfl rfl 0 (by decide) f11 (fun _ h9 => h9) rfl dX2_keepSums_26 ?_
      refine lv_iload hx hb dX2_keepSums_29 (lv_at hl 0 rfl) ?_
      refine lv_lload_n hx hb dX2_keepSums_31 rfl (lv_at hl 4 rfl) ?_
      obtain ⟨hb32, hM⟩ := it_x hM
      refine va_last (D := D) hx hb hK hP hD hS 1 1 rfl rfl hb32 dX2_keepSums_32 (fun H locs hP hD hS => ?_)
      replace hP : va_P D vwCl (pw a cI cJ (vp_updL su (((p1 >>> ((1 : Int32) &&& 31)) * (7 : Int32)) + p2).toNatClampNeg p3)) H := hP
      replace hD : va_D A (pw a cI cJ (vp_updL su (((p1 >>> ((1 : Int32) &&& 31)) * (7 : Int32)) + p2).toNatClampNeg p3)) := hD
      obtain rfl := Option.some.inj hM
      subst hQ hAe
      exact W.vret hx hb hr (fun t ht hW => ⟨⟨(), rfl, trivial, ⟨by rw [ht]; exact hP, hD⟩⟩, hS.F ht⟩) hS.2.2 dX2_keepSums_33
def mX2_addHighest_45 (N : Nat) (p1 : Int32) (p2 : Int32) (K9 : Int32 → Int32 → RowJ → Option RowJ) (v3 : Int32) (v4 : Int32) (v5 : Int64) (s0 : Int64) (su' : RowJ) : Option RowJ :=
  ((mX2_keepSums N su' v3 v4 (v5 ||| s0)).bind fun x56 =>
  (K9 v3 (v4 + 1) x56))
def mX2_addHighest_9 (N : Nat) (p1 : Int32) (p2 : Int32) : Nat → Int32 → Int32 → RowJ → Option RowJ
  | 0 => fun _ _ _ => none
  | n + 1 => fun v3 v4 su' => (if (7 : Int32) ≤ v4 then
  some su'
  else
  ((mX2_sumsOf N su' p1 v4).bind fun x20 =>
  (if v4 = 0 then
  (mX2_addHighest_45 N p1 p2 (mX2_addHighest_9 N p1 p2 n) v3 v4 x20 (0 : Int64) su')
  else
  ((mX2_sumsOf N su' p1 (v4 - (1 : Int32))).bind fun x40 =>
  (mX2_addHighest_45 N p1 p2 (mX2_addHighest_9 N p1 p2 n) v3 v4 x20 (x40 <<< (p2.toInt64 &&& 63)) su')))))
def mX2_addHighest (N : Nat) (su : RowJ) (p1 : Int32) (p2 : Int32) : Option RowJ :=
  (mX2_addHighest_9 N p1 p2 N (p1 ||| ((1 : Int32) <<< (p2 &&& 31))) (0 : Int32) su)
abbrev rmX2_addHighest : Room := { frames := 1, cells := 0, slots := 0, locals := 25 }
set_option maxHeartbeats 4000000 in
set_option maxRecDepth 100000 in
theorem kX2_addHighest {l : Launch} {D : va_G} {cI cJ : ClassId} (N : Nat) (a : Nat → Nat) {su : RowJ} {p1 : Int32} {p2 : Int32} {o : RowJ} (hM : mX2_addHighest N su p1 p2 = some o) (sz : Nat) : Met l yX2_addHighest wsX2_addHighest rmX2_addHighest (va_Pc [.ref (a 10), .int p1, .int p2] (Pre D cI cJ (pw a cI cJ su) sz)) (va_Qv (fun (_ : Unit) => True) (aft D (pw a cI cJ su) sz (fun (_ : Unit) => (pw a cI cJ o))) (va_A (pw a cI cJ su) sz)) 0 0 (va_A (pw a cI cJ su) sz) := by
  refine xofW (cc := cX2_addHighest) (maxL := 9) (ret := none) rfl (by decide) rfl ?_
  intro p e s m args below meth c ls Q A hQ hAe hx hb hr hml hown hts hlocks hnm hN hK H locs hP hD hS hA hl
  replace hown : s.vm.findClass RX2 = some m.cls := hown
  replace hl : lv_has ls 9 [(0, .ref (a 10)), (1, .int p1), (2, .int p2)] := hl
  have c45 : ∀ (K9 : Int32 → Int32 → RowJ → Option RowJ) (hK9 : ∀ (v3 : Int32) (v4 : Int32) (su' : RowJ), K9 v3 v4 su' = some o → ∀ (H : Heap) (locs : List Loc) (ls : Array Slot), va_P D vwCl (pw a cI cJ su') H → va_D A (pw a cI cJ su') → va_S A s.heap H locs → lv_has ls 9 [(0, .ref (a 10)), (1, .int p1), (2, .int p2), (3, .int v3), (4, .int v4)] → W p l e rmX2_addHighest s m args below meth c H locs 0 0 Q (F0 m 9 ls [])) , ∀ (v3 : Int32) (v4 : Int32) (v5 : Int64) (s0 : Int64) (su' : RowJ), mX2_addHighest_45 N p1 p2 K9 v3 v4 v5 s0 su' = some o → ∀ (H : Heap) (locs : List Loc) (ls : Array Slot), va_P D vwCl (pw a cI cJ su') H → va_D A (pw a cI cJ su') → va_S A s.heap H locs → lv_has ls 9 [(0, .ref (a 10)), (1, .int p1), (2, .int p2), (3, .int v3), (4, .int v4), (5, .long v5)] → W p l e rmX2_addHighest s m args below meth c H locs 0 0 Q (F0 m 45 ls [.long s0]) := by
      intro K9 hK9 v3 v4 v5 s0 su' hM H locs ls hP hD hS hl
      rw [mX2_addHighest_45] at hM
      refine lv_lstore (lv' := [(7, .long s0), (0, .ref (a 10)), (1, .int p1), (2, .int p2), (3, .int v3), (4, .int v4), (5, .long v5)]) hx hb dX2_addHighest_45 hl (by decide) rfl (fun ls hl => ?_)
      refine lv_aload_n hx hb dX2_addHighest_47 rfl (lv_at hl 1 rfl) ?_
      refine lv_iload_n hx hb dX2_addHighest_48 rfl (lv_at hl 4 rfl) ?_
      refine lv_iload hx hb dX2_addHighest_49 (lv_at hl 5 rfl) ?_
      refine lv_lload hx hb dX2_addHighest_51 (lv_at hl 6 rfl) ?_
      refine lv_lload hx hb dX2_addHighest_53 (lv_at hl 0 rfl) ?_
      refine lv_lor hx hb dX2_addHighest_55 ?_
      obtain ⟨x56, hC, hM⟩ := bd_s hM
      refine cW_v [0, 1] [] (va_runV (As := [.int v3, .int v4, .long (v5 ||| s0)]) (rest := []) ⟨hx, hb, hml, hown, hts⟩ (kX2_keepSums (l := l) (D := D) (cI := cI) (cJ := cJ) N a (su := su') (p1 := v3) (p2 := v4) (p3 := (v5 ||| s0)) hC H.size) (cwV 3 hts gX2_addHighest_X2_keepSums rfl rfl rfl (by decide +kernel) ⟨Nat.le_of_ble_eq_true rfl, Nat.le_of_ble_eq_true rfl⟩) (preV [.int v3, .int v4, .long (v5 ||| s0)] hN hK hP hD (ci := 2) (q0 := 0) rfl rfl) rfl rfl hl.1 rfl (lv_room (Nat.le_of_ble_eq_true rfl)) dX2_addHighest_56 ⟨Nat.le_of_ble_eq_true rfl, Nat.le_of_ble_eq_true rfl⟩) hP hD hS hA rfl (wr := []) rfl (by decide) (by decide) (fun u56 H locs hw hP hD hS => ?_)
      replace hP : va_P D vwCl (pw a cI cJ x56) H := hP
      replace hD : va_D A (pw a cI cJ x56) := hD
      refine lv_iinc (v := (v4 + 1)) (lv' := [(4, .int (v4 + 1)), (7, .long s0), (0, .ref (a 10)), (1, .int p1), (2, .int p2), (3, .int v3), (5, .long v5)]) hx hb dX2_addHighest_59 hl (k := 5) rfl (by rfl) (by decide) rfl (fun ls hl => ?_)
      refine lv_goto (tgt := 9) hx hb dX2_addHighest_62 (by decide) ?_
      exact hK9 v3 (v4 + 1) x56 hM H locs ls hP hD hS (lv_sub hl [2, 3, 4, 5, 0] rfl)
  have c9 : ∀ (n : Nat), ∀ (v3 : Int32) (v4 : Int32) (su' : RowJ), mX2_addHighest_9 N p1 p2 n v3 v4 su' = some o → ∀ (H : Heap) (locs : List Loc) (ls : Array Slot), va_P D vwCl (pw a cI cJ su') H → va_D A (pw a cI cJ su') → va_S A s.heap H locs → lv_has ls 9 [(0, .ref (a 10)), (1, .int p1), (2, .int p2), (3, .int v3), (4, .int v4)] → W p l e rmX2_addHighest s m args below meth c H locs 0 0 Q (F0 m 9 ls []) := by
    intro n
    induction n with
    | zero =>
      intro v3 v4 su' hM
      rw [mX2_addHighest_9] at hM
      cases hM
    | succ n ih =>
      intro v3 v4 su' hM H locs ls hP hD hS hl
      rw [mX2_addHighest_9] at hM
      refine lv_iload hx hb dX2_addHighest_9 (lv_at hl 4 rfl) ?_
      refine lv_bipush (v := 7) hx hb dX2_addHighest_11 (by decide) ?_
      refine lv_icmp_ge (tgt := 65) hx hb dX2_addHighest_13 (by decide) (fun hcc => ?_) (fun hcc => ?_)
      · replace hM := it_p hcc hM
        obtain rfl := Option.some.inj hM
        subst hQ hAe
        exact W.vret hx hb hr (fun t ht hW => ⟨⟨(), rfl, trivial, ⟨by rw [ht]; exact hP, hD⟩⟩, hS.F ht⟩) hS.2.2 dX2_addHighest_65
      · replace hM := it_n hcc hM
        refine lv_aload_n hx hb dX2_addHighest_16 rfl (lv_at hl 0 rfl) ?_
        refine lv_iload_n hx hb dX2_addHighest_17 rfl (lv_at hl 1 rfl) ?_
        refine lv_iload hx hb dX2_addHighest_18 (lv_at hl 4 rfl) ?_
        obtain ⟨x20, hC, hM⟩ := bd_s hM
        refine cR_l (va_runV (As := [.int p1, .int v4]) (rest := []) ⟨hx, hb, hml, hown, hts⟩ (kX2_sumsOf (l := l) (D := D) (cI := cI) (cJ := cJ) N a (su := su') (p1 := p1) (p2 := v4) hC H.size) (cwV 2 hts gX2_addHighest_X2_sumsOf rfl rfl rfl (by decide +kernel) ⟨Nat.le_of_ble_eq_true rfl, Nat.le_of_ble_eq_true rfl⟩) (preV [.int p1, .int v4] hN hK hP hD (ci := 2) (q0 := 0) rfl rfl) rfl rfl hl.1 rfl (lv_room (Nat.le_of_ble_eq_true rfl)) dX2_addHighest_20 ⟨Nat.le_of_ble_eq_true rfl, Nat.le_of_ble_eq_true rfl⟩) hP hS (fun r u H locs hw hP hS => ?_)
        rw [hw]
        refine lv_lstore (lv' := [(5, .long x20), (0, .ref (a 10)), (1, .int p1), (2, .int p2), (3, .int v3), (4, .int v4)]) hx hb dX2_addHighest_23 hl (by decide) rfl (fun ls hl => ?_)
        refine lv_iload hx hb dX2_addHighest_25 (lv_at hl 5 rfl) ?_
        refine lv_if_ne (tgt := 34) hx hb dX2_addHighest_27 (by decide) (fun hcc => ?_) (fun hcc => ?_)
        · replace hM := it_n hcc hM
          refine lv_aload_n hx hb dX2_addHighest_34 rfl (lv_at hl 1 rfl) ?_
          refine lv_iload_n hx hb dX2_addHighest_35 rfl (lv_at hl 2 rfl) ?_
          refine lv_iload hx hb dX2_addHighest_36 (lv_at hl 5 rfl) ?_
          refine lv_iconst (v := 1) hx hb dX2_addHighest_38 (by decide) ?_
          refine lv_isub hx hb dX2_addHighest_39 ?_
          obtain ⟨x40, hC, hM⟩ := bd_s hM
          refine cR_l (va_runV (As := [.int p1, .int (v4 - (1 : Int32))]) (rest := []) ⟨hx, hb, hml, hown, hts⟩ (kX2_sumsOf (l := l) (D := D) (cI := cI) (cJ := cJ) N a (su := su') (p1 := p1) (p2 := (v4 - (1 : Int32))) hC H.size) (cwV 2 hts gX2_addHighest_X2_sumsOf rfl rfl rfl (by decide +kernel) ⟨Nat.le_of_ble_eq_true rfl, Nat.le_of_ble_eq_true rfl⟩) (preV [.int p1, .int (v4 - (1 : Int32))] hN hK hP hD (ci := 2) (q0 := 0) rfl rfl) rfl rfl hl.1 rfl (lv_room (Nat.le_of_ble_eq_true rfl)) dX2_addHighest_40 ⟨Nat.le_of_ble_eq_true rfl, Nat.le_of_ble_eq_true rfl⟩) hP hS (fun r u H locs hw hP hS => ?_)
          rw [hw]
          refine lv_iload_n hx hb dX2_addHighest_43 rfl (lv_at hl 3 rfl) ?_
          refine lv_lshl (v := (x40 <<< (p2.toInt64 &&& 63))) hx hb dX2_addHighest_44 rfl ?_
          exact c45 (mX2_addHighest_9 N p1 p2 n) ih v3 v4 x20 (x40 <<< (p2.toInt64 &&& 63)) su' hM H locs ls hP hD hS (lv_sub hl [1, 2, 3, 4, 5, 0] rfl)
        · replace hM := it_p hcc hM
          refine lv_lconst (v := 0) hx hb dX2_addHighest_30 (by decide) ?_
          refine lv_goto (tgt := 45) hx hb dX2_addHighest_31 (by decide) ?_
          exact c45 (mX2_addHighest_9 N p1 p2 n) ih v3 v4 x20 (0 : Int64) su' hM H locs ls hP hD hS (lv_sub hl [1, 2, 3, 4, 5, 0] rfl)
  rw [mX2_addHighest] at hM
  refine lv_iload_n hx hb dX2_addHighest_0 rfl (lv_at hl 1 rfl) ?_
  refine lv_iconst (v := 1) hx hb dX2_addHighest_1 (by decide) ?_
  refine lv_iload_n hx hb dX2_addHighest_2 rfl (lv_at hl 2 rfl) ?_
  refine lv_ishl hx hb dX2_addHighest_3 ?_
  refine lv_ior hx hb dX2_addHighest_4 ?_
  refine lv_istore_n (lv' := [(3, .int (p1 ||| ((1 : Int32) <<< (p2 &&& 31)))), (0, .ref (a 10)), (1, .int p1), (2, .int p2)]) hx hb dX2_addHighest_5 rfl hl (by decide) rfl (fun ls hl => ?_)
  refine lv_iconst (v := 0) hx hb dX2_addHighest_6 (by decide) ?_
  refine lv_istore (lv' := [(4, .int (0 : Int32)), (3, .int (p1 ||| ((1 : Int32) <<< (p2 &&& 31)))), (0, .ref (a 10)), (1, .int p1), (2, .int p2)]) hx hb dX2_addHighest_7 hl (by decide) rfl (fun ls hl => ?_)
  exact c9 N (p1 ||| ((1 : Int32) <<< (p2 &&& 31))) (0 : Int32) su hM H locs ls hP hD hS (lv_sub hl [2, 3, 4, 1, 0] rfl)
def mX0_look_26 (N : Nat) (st : RowI) (cA : CS) (p1 : Int32) : Nat → Int32 → Int32 → JT → Option JT
  | 0 => fun _ _ _ => none
  | n + 1 => fun v2 v3 jA' => (if v2 ≤ v3 then
  some jA'
  else
  (if (rd st (p1 + (v3 * cA.2.2.2))) ≤ 0 then
  (mX0_look_26 N st cA p1 n v2 (v3 + 1) jA')
  else
  (mX0_look_26 N st cA p1 n v2 (v3 + 1) ((jA'.1 ||| ((1 : Int32) <<< ((rd st (p1 + (v3 * cA.2.2.2))) &&& 31))), (jA'.2.1 + (1 : Int32)), (jA'.2.2 + (rd st (p1 + (v3 * cA.2.2.2))))))))
def mX0_look (N : Nat) (st : RowI) (cA : CS) (p1 : Int32) : Option JT :=
  (mX0_look_26 N st cA p1 N (rd cA.2.2.1 p1) (0 : Int32) ((0 : Int32), (0 : Int32), (0 : Int32)))
abbrev rmX0_look : Room := { frames := 1, cells := 0, slots := 0, locals := 21 }
set_option maxHeartbeats 4000000 in
set_option maxRecDepth 100000 in
theorem kX0_look_A {l : Launch} {D : va_G} {cI cJ : ClassId} (N : Nat) (a : Nat → Nat) {st : RowI} {co : Int32} {ro : Int32} {cA : CS} {cD : CS} {su : RowJ} {jA : JT} {jD : JT} {p1 : Int32} {o : JT} (hM : mX0_look N st cA p1 = some o) (sz : Nat) : Met l yX0_look wsX0_look rmX0_look (va_Pc [.ref (a 2), .int p1] (Pre D cI cJ (fw a cI cJ st co ro cA cD su jA jD) sz)) (va_Qv (fun (_ : Unit) => True) (aft D (fw a cI cJ st co ro cA cD su jA jD) sz (fun (_ : Unit) => (fw a cI cJ st co ro cA cD su o jD))) (va_A (fw a cI cJ st co ro cA cD su jA jD) sz)) 0 0 (va_A (fw a cI cJ st co ro cA cD su jA jD) sz) := by
  refine xofW (cc := cX0_look) (maxL := 5) (ret := none) rfl (by decide) rfl ?_
  intro p e s m args below meth c ls Q A hQ hAe hx hb hr hml hown hts hlocks hnm hN hK H locs hP hD hS hA hl
  replace hown : s.vm.findClass RX0 = some m.cls := hown
  replace hl : lv_has ls 5 [(0, .ref (a 2)), (1, .int p1)] := hl
  have iX0 : ∀ w ∈ wsX00, w ∈ wsX0_look := by decide +kernel
  have f25 := hts (.fieldLink RX0 25 "CryptSums$Corridors" "size" "[I") (by decide +kernel)
  have f28 := hts (.fieldLink RX0 28 "CryptSums$Corridors" "step" "I") (by decide +kernel)
  have f44 := hts (.fieldLink RX0 44 "CryptSums$Corridors" "seenStones" "I") (by decide +kernel)
  have f47 := hts (.fieldLink RX0 47 "CryptSums$Corridors" "seenTotal" "I") (by decide +kernel)
  have f58 := hts (.fieldLink RX0 58 "CryptSums$Corridors" "seenNumbers" "I") (by decide +kernel)
  have f9 := hts (.fieldLink RX0 9 "CryptSums$Corridors" "stones" "[I") (by decide +kernel)
  have c26 : ∀ (n : Nat), ∀ (v2 : Int32) (v3 : Int32) (jA' : JT), mX0_look_26 N st cA p1 n v2 v3 jA' = some o → ∀ (H : Heap) (locs : List Loc) (ls : Array Slot), va_P D vwCl (fw a cI cJ st co ro cA cD su jA' jD) H → va_D A (fw a cI cJ st co ro cA cD su jA' jD) → va_S A s.heap H locs → lv_has ls 5 [(0, .ref (a 2)), (1, .int p1), (2, .int v2), (3, .int v3)] → W p l e rmX0_look s m args below meth c H locs 0 0 Q (F0 m 26 ls []) := by
    intro n
    induction n with
    | zero =>
      intro v2 v3 jA' hM
      rw [mX0_look_26] at hM
      cases hM
    | succ n ih =>
      intro v2 v3 jA' hM H locs ls hP hD hS hl
      rw [mX0_look_26] at hM
      refine lv_iload_n hx hb dX0_look_26 rfl (lv_at hl 3 rfl) ?_
      refine lv_iload_n hx hb dX0_look_27 rfl (lv_at hl 2 rfl) ?_
      refine lv_icmp_ge (tgt := 93) hx hb dX0_look_28 (by decide) (fun hcc => ?_) (fun hcc => ?_)
      · replace hM := it_p hcc hM
        obtain rfl := Option.some.inj hM
        subst hQ hAe
        exact W.vret hx hb hr (fun t ht hW => ⟨⟨(), rfl, trivial, ⟨by rw [ht]; exact hP, hD⟩⟩, hS.F ht⟩) hS.2.2 dX0_look_93
      · replace hM := it_n hcc hM
        refine lv_aload_n hx hb dX0_look_31 rfl (lv_at hl 0 rfl) ?_
        refine va_get (D := D) (ci := 0) (v := .ref (a 1)) (C := RX0) (T := TX0) (N := 9) hx hb hts iX0 hown hK hP 2 rfl rfl 0 (by decide) f9 (fun _ h9 => h9) rfl dX0_look_32 ?_
        refine lv_iload_n hx hb dX0_look_35 rfl (lv_at hl 1 rfl) ?_
        refine lv_iload_n hx hb dX0_look_36 rfl (lv_at hl 3 rfl) ?_
        refine lv_aload_n hx hb dX0_look_37 rfl (lv_at hl 0 rfl) ?_
        refine va_get (D := D) (ci := 0) (v := .int cA.2.2.2) (C := RX0) (T := TX0) (N := 9) hx hb hts iX0 hown hK hP 2 rfl rfl 5 (by decide) f28 (fun _ h9 => h9) rfl dX0_look_38 ?_
        refine lv_imul hx hb dX0_look_41 ?_
        refine lv_iadd hx hb dX0_look_42 ?_
        refine cR_i (va_runSN (As := [.ref (a 1), .int (p1 + (v3 * cA.2.2.2))]) (rest := []) ⟨hx, hb, hml, hown, hts⟩ (kX4_read (D := D) (cI := cI) (cJ := cJ) (a 1) st (p1 + (v3 * cA.2.2.2)) H.size) ⟨va_cnB 2 hts gX0_look_X4_read_n36 rfl rfl rfl (hN (.methodLinkNest RX0 36 yX4_read "CryptSums") (by decide +kernel)) (hts (.initialized RX4) (by decide +kernel)) (by decide +kernel) ⟨Nat.le_of_ble_eq_true rfl, Nat.le_of_ble_eq_true rfl⟩, hts (.static yX4_read) (by decide +kernel), trivial⟩ (preS [.ref (a 1), .int (p1 + (v3 * cA.2.2.2))] hN hK (hP.sub (ws' := [((a 1), .inl (cI, 36, .inl st))]) [1] rfl) (hD.sub (ws' := [((a 1), .inl (cI, 36, .inl st))]) [1] (by decide) rfl)) rfl rfl hl.1 rfl (lv_room (Nat.le_of_ble_eq_true rfl)) dX0_look_43 ⟨Nat.le_of_ble_eq_true rfl, Nat.le_of_ble_eq_true rfl⟩) hP hS (fun r u H locs hw hP hS => ?_)
        rw [hw]
        refine lv_istore (lv' := [(4, .int (rd st (p1 + (v3 * cA.2.2.2)))), (0, .ref (a 2)), (1, .int p1), (2, .int v2), (3, .int v3)]) hx hb dX0_look_46 hl (by decide) rfl (fun ls hl => ?_)
        refine lv_iload hx hb dX0_look_48 (lv_at hl 0 rfl) ?_
        refine lv_if_le (tgt := 87) hx hb dX0_look_50 (by decide) (fun hcc => ?_) (fun hcc => ?_)
        · replace hM := it_p hcc hM
          refine lv_iinc (v := (v3 + 1)) (lv' := [(3, .int (v3 + 1)), (4, .int (rd st (p1 + (v3 * cA.2.2.2)))), (0, .ref (a 2)), (1, .int p1), (2, .int v2)]) hx hb dX0_look_87 hl (k := 4) rfl (by rfl) (by decide) rfl (fun ls hl => ?_)
          refine lv_goto (tgt := 26) hx hb dX0_look_90 (by decide) ?_
          exact ih v2 (v3 + 1) jA' hM H locs ls hP hD hS (lv_sub hl [2, 3, 4, 0] rfl)
        · replace hM := it_n hcc hM
          refine lv_aload_n hx hb dX0_look_53 rfl (lv_at hl 1 rfl) ?_
          refine lv_dup hx hb dX0_look_54 rfl ?_
          refine va_get (D := D) (ci := 0) (v := .int jA'.1) (C := RX0) (T := TX0) (N := 9) hx hb hts iX0 hown hK hP 2 rfl rfl 6 (by decide) f58 (fun _ h9 => h9) rfl dX0_look_55 ?_
          refine lv_iconst (v := 1) hx hb dX0_look_58 (by decide) ?_
          refine lv_iload hx hb dX0_look_59 (lv_at hl 0 rfl) ?_
          refine lv_ishl hx hb dX0_look_61 ?_
          refine lv_ior hx hb dX0_look_62 ?_
          refine va_put (D := D) (ci := 0) (v := .int (jA'.1 ||| ((1 : Int32) <<< ((rd st (p1 + (v3 * cA.2.2.2))) &&& 31)))) (ty := .int) (C := RX0) (T := TX0) (N := 9) hx hb hts iX0 tyX0 tyX0_ok nmX0 hown hK hP hD hS 2 rfl rfl 6 (by decide) f58 (fun _ h9 => h9) rfl (by decide +kernel) rfl rfl (Nat.le_of_ble_eq_true rfl) dX0_look_63 (fun H locs hP hD hS => ?_)
          replace hP : va_P D vwCl (fw a cI cJ st co ro cA cD su ((jA'.1 ||| ((1 : Int32) <<< ((rd st (p1 + (v3 * cA.2.2.2))) &&& 31))), jA'.2.1, jA'.2.2) jD) H := hP
          replace hD : va_D A (fw a cI cJ st co ro cA cD su ((jA'.1 ||| ((1 : Int32) <<< ((rd st (p1 + (v3 * cA.2.2.2))) &&& 31))), jA'.2.1, jA'.2.2) jD) := hD
          refine lv_aload_n hx hb dX0_look_66 rfl (lv_at hl 1 rfl) ?_
          refine lv_dup hx hb dX0_look_67 rfl ?_
          refine va_get (D := D) (ci := 0) (v := .int jA'.2.1) (C := RX0) (T := TX0) (N := 9) hx hb hts iX0 hown hK hP 2 rfl rfl 7 (by decide) f44 (fun _ h9 => h9) rfl dX0_look_68 ?_
          refine lv_iconst (v := 1) hx hb dX0_look_71 (by decide) ?_
          refine lv_iadd hx hb dX0_look_72 ?_
          refine va_put (D := D) (ci := 0) (v := .int (jA'.2.1 + (1 : Int32))) (ty := .int) (C := RX0) (T := TX0) (N := 9) hx hb hts iX0 tyX0 tyX0_ok nmX0 hown hK hP hD hS 2 rfl rfl 7 (by decide) f44 (fun _ h9 => h9) rfl (by decide +kernel) rfl rfl (Nat.le_of_ble_eq_true rfl) dX0_look_73 (fun H locs hP hD hS => ?_)
          replace hP : va_P D vwCl (fw a cI cJ st co ro cA cD su ((jA'.1 ||| ((1 : Int32) <<< ((rd st (p1 + (v3 * cA.2.2.2))) &&& 31))), (jA'.2.1 + (1 : Int32)), jA'.2.2) jD) H := hP
          replace hD : va_D A (fw a cI cJ st co ro cA cD su ((jA'.1 ||| ((1 : Int32) <<< ((rd st (p1 + (v3 * cA.2.2.2))) &&& 31))), (jA'.2.1 + (1 : Int32)), jA'.2.2) jD) := hD
          refine lv_aload_n hx hb dX0_look_76 rfl (lv_at hl 1 rfl) ?_
          refine lv_dup hx hb dX0_look_77 rfl ?_
          refine va_get (D := D) (ci := 0) (v := .int jA'.2.2) (C := RX0) (T := TX0) (N := 9) hx hb hts iX0 hown hK hP 2 rfl rfl 8 (by decide) f47 (fun _ h9 => h9) rfl dX0_look_78 ?_
          refine lv_iload hx hb dX0_look_81 (lv_at hl 0 rfl) ?_
          refine lv_iadd hx hb dX0_look_83 ?_
          refine va_put (D := D) (ci := 0) (v := .int (jA'.2.2 + (rd st (p1 + (v3 * cA.2.2.2))))) (ty := .int) (C := RX0) (T := TX0) (N := 9) hx hb hts iX0 tyX0 tyX0_ok nmX0 hown hK hP hD hS 2 rfl rfl 8 (by decide) f47 (fun _ h9 => h9) rfl (by decide +kernel) rfl rfl (Nat.le_of_ble_eq_true rfl) dX0_look_84 (fun H locs hP hD hS => ?_)
          replace hP : va_P D vwCl (fw a cI cJ st co ro cA cD su ((jA'.1 ||| ((1 : Int32) <<< ((rd st (p1 + (v3 * cA.2.2.2))) &&& 31))), (jA'.2.1 + (1 : Int32)), (jA'.2.2 + (rd st (p1 + (v3 * cA.2.2.2))))) jD) H := hP
          replace hD : va_D A (fw a cI cJ st co ro cA cD su ((jA'.1 ||| ((1 : Int32) <<< ((rd st (p1 + (v3 * cA.2.2.2))) &&& 31))), (jA'.2.1 + (1 : Int32)), (jA'.2.2 + (rd st (p1 + (v3 * cA.2.2.2))))) jD) := hD
          refine lv_iinc (v := (v3 + 1)) (lv' := [(3, .int (v3 + 1)), (4, .int (rd st (p1 + (v3 * cA.2.2.2)))), (0, .ref (a 2)), (1, .int p1), (2, .int v2)]) hx hb dX0_look_87 hl (k := 4) rfl (by rfl) (by decide) rfl (fun ls hl => ?_)
          refine lv_goto (tgt := 26) hx hb dX0_look_90 (by decide) ?_
          exact ih v2 (v3 + 1) ((jA'.1 ||| ((1 : Int32) <<< ((rd st (p1 + (v3 * cA.2.2.2))) &&& 31))), (jA'.2.1 + (1 : Int32)), (jA'.2.2 + (rd st (p1 + (v3 * cA.2.2.2))))) hM H locs ls hP hD hS (lv_sub hl [2, 3, 4, 0] rfl)
  rw [mX0_look] at hM
  refine lv_aload_n hx hb dX0_look_0 rfl (lv_at hl 0 rfl) ?_
  refine lv_iconst (v := 0) hx hb dX0_look_1 (by decide) ?_
  refine va_put (D := D) (ci := 0) (v := .int (0 : Int32)) (ty := .int) (C := RX0) (T := TX0) (N := 9) hx hb hts iX0 tyX0 tyX0_ok nmX0 hown hK hP hD hS 2 rfl rfl 6 (by decide) f58 (fun _ h9 => h9) rfl (by decide +kernel) rfl rfl (Nat.le_of_ble_eq_true rfl) dX0_look_2 (fun H locs hP hD hS => ?_)
  replace hP : va_P D vwCl (fw a cI cJ st co ro cA cD su ((0 : Int32), jA.2.1, jA.2.2) jD) H := hP
  replace hD : va_D A (fw a cI cJ st co ro cA cD su ((0 : Int32), jA.2.1, jA.2.2) jD) := hD
  refine lv_aload_n hx hb dX0_look_5 rfl (lv_at hl 0 rfl) ?_
  refine lv_iconst (v := 0) hx hb dX0_look_6 (by decide) ?_
  refine va_put (D := D) (ci := 0) (v := .int (0 : Int32)) (ty := .int) (C := RX0) (T := TX0) (N := 9) hx hb hts iX0 tyX0 tyX0_ok nmX0 hown hK hP hD hS 2 rfl rfl 7 (by decide) f44 (fun _ h9 => h9) rfl (by decide +kernel) rfl rfl (Nat.le_of_ble_eq_true rfl) dX0_look_7 (fun H locs hP hD hS => ?_)
  replace hP : va_P D vwCl (fw a cI cJ st co ro cA cD su ((0 : Int32), (0 : Int32), jA.2.2) jD) H := hP
  replace hD : va_D A (fw a cI cJ st co ro cA cD su ((0 : Int32), (0 : Int32), jA.2.2) jD) := hD
  refine lv_aload_n hx hb dX0_look_10 rfl (lv_at hl 0 rfl) ?_
  refine lv_iconst (v := 0) hx hb dX0_look_11 (by decide) ?_
  refine va_put (D := D) (ci := 0) (v := .int (0 : Int32)) (ty := .int) (C := RX0) (T := TX0) (N := 9) hx hb hts iX0 tyX0 tyX0_ok nmX0 hown hK hP hD hS 2 rfl rfl 8 (by decide) f47 (fun _ h9 => h9) rfl (by decide +kernel) rfl rfl (Nat.le_of_ble_eq_true rfl) dX0_look_12 (fun H locs hP hD hS => ?_)
  replace hP : va_P D vwCl (fw a cI cJ st co ro cA cD su ((0 : Int32), (0 : Int32), (0 : Int32)) jD) H := hP
  replace hD : va_D A (fw a cI cJ st co ro cA cD su ((0 : Int32), (0 : Int32), (0 : Int32)) jD) := hD
  refine lv_aload_n hx hb dX0_look_15 rfl (lv_at hl 0 rfl) ?_
  refine va_get (D := D) (ci := 0) (v := .ref (a 6)) (C := RX0) (T := TX0) (N := 9) hx hb hts iX0 hown hK hP 2 rfl rfl 4 (by decide) f25 (fun _ h9 => h9) rfl dX0_look_16 ?_
  refine lv_iload_n hx hb dX0_look_19 rfl (lv_at hl 1 rfl) ?_
  refine cR_i (va_runSN (As := [.ref (a 6), .int p1]) (rest := []) ⟨hx, hb, hml, hown, hts⟩ (kX4_read (D := D) (cI := cI) (cJ := cJ) (a 6) cA.2.2.1 p1 H.size) ⟨va_cnB 2 hts gX0_look_X4_read_n36 rfl rfl rfl (hN (.methodLinkNest RX0 36 yX4_read "CryptSums") (by decide +kernel)) (hts (.initialized RX4) (by decide +kernel)) (by decide +kernel) ⟨Nat.le_of_ble_eq_true rfl, Nat.le_of_ble_eq_true rfl⟩, hts (.static yX4_read) (by decide +kernel), trivial⟩ (preS [.ref (a 6), .int p1] hN hK (hP.sub (ws' := [((a 6), .inl (cI, 36, .inl cA.2.2.1))]) [6] rfl) (hD.sub (ws' := [((a 6), .inl (cI, 36, .inl cA.2.2.1))]) [6] (by decide) rfl)) rfl rfl hl.1 rfl (lv_room (Nat.le_of_ble_eq_true rfl)) dX0_look_20 ⟨Nat.le_of_ble_eq_true rfl, Nat.le_of_ble_eq_true rfl⟩) hP hS (fun r u H locs hw hP hS => ?_)
  rw [hw]
  refine lv_istore_n (lv' := [(2, .int (rd cA.2.2.1 p1)), (0, .ref (a 2)), (1, .int p1)]) hx hb dX0_look_23 rfl hl (by decide) rfl (fun ls hl => ?_)
  refine lv_iconst (v := 0) hx hb dX0_look_24 (by decide) ?_
  refine lv_istore_n (lv' := [(3, .int (0 : Int32)), (2, .int (rd cA.2.2.1 p1)), (0, .ref (a 2)), (1, .int p1)]) hx hb dX0_look_25 rfl hl (by decide) rfl (fun ls hl => ?_)
  exact c26 N (rd cA.2.2.1 p1) (0 : Int32) ((0 : Int32), (0 : Int32), (0 : Int32)) hM H locs ls hP hD hS (lv_sub hl [2, 3, 1, 0] rfl)
set_option maxHeartbeats 4000000 in
set_option maxRecDepth 100000 in
theorem kX0_look_D {l : Launch} {D : va_G} {cI cJ : ClassId} (N : Nat) (a : Nat → Nat) {st : RowI} {co : Int32} {ro : Int32} {cA : CS} {cD : CS} {su : RowJ} {jA : JT} {jD : JT} {p1 : Int32} {o : JT} (hM : mX0_look N st cD p1 = some o) (sz : Nat) : Met l yX0_look wsX0_look rmX0_look (va_Pc [.ref (a 3), .int p1] (Pre D cI cJ (fw a cI cJ st co ro cA cD su jA jD) sz)) (va_Qv (fun (_ : Unit) => True) (aft D (fw a cI cJ st co ro cA cD su jA jD) sz (fun (_ : Unit) => (fw a cI cJ st co ro cA cD su jA o))) (va_A (fw a cI cJ st co ro cA cD su jA jD) sz)) 0 0 (va_A (fw a cI cJ st co ro cA cD su jA jD) sz) := by
  refine xofW (cc := cX0_look) (maxL := 5) (ret := none) rfl (by decide) rfl ?_
  intro p e s m args below meth c ls Q A hQ hAe hx hb hr hml hown hts hlocks hnm hN hK H locs hP hD hS hA hl
  replace hown : s.vm.findClass RX0 = some m.cls := hown
  replace hl : lv_has ls 5 [(0, .ref (a 3)), (1, .int p1)] := hl
  have iX0 : ∀ w ∈ wsX00, w ∈ wsX0_look := by decide +kernel
  have f25 := hts (.fieldLink RX0 25 "CryptSums$Corridors" "size" "[I") (by decide +kernel)
  have f28 := hts (.fieldLink RX0 28 "CryptSums$Corridors" "step" "I") (by decide +kernel)
  have f44 := hts (.fieldLink RX0 44 "CryptSums$Corridors" "seenStones" "I") (by decide +kernel)
  have f47 := hts (.fieldLink RX0 47 "CryptSums$Corridors" "seenTotal" "I") (by decide +kernel)
  have f58 := hts (.fieldLink RX0 58 "CryptSums$Corridors" "seenNumbers" "I") (by decide +kernel)
  have f9 := hts (.fieldLink RX0 9 "CryptSums$Corridors" "stones" "[I") (by decide +kernel)
  have c26 : ∀ (n : Nat), ∀ (v2 : Int32) (v3 : Int32) (jD' : JT), mX0_look_26 N st cD p1 n v2 v3 jD' = some o → ∀ (H : Heap) (locs : List Loc) (ls : Array Slot), va_P D vwCl (fw a cI cJ st co ro cA cD su jA jD') H → va_D A (fw a cI cJ st co ro cA cD su jA jD') → va_S A s.heap H locs → lv_has ls 5 [(0, .ref (a 3)), (1, .int p1), (2, .int v2), (3, .int v3)] → W p l e rmX0_look s m args below meth c H locs 0 0 Q (F0 m 26 ls []) := by
    intro n
    induction n with
    | zero =>
      intro v2 v3 jD' hM
      rw [mX0_look_26] at hM
      cases hM
    | succ n ih =>
      intro v2 v3 jD' hM H locs ls hP hD hS hl
      rw [mX0_look_26] at hM
      refine lv_iload_n hx hb dX0_look_26 rfl (lv_at hl 3 rfl) ?_
      refine lv_iload_n hx hb dX0_look_27 rfl (lv_at hl 2 rfl) ?_
      refine lv_icmp_ge (tgt := 93) hx hb dX0_look_28 (by decide) (fun hcc => ?_) (fun hcc => ?_)
      · replace hM := it_p hcc hM
        obtain rfl := Option.some.inj hM
        subst hQ hAe
        exact W.vret hx hb hr (fun t ht hW => ⟨⟨(), rfl, trivial, ⟨by rw [ht]; exact hP, hD⟩⟩, hS.F ht⟩) hS.2.2 dX0_look_93
      · replace hM := it_n hcc hM
        refine lv_aload_n hx hb dX0_look_31 rfl (lv_at hl 0 rfl) ?_
        refine va_get (D := D) (ci := 0) (v := .ref (a 1)) (C := RX0) (T := TX0) (N := 9) hx hb hts iX0 hown hK hP 3 rfl rfl 0 (by decide) f9 (fun _ h9 => h9) rfl dX0_look_32 ?_
        refine lv_iload_n hx hb dX0_look_35 rfl (lv_at hl 1 rfl) ?_
        refine lv_iload_n hx hb dX0_look_36 rfl (lv_at hl 3 rfl) ?_
        refine lv_aload_n hx hb dX0_look_37 rfl (lv_at hl 0 rfl) ?_
        refine va_get (D := D) (ci := 0) (v := .int cD.2.2.2) (C := RX0) (T := TX0) (N := 9) hx hb hts iX0 hown hK hP 3 rfl rfl 5 (by decide) f28 (fun _ h9 => h9) rfl dX0_look_38 ?_
        refine lv_imul hx hb dX0_look_41 ?_
        refine lv_iadd hx hb dX0_look_42 ?_
        refine cR_i (va_runSN (As := [.ref (a 1), .int (p1 + (v3 * cD.2.2.2))]) (rest := []) ⟨hx, hb, hml, hown, hts⟩ (kX4_read (D := D) (cI := cI) (cJ := cJ) (a 1) st (p1 + (v3 * cD.2.2.2)) H.size) ⟨va_cnB 2 hts gX0_look_X4_read_n36 rfl rfl rfl (hN (.methodLinkNest RX0 36 yX4_read "CryptSums") (by decide +kernel)) (hts (.initialized RX4) (by decide +kernel)) (by decide +kernel) ⟨Nat.le_of_ble_eq_true rfl, Nat.le_of_ble_eq_true rfl⟩, hts (.static yX4_read) (by decide +kernel), trivial⟩ (preS [.ref (a 1), .int (p1 + (v3 * cD.2.2.2))] hN hK (hP.sub (ws' := [((a 1), .inl (cI, 36, .inl st))]) [1] rfl) (hD.sub (ws' := [((a 1), .inl (cI, 36, .inl st))]) [1] (by decide) rfl)) rfl rfl hl.1 rfl (lv_room (Nat.le_of_ble_eq_true rfl)) dX0_look_43 ⟨Nat.le_of_ble_eq_true rfl, Nat.le_of_ble_eq_true rfl⟩) hP hS (fun r u H locs hw hP hS => ?_)
        rw [hw]
        refine lv_istore (lv' := [(4, .int (rd st (p1 + (v3 * cD.2.2.2)))), (0, .ref (a 3)), (1, .int p1), (2, .int v2), (3, .int v3)]) hx hb dX0_look_46 hl (by decide) rfl (fun ls hl => ?_)
        refine lv_iload hx hb dX0_look_48 (lv_at hl 0 rfl) ?_
        refine lv_if_le (tgt := 87) hx hb dX0_look_50 (by decide) (fun hcc => ?_) (fun hcc => ?_)
        · replace hM := it_p hcc hM
          refine lv_iinc (v := (v3 + 1)) (lv' := [(3, .int (v3 + 1)), (4, .int (rd st (p1 + (v3 * cD.2.2.2)))), (0, .ref (a 3)), (1, .int p1), (2, .int v2)]) hx hb dX0_look_87 hl (k := 4) rfl (by rfl) (by decide) rfl (fun ls hl => ?_)
          refine lv_goto (tgt := 26) hx hb dX0_look_90 (by decide) ?_
          exact ih v2 (v3 + 1) jD' hM H locs ls hP hD hS (lv_sub hl [2, 3, 4, 0] rfl)
        · replace hM := it_n hcc hM
          refine lv_aload_n hx hb dX0_look_53 rfl (lv_at hl 1 rfl) ?_
          refine lv_dup hx hb dX0_look_54 rfl ?_
          refine va_get (D := D) (ci := 0) (v := .int jD'.1) (C := RX0) (T := TX0) (N := 9) hx hb hts iX0 hown hK hP 3 rfl rfl 6 (by decide) f58 (fun _ h9 => h9) rfl dX0_look_55 ?_
          refine lv_iconst (v := 1) hx hb dX0_look_58 (by decide) ?_
          refine lv_iload hx hb dX0_look_59 (lv_at hl 0 rfl) ?_
          refine lv_ishl hx hb dX0_look_61 ?_
          refine lv_ior hx hb dX0_look_62 ?_
          refine va_put (D := D) (ci := 0) (v := .int (jD'.1 ||| ((1 : Int32) <<< ((rd st (p1 + (v3 * cD.2.2.2))) &&& 31)))) (ty := .int) (C := RX0) (T := TX0) (N := 9) hx hb hts iX0 tyX0 tyX0_ok nmX0 hown hK hP hD hS 3 rfl rfl 6 (by decide) f58 (fun _ h9 => h9) rfl (by decide +kernel) rfl rfl (Nat.le_of_ble_eq_true rfl) dX0_look_63 (fun H locs hP hD hS => ?_)
          replace hP : va_P D vwCl (fw a cI cJ st co ro cA cD su jA ((jD'.1 ||| ((1 : Int32) <<< ((rd st (p1 + (v3 * cD.2.2.2))) &&& 31))), jD'.2.1, jD'.2.2)) H := hP
          replace hD : va_D A (fw a cI cJ st co ro cA cD su jA ((jD'.1 ||| ((1 : Int32) <<< ((rd st (p1 + (v3 * cD.2.2.2))) &&& 31))), jD'.2.1, jD'.2.2)) := hD
          refine lv_aload_n hx hb dX0_look_66 rfl (lv_at hl 1 rfl) ?_
          refine lv_dup hx hb dX0_look_67 rfl ?_
          refine va_get (D := D) (ci := 0) (v := .int jD'.2.1) (C := RX0) (T := TX0) (N := 9) hx hb hts iX0 hown hK hP 3 rfl rfl 7 (by decide) f44 (fun _ h9 => h9) rfl dX0_look_68 ?_
          refine lv_iconst (v := 1) hx hb dX0_look_71 (by decide) ?_
          refine lv_iadd hx hb dX0_look_72 ?_
          refine va_put (D := D) (ci := 0) (v := .int (jD'.2.1 + (1 : Int32))) (ty := .int) (C := RX0) (T := TX0) (N := 9) hx hb hts iX0 tyX0 tyX0_ok nmX0 hown hK hP hD hS 3 rfl rfl 7 (by decide) f44 (fun _ h9 => h9) rfl (by decide +kernel) rfl rfl (Nat.le_of_ble_eq_true rfl) dX0_look_73 (fun H locs hP hD hS => ?_)
          replace hP : va_P D vwCl (fw a cI cJ st co ro cA cD su jA ((jD'.1 ||| ((1 : Int32) <<< ((rd st (p1 + (v3 * cD.2.2.2))) &&& 31))), (jD'.2.1 + (1 : Int32)), jD'.2.2)) H := hP
          replace hD : va_D A (fw a cI cJ st co ro cA cD su jA ((jD'.1 ||| ((1 : Int32) <<< ((rd st (p1 + (v3 * cD.2.2.2))) &&& 31))), (jD'.2.1 + (1 : Int32)), jD'.2.2)) := hD
          refine lv_aload_n hx hb dX0_look_76 rfl (lv_at hl 1 rfl) ?_
          refine lv_dup hx hb dX0_look_77 rfl ?_
          refine va_get (D := D) (ci := 0) (v := .int jD'.2.2) (C := RX0) (T := TX0) (N := 9) hx hb hts iX0 hown hK hP 3 rfl rfl 8 (by decide) f47 (fun _ h9 => h9) rfl dX0_look_78 ?_
          refine lv_iload hx hb dX0_look_81 (lv_at hl 0 rfl) ?_
          refine lv_iadd hx hb dX0_look_83 ?_
          refine va_put (D := D) (ci := 0) (v := .int (jD'.2.2 + (rd st (p1 + (v3 * cD.2.2.2))))) (ty := .int) (C := RX0) (T := TX0) (N := 9) hx hb hts iX0 tyX0 tyX0_ok nmX0 hown hK hP hD hS 3 rfl rfl 8 (by decide) f47 (fun _ h9 => h9) rfl (by decide +kernel) rfl rfl (Nat.le_of_ble_eq_true rfl) dX0_look_84 (fun H locs hP hD hS => ?_)
          replace hP : va_P D vwCl (fw a cI cJ st co ro cA cD su jA ((jD'.1 ||| ((1 : Int32) <<< ((rd st (p1 + (v3 * cD.2.2.2))) &&& 31))), (jD'.2.1 + (1 : Int32)), (jD'.2.2 + (rd st (p1 + (v3 * cD.2.2.2)))))) H := hP
          replace hD : va_D A (fw a cI cJ st co ro cA cD su jA ((jD'.1 ||| ((1 : Int32) <<< ((rd st (p1 + (v3 * cD.2.2.2))) &&& 31))), (jD'.2.1 + (1 : Int32)), (jD'.2.2 + (rd st (p1 + (v3 * cD.2.2.2)))))) := hD
          refine lv_iinc (v := (v3 + 1)) (lv' := [(3, .int (v3 + 1)), (4, .int (rd st (p1 + (v3 * cD.2.2.2)))), (0, .ref (a 3)), (1, .int p1), (2, .int v2)]) hx hb dX0_look_87 hl (k := 4) rfl (by rfl) (by decide) rfl (fun ls hl => ?_)
          refine lv_goto (tgt := 26) hx hb dX0_look_90 (by decide) ?_
          exact ih v2 (v3 + 1) ((jD'.1 ||| ((1 : Int32) <<< ((rd st (p1 + (v3 * cD.2.2.2))) &&& 31))), (jD'.2.1 + (1 : Int32)), (jD'.2.2 + (rd st (p1 + (v3 * cD.2.2.2))))) hM H locs ls hP hD hS (lv_sub hl [2, 3, 4, 0] rfl)
  rw [mX0_look] at hM
  refine lv_aload_n hx hb dX0_look_0 rfl (lv_at hl 0 rfl) ?_
  refine lv_iconst (v := 0) hx hb dX0_look_1 (by decide) ?_
  refine va_put (D := D) (ci := 0) (v := .int (0 : Int32)) (ty := .int) (C := RX0) (T := TX0) (N := 9) hx hb hts iX0 tyX0 tyX0_ok nmX0 hown hK hP hD hS 3 rfl rfl 6 (by decide) f58 (fun _ h9 => h9) rfl (by decide +kernel) rfl rfl (Nat.le_of_ble_eq_true rfl) dX0_look_2 (fun H locs hP hD hS => ?_)
  replace hP : va_P D vwCl (fw a cI cJ st co ro cA cD su jA ((0 : Int32), jD.2.1, jD.2.2)) H := hP
  replace hD : va_D A (fw a cI cJ st co ro cA cD su jA ((0 : Int32), jD.2.1, jD.2.2)) := hD
  refine lv_aload_n hx hb dX0_look_5 rfl (lv_at hl 0 rfl) ?_
  refine lv_iconst (v := 0) hx hb dX0_look_6 (by decide) ?_
  refine va_put (D := D) (ci := 0) (v := .int (0 : Int32)) (ty := .int) (C := RX0) (T := TX0) (N := 9) hx hb hts iX0 tyX0 tyX0_ok nmX0 hown hK hP hD hS 3 rfl rfl 7 (by decide) f44 (fun _ h9 => h9) rfl (by decide +kernel) rfl rfl (Nat.le_of_ble_eq_true rfl) dX0_look_7 (fun H locs hP hD hS => ?_)
  replace hP : va_P D vwCl (fw a cI cJ st co ro cA cD su jA ((0 : Int32), (0 : Int32), jD.2.2)) H := hP
  replace hD : va_D A (fw a cI cJ st co ro cA cD su jA ((0 : Int32), (0 : Int32), jD.2.2)) := hD
  refine lv_aload_n hx hb dX0_look_10 rfl (lv_at hl 0 rfl) ?_
  refine lv_iconst (v := 0) hx hb dX0_look_11 (by decide) ?_
  refine va_put (D := D) (ci := 0) (v := .int (0 : Int32)) (ty := .int) (C := RX0) (T := TX0) (N := 9) hx hb hts iX0 tyX0 tyX0_ok nmX0 hown hK hP hD hS 3 rfl rfl 8 (by decide) f47 (fun _ h9 => h9) rfl (by decide +kernel) rfl rfl (Nat.le_of_ble_eq_true rfl) dX0_look_12 (fun H locs hP hD hS => ?_)
  replace hP : va_P D vwCl (fw a cI cJ st co ro cA cD su jA ((0 : Int32), (0 : Int32), (0 : Int32))) H := hP
  replace hD : va_D A (fw a cI cJ st co ro cA cD su jA ((0 : Int32), (0 : Int32), (0 : Int32))) := hD
  refine lv_aload_n hx hb dX0_look_15 rfl (lv_at hl 0 rfl) ?_
  refine va_get (D := D) (ci := 0) (v := .ref (a 9)) (C := RX0) (T := TX0) (N := 9) hx hb hts iX0 hown hK hP 3 rfl rfl 4 (by decide) f25 (fun _ h9 => h9) rfl dX0_look_16 ?_
  refine lv_iload_n hx hb dX0_look_19 rfl (lv_at hl 1 rfl) ?_
  refine cR_i (va_runSN (As := [.ref (a 9), .int p1]) (rest := []) ⟨hx, hb, hml, hown, hts⟩ (kX4_read (D := D) (cI := cI) (cJ := cJ) (a 9) cD.2.2.1 p1 H.size) ⟨va_cnB 2 hts gX0_look_X4_read_n36 rfl rfl rfl (hN (.methodLinkNest RX0 36 yX4_read "CryptSums") (by decide +kernel)) (hts (.initialized RX4) (by decide +kernel)) (by decide +kernel) ⟨Nat.le_of_ble_eq_true rfl, Nat.le_of_ble_eq_true rfl⟩, hts (.static yX4_read) (by decide +kernel), trivial⟩ (preS [.ref (a 9), .int p1] hN hK (hP.sub (ws' := [((a 9), .inl (cI, 36, .inl cD.2.2.1))]) [9] rfl) (hD.sub (ws' := [((a 9), .inl (cI, 36, .inl cD.2.2.1))]) [9] (by decide) rfl)) rfl rfl hl.1 rfl (lv_room (Nat.le_of_ble_eq_true rfl)) dX0_look_20 ⟨Nat.le_of_ble_eq_true rfl, Nat.le_of_ble_eq_true rfl⟩) hP hS (fun r u H locs hw hP hS => ?_)
  rw [hw]
  refine lv_istore_n (lv' := [(2, .int (rd cD.2.2.1 p1)), (0, .ref (a 3)), (1, .int p1)]) hx hb dX0_look_23 rfl hl (by decide) rfl (fun ls hl => ?_)
  refine lv_iconst (v := 0) hx hb dX0_look_24 (by decide) ?_
  refine lv_istore_n (lv' := [(3, .int (0 : Int32)), (2, .int (rd cD.2.2.1 p1)), (0, .ref (a 3)), (1, .int p1)]) hx hb dX0_look_25 rfl hl (by decide) rfl (fun ls hl => ?_)
  exact c26 N (rd cD.2.2.1 p1) (0 : Int32) ((0 : Int32), (0 : Int32), (0 : Int32)) hM H locs ls hP hD hS (lv_sub hl [2, 3, 1, 0] rfl)
def mX0_sawAlike (N : Nat) (jA : JT) : Option Int32 :=
  (if (bc jA.1) = jA.2.1 then
  some (0 : Int32)
  else
  some (1 : Int32))
abbrev rmX0_sawAlike : Room := { frames := 1, cells := 0, slots := 0, locals := 20 }
set_option maxHeartbeats 4000000 in
set_option maxRecDepth 100000 in
theorem kX0_sawAlike_A {l : Launch} {D : va_G} {cI cJ : ClassId} (N : Nat) (a : Nat → Nat) {st : RowI} {co : Int32} {ro : Int32} {cA : CS} {cD : CS} {su : RowJ} {jA : JT} {jD : JT} {o : Int32} (hM : mX0_sawAlike N jA = some o) (sz : Nat) : Met l yX0_sawAlike wsX0_sawAlike rmX0_sawAlike (va_Pc [.ref (a 2)] (Pre D cI cJ (fw a cI cJ st co ro cA cD su jA jD) sz)) (va_Qi (fun (r : Int32) (_ : Unit) => r = o ∧ bz r) (fun _ _ => True) (fun _ => False)) 0 0 (fun _ => False) := by
  refine xofR (cc := cX0_sawAlike) (maxL := 1) (ret := (some .boolean)) rfl (by decide) rfl ?_
  intro p e s m args below meth c ls Q A hQ hAe hx hb hr hml hown hts hlocks hN hK H locs hP hD hS hl
  replace hown : s.vm.findClass RX0 = some m.cls := hown
  replace hl : lv_has ls 1 [(0, .ref (a 2))] := hl
  have iX0 : ∀ w ∈ wsX00, w ∈ wsX0_sawAlike := by decide +kernel
  have f44 := hts (.fieldLink RX0 44 "CryptSums$Corridors" "seenStones" "I") (by decide +kernel)
  have f58 := hts (.fieldLink RX0 58 "CryptSums$Corridors" "seenNumbers" "I") (by decide +kernel)
  rw [mX0_sawAlike] at hM
  refine lv_aload_n hx hb dX0_sawAlike_0 rfl (lv_at hl 0 rfl) ?_
  refine va_get (D := D) (ci := 0) (v := .int jA.1) (C := RX0) (T := TX0) (N := 9) hx hb hts iX0 hown hK hP 2 rfl rfl 6 (by decide) f58 (fun _ h9 => h9) rfl dX0_sawAlike_1 ?_
  refine cR_i (va_runS (As := [.int jA.1]) (rest := []) ⟨hx, hb, hml, hown, hts⟩ (kJ6_bitCount (D := D) (cI := cI) (cJ := cJ) jA.1 H.size) (va_cwS 1 hts gX0_sawAlike_J6_bitCount_0f7a4 rfl rfl rfl (by decide +kernel) ⟨Nat.le_of_ble_eq_true rfl, Nat.le_of_ble_eq_true rfl⟩) (preS [.int jA.1] hN hK (hP.sub (ws' := zw) [] rfl) (hD.sub (ws' := zw) [] (by decide) rfl)) rfl rfl hl.1 rfl (lv_room (Nat.le_of_ble_eq_true rfl)) dX0_sawAlike_4 ⟨Nat.le_of_ble_eq_true rfl, Nat.le_of_ble_eq_true rfl⟩) hP hS (fun r u H locs hw hP hS => ?_)
  rw [hw]
  refine lv_aload_n hx hb dX0_sawAlike_7 rfl (lv_at hl 0 rfl) ?_
  refine va_get (D := D) (ci := 0) (v := .int jA.2.1) (C := RX0) (T := TX0) (N := 9) hx hb hts iX0 hown hK hP 2 rfl rfl 7 (by decide) f44 (fun _ h9 => h9) rfl dX0_sawAlike_8 ?_
  refine lv_icmp_eq (tgt := 18) hx hb dX0_sawAlike_11 (by decide) (fun hcc => ?_) (fun hcc => ?_)
  · replace hM := it_p hcc hM
    refine lv_iconst (v := 0) hx hb dX0_sawAlike_18 (by decide) ?_
    obtain rfl := Option.some.inj hM
    subst hQ hAe
    exact W.zret (ty := .boolean) (v := (0 : Int32)) hx hb hr (nb_z (Or.inl rfl)) (fun t ht hW => ⟨⟨(0 : Int32), (), rfl, ⟨rfl, Or.inl rfl⟩, trivial⟩, hS.F ht⟩) hS.2.2 dX0_sawAlike_19
  · replace hM := it_n hcc hM
    refine lv_iconst (v := 1) hx hb dX0_sawAlike_14 (by decide) ?_
    refine lv_goto (tgt := 19) hx hb dX0_sawAlike_15 (by decide) ?_
    obtain rfl := Option.some.inj hM
    subst hQ hAe
    exact W.zret (ty := .boolean) (v := (1 : Int32)) hx hb hr (nb_z (Or.inr rfl)) (fun t ht hW => ⟨⟨(1 : Int32), (), rfl, ⟨rfl, Or.inr rfl⟩, trivial⟩, hS.F ht⟩) hS.2.2 dX0_sawAlike_19
set_option maxHeartbeats 4000000 in
set_option maxRecDepth 100000 in
theorem kX0_sawAlike_D {l : Launch} {D : va_G} {cI cJ : ClassId} (N : Nat) (a : Nat → Nat) {st : RowI} {co : Int32} {ro : Int32} {cA : CS} {cD : CS} {su : RowJ} {jA : JT} {jD : JT} {o : Int32} (hM : mX0_sawAlike N jD = some o) (sz : Nat) : Met l yX0_sawAlike wsX0_sawAlike rmX0_sawAlike (va_Pc [.ref (a 3)] (Pre D cI cJ (fw a cI cJ st co ro cA cD su jA jD) sz)) (va_Qi (fun (r : Int32) (_ : Unit) => r = o ∧ bz r) (fun _ _ => True) (fun _ => False)) 0 0 (fun _ => False) := by
  refine xofR (cc := cX0_sawAlike) (maxL := 1) (ret := (some .boolean)) rfl (by decide) rfl ?_
  intro p e s m args below meth c ls Q A hQ hAe hx hb hr hml hown hts hlocks hN hK H locs hP hD hS hl
  replace hown : s.vm.findClass RX0 = some m.cls := hown
  replace hl : lv_has ls 1 [(0, .ref (a 3))] := hl
  have iX0 : ∀ w ∈ wsX00, w ∈ wsX0_sawAlike := by decide +kernel
  have f44 := hts (.fieldLink RX0 44 "CryptSums$Corridors" "seenStones" "I") (by decide +kernel)
  have f58 := hts (.fieldLink RX0 58 "CryptSums$Corridors" "seenNumbers" "I") (by decide +kernel)
  rw [mX0_sawAlike] at hM
  refine lv_aload_n hx hb dX0_sawAlike_0 rfl (lv_at hl 0 rfl) ?_
  refine va_get (D := D) (ci := 0) (v := .int jD.1) (C := RX0) (T := TX0) (N := 9) hx hb hts iX0 hown hK hP 3 rfl rfl 6 (by decide) f58 (fun _ h9 => h9) rfl dX0_sawAlike_1 ?_
  refine cR_i (va_runS (As := [.int jD.1]) (rest := []) ⟨hx, hb, hml, hown, hts⟩ (kJ6_bitCount (D := D) (cI := cI) (cJ := cJ) jD.1 H.size) (va_cwS 1 hts gX0_sawAlike_J6_bitCount_0f7a4 rfl rfl rfl (by decide +kernel) ⟨Nat.le_of_ble_eq_true rfl, Nat.le_of_ble_eq_true rfl⟩) (preS [.int jD.1] hN hK (hP.sub (ws' := zw) [] rfl) (hD.sub (ws' := zw) [] (by decide) rfl)) rfl rfl hl.1 rfl (lv_room (Nat.le_of_ble_eq_true rfl)) dX0_sawAlike_4 ⟨Nat.le_of_ble_eq_true rfl, Nat.le_of_ble_eq_true rfl⟩) hP hS (fun r u H locs hw hP hS => ?_)
  rw [hw]
  refine lv_aload_n hx hb dX0_sawAlike_7 rfl (lv_at hl 0 rfl) ?_
  refine va_get (D := D) (ci := 0) (v := .int jD.2.1) (C := RX0) (T := TX0) (N := 9) hx hb hts iX0 hown hK hP 3 rfl rfl 7 (by decide) f44 (fun _ h9 => h9) rfl dX0_sawAlike_8 ?_
  refine lv_icmp_eq (tgt := 18) hx hb dX0_sawAlike_11 (by decide) (fun hcc => ?_) (fun hcc => ?_)
  · replace hM := it_p hcc hM
    refine lv_iconst (v := 0) hx hb dX0_sawAlike_18 (by decide) ?_
    obtain rfl := Option.some.inj hM
    subst hQ hAe
    exact W.zret (ty := .boolean) (v := (0 : Int32)) hx hb hr (nb_z (Or.inl rfl)) (fun t ht hW => ⟨⟨(0 : Int32), (), rfl, ⟨rfl, Or.inl rfl⟩, trivial⟩, hS.F ht⟩) hS.2.2 dX0_sawAlike_19
  · replace hM := it_n hcc hM
    refine lv_iconst (v := 1) hx hb dX0_sawAlike_14 (by decide) ?_
    refine lv_goto (tgt := 19) hx hb dX0_sawAlike_15 (by decide) ?_
    obtain rfl := Option.some.inj hM
    subst hQ hAe
    exact W.zret (ty := .boolean) (v := (1 : Int32)) hx hb hr (nb_z (Or.inr rfl)) (fun t ht hW => ⟨⟨(1 : Int32), (), rfl, ⟨rfl, Or.inr rfl⟩, trivial⟩, hS.F ht⟩) hS.2.2 dX0_sawAlike_19
def mX0_clear_7 (N : Nat) : Nat → Int32 → CS → Option CS
  | 0 => fun _ _ => none
  | n + 1 => fun v2 cA' => (if (36 : Int32) ≤ v2 then
  some cA'
  else
  (mX0_clear_7 N n (v2 + 1) ((wr cA'.1 v2 (0 : Int32)), cA'.2.1, cA'.2.2.1, cA'.2.2.2)))
def mX0_clear (N : Nat) (cA : CS) (p1 : Int32) : Option CS :=
  (mX0_clear_7 N N (0 : Int32) (cA.1, cA.2.1, cA.2.2.1, p1))
abbrev rmX0_clear : Room := { frames := 1, cells := 0, slots := 0, locals := 22 }
set_option maxHeartbeats 4000000 in
set_option maxRecDepth 100000 in
theorem kX0_clear_A {l : Launch} {D : va_G} {cI cJ : ClassId} (N : Nat) (a : Nat → Nat) {st : RowI} {co : Int32} {ro : Int32} {cA : CS} {cD : CS} {su : RowJ} {jA : JT} {jD : JT} {p1 : Int32} {o : CS} (hM : mX0_clear N cA p1 = some o) (sz : Nat) : Met l yX0_clear wsX0_clear rmX0_clear (va_Pc [.ref (a 2), .int p1] (Pre D cI cJ (fw a cI cJ st co ro cA cD su jA jD) sz)) (va_Qv (fun (_ : Unit) => True) (aft D (fw a cI cJ st co ro cA cD su jA jD) sz (fun (_ : Unit) => (fw a cI cJ st co ro o cD su jA jD))) (va_A (fw a cI cJ st co ro cA cD su jA jD) sz)) 0 0 (va_A (fw a cI cJ st co ro cA cD su jA jD) sz) := by
  refine xofW (cc := cX0_clear) (maxL := 3) (ret := none) rfl (by decide) rfl ?_
  intro p e s m args below meth c ls Q A hQ hAe hx hb hr hml hown hts hlocks hnm hN hK H locs hP hD hS hA hl
  replace hown : s.vm.findClass RX0 = some m.cls := hown
  replace hl : lv_has ls 3 [(0, .ref (a 2)), (1, .int p1)] := hl
  have iX0 : ∀ w ∈ wsX00, w ∈ wsX0_clear := by decide +kernel
  have f19 := hts (.fieldLink RX0 19 "CryptSums$Corridors" "told" "[I") (by decide +kernel)
  have f28 := hts (.fieldLink RX0 28 "CryptSums$Corridors" "step" "I") (by decide +kernel)
  have c7 : ∀ (n : Nat), ∀ (v2 : Int32) (cA' : CS), mX0_clear_7 N n v2 cA' = some o → ∀ (H : Heap) (locs : List Loc) (ls : Array Slot), va_P D vwCl (fw a cI cJ st co ro cA' cD su jA jD) H → va_D A (fw a cI cJ st co ro cA' cD su jA jD) → va_S A s.heap H locs → lv_has ls 3 [(0, .ref (a 2)), (2, .int v2)] → W p l e rmX0_clear s m args below meth c H locs 0 0 Q (F0 m 7 ls []) := by
    intro n
    induction n with
    | zero =>
      intro v2 cA' hM
      rw [mX0_clear_7] at hM
      cases hM
    | succ n ih =>
      intro v2 cA' hM H locs ls hP hD hS hl
      rw [mX0_clear_7] at hM
      refine lv_iload_n hx hb dX0_clear_7 rfl (lv_at hl 1 rfl) ?_
      refine lv_bipush (v := 36) hx hb dX0_clear_8 (by decide) ?_
      refine lv_icmp_ge (tgt := 28) hx hb dX0_clear_10 (by decide) (fun hcc => ?_) (fun hcc => ?_)
      · replace hM := it_p hcc hM
        obtain rfl := Option.some.inj hM
        subst hQ hAe
        exact W.vret hx hb hr (fun t ht hW => ⟨⟨(), rfl, trivial, ⟨by rw [ht]; exact hP, hD⟩⟩, hS.F ht⟩) hS.2.2 dX0_clear_28
      · replace hM := it_n hcc hM
        refine lv_aload_n hx hb dX0_clear_13 rfl (lv_at hl 0 rfl) ?_
        refine va_get (D := D) (ci := 0) (v := .ref (a 4)) (C := RX0) (T := TX0) (N := 9) hx hb hts iX0 hown hK hP 2 rfl rfl 2 (by decide) f19 (fun _ h9 => h9) rfl dX0_clear_14 ?_
        refine lv_iload_n hx hb dX0_clear_17 rfl (lv_at hl 1 rfl) ?_
        refine lv_iconst (v := 0) hx hb dX0_clear_18 (by decide) ?_
        refine cW_v [4] [0, 1, 2, 3, 5, 6, 7, 8, 9, 10, 11] (va_runSN (As := [.ref (a 4), .int v2, .int (0 : Int32)]) (rest := []) ⟨hx, hb, hml, hown, hts⟩ (kX4_write (D := D) (cI := cI) (cJ := cJ) (a 4) cA'.1 v2 (0 : Int32) H.size) ⟨va_cnB 3 hts gX0_clear_X4_write_n32 rfl rfl rfl (hN (.methodLinkNest RX0 32 yX4_write "CryptSums") (by decide +kernel)) (hts (.initialized RX4) (by decide +kernel)) (by decide +kernel) ⟨Nat.le_of_ble_eq_true rfl, Nat.le_of_ble_eq_true rfl⟩, hts (.static yX4_write) (by decide +kernel), trivial⟩ (preS [.ref (a 4), .int v2, .int (0 : Int32)] hN hK (hP.sub (ws' := [((a 4), .inl (cI, 36, .inl cA'.1))]) [4] rfl) (hD.sub (ws' := [((a 4), .inl (cI, 36, .inl cA'.1))]) [4] (by decide) rfl)) rfl rfl hl.1 rfl (lv_room (Nat.le_of_ble_eq_true rfl)) dX0_clear_19 ⟨Nat.le_of_ble_eq_true rfl, Nat.le_of_ble_eq_true rfl⟩) hP hD hS hA rfl (wr := (((fw a cI cJ st co ro cA' cD su jA jD)).eraseIdx 4)) rfl (by decide) (by decide) (fun u H locs hw hP hD hS => ?_)
        replace hP := hP.sub (ws' := (fw a cI cJ st co ro ((wr cA'.1 v2 (0 : Int32)), cA'.2.1, cA'.2.2.1, cA'.2.2.2) cD su jA jD)) [0, 1, 2, 3, 11, 4, 5, 6, 7, 8, 9, 10] rfl
        replace hD := hD.sub (ws' := (fw a cI cJ st co ro ((wr cA'.1 v2 (0 : Int32)), cA'.2.1, cA'.2.2.1, cA'.2.2.2) cD su jA jD)) [0, 1, 2, 3, 11, 4, 5, 6, 7, 8, 9, 10] (by decide) rfl
        refine lv_iinc (v := (v2 + 1)) (lv' := [(2, .int (v2 + 1)), (0, .ref (a 2))]) hx hb dX0_clear_22 hl (k := 1) rfl (by rfl) (by decide) rfl (fun ls hl => ?_)
        refine lv_goto (tgt := 7) hx hb dX0_clear_25 (by decide) ?_
        exact ih (v2 + 1) ((wr cA'.1 v2 (0 : Int32)), cA'.2.1, cA'.2.2.1, cA'.2.2.2) hM H locs ls hP hD hS (lv_sub hl [1, 0] rfl)
  rw [mX0_clear] at hM
  refine lv_aload_n hx hb dX0_clear_0 rfl (lv_at hl 0 rfl) ?_
  refine lv_iload_n hx hb dX0_clear_1 rfl (lv_at hl 1 rfl) ?_
  refine va_put (D := D) (ci := 0) (v := .int p1) (ty := .int) (C := RX0) (T := TX0) (N := 9) hx hb hts iX0 tyX0 tyX0_ok nmX0 hown hK hP hD hS 2 rfl rfl 5 (by decide) f28 (fun _ h9 => h9) rfl (by decide +kernel) rfl rfl (Nat.le_of_ble_eq_true rfl) dX0_clear_2 (fun H locs hP hD hS => ?_)
  replace hP : va_P D vwCl (fw a cI cJ st co ro (cA.1, cA.2.1, cA.2.2.1, p1) cD su jA jD) H := hP
  replace hD : va_D A (fw a cI cJ st co ro (cA.1, cA.2.1, cA.2.2.1, p1) cD su jA jD) := hD
  refine lv_iconst (v := 0) hx hb dX0_clear_5 (by decide) ?_
  refine lv_istore_n (lv' := [(2, .int (0 : Int32)), (0, .ref (a 2)), (1, .int p1)]) hx hb dX0_clear_6 rfl hl (by decide) rfl (fun ls hl => ?_)
  exact c7 N (0 : Int32) (cA.1, cA.2.1, cA.2.2.1, p1) hM H locs ls hP hD hS (lv_sub hl [1, 0] rfl)
set_option maxHeartbeats 4000000 in
set_option maxRecDepth 100000 in
theorem kX0_clear_D {l : Launch} {D : va_G} {cI cJ : ClassId} (N : Nat) (a : Nat → Nat) {st : RowI} {co : Int32} {ro : Int32} {cA : CS} {cD : CS} {su : RowJ} {jA : JT} {jD : JT} {p1 : Int32} {o : CS} (hM : mX0_clear N cD p1 = some o) (sz : Nat) : Met l yX0_clear wsX0_clear rmX0_clear (va_Pc [.ref (a 3), .int p1] (Pre D cI cJ (fw a cI cJ st co ro cA cD su jA jD) sz)) (va_Qv (fun (_ : Unit) => True) (aft D (fw a cI cJ st co ro cA cD su jA jD) sz (fun (_ : Unit) => (fw a cI cJ st co ro cA o su jA jD))) (va_A (fw a cI cJ st co ro cA cD su jA jD) sz)) 0 0 (va_A (fw a cI cJ st co ro cA cD su jA jD) sz) := by
  refine xofW (cc := cX0_clear) (maxL := 3) (ret := none) rfl (by decide) rfl ?_
  intro p e s m args below meth c ls Q A hQ hAe hx hb hr hml hown hts hlocks hnm hN hK H locs hP hD hS hA hl
  replace hown : s.vm.findClass RX0 = some m.cls := hown
  replace hl : lv_has ls 3 [(0, .ref (a 3)), (1, .int p1)] := hl
  have iX0 : ∀ w ∈ wsX00, w ∈ wsX0_clear := by decide +kernel
  have f19 := hts (.fieldLink RX0 19 "CryptSums$Corridors" "told" "[I") (by decide +kernel)
  have f28 := hts (.fieldLink RX0 28 "CryptSums$Corridors" "step" "I") (by decide +kernel)
  have c7 : ∀ (n : Nat), ∀ (v2 : Int32) (cD' : CS), mX0_clear_7 N n v2 cD' = some o → ∀ (H : Heap) (locs : List Loc) (ls : Array Slot), va_P D vwCl (fw a cI cJ st co ro cA cD' su jA jD) H → va_D A (fw a cI cJ st co ro cA cD' su jA jD) → va_S A s.heap H locs → lv_has ls 3 [(0, .ref (a 3)), (2, .int v2)] → W p l e rmX0_clear s m args below meth c H locs 0 0 Q (F0 m 7 ls []) := by
    intro n
    induction n with
    | zero =>
      intro v2 cD' hM
      rw [mX0_clear_7] at hM
      cases hM
    | succ n ih =>
      intro v2 cD' hM H locs ls hP hD hS hl
      rw [mX0_clear_7] at hM
      refine lv_iload_n hx hb dX0_clear_7 rfl (lv_at hl 1 rfl) ?_
      refine lv_bipush (v := 36) hx hb dX0_clear_8 (by decide) ?_
      refine lv_icmp_ge (tgt := 28) hx hb dX0_clear_10 (by decide) (fun hcc => ?_) (fun hcc => ?_)
      · replace hM := it_p hcc hM
        obtain rfl := Option.some.inj hM
        subst hQ hAe
        exact W.vret hx hb hr (fun t ht hW => ⟨⟨(), rfl, trivial, ⟨by rw [ht]; exact hP, hD⟩⟩, hS.F ht⟩) hS.2.2 dX0_clear_28
      · replace hM := it_n hcc hM
        refine lv_aload_n hx hb dX0_clear_13 rfl (lv_at hl 0 rfl) ?_
        refine va_get (D := D) (ci := 0) (v := .ref (a 7)) (C := RX0) (T := TX0) (N := 9) hx hb hts iX0 hown hK hP 3 rfl rfl 2 (by decide) f19 (fun _ h9 => h9) rfl dX0_clear_14 ?_
        refine lv_iload_n hx hb dX0_clear_17 rfl (lv_at hl 1 rfl) ?_
        refine lv_iconst (v := 0) hx hb dX0_clear_18 (by decide) ?_
        refine cW_v [7] [0, 1, 2, 3, 4, 5, 6, 8, 9, 10, 11] (va_runSN (As := [.ref (a 7), .int v2, .int (0 : Int32)]) (rest := []) ⟨hx, hb, hml, hown, hts⟩ (kX4_write (D := D) (cI := cI) (cJ := cJ) (a 7) cD'.1 v2 (0 : Int32) H.size) ⟨va_cnB 3 hts gX0_clear_X4_write_n32 rfl rfl rfl (hN (.methodLinkNest RX0 32 yX4_write "CryptSums") (by decide +kernel)) (hts (.initialized RX4) (by decide +kernel)) (by decide +kernel) ⟨Nat.le_of_ble_eq_true rfl, Nat.le_of_ble_eq_true rfl⟩, hts (.static yX4_write) (by decide +kernel), trivial⟩ (preS [.ref (a 7), .int v2, .int (0 : Int32)] hN hK (hP.sub (ws' := [((a 7), .inl (cI, 36, .inl cD'.1))]) [7] rfl) (hD.sub (ws' := [((a 7), .inl (cI, 36, .inl cD'.1))]) [7] (by decide) rfl)) rfl rfl hl.1 rfl (lv_room (Nat.le_of_ble_eq_true rfl)) dX0_clear_19 ⟨Nat.le_of_ble_eq_true rfl, Nat.le_of_ble_eq_true rfl⟩) hP hD hS hA rfl (wr := (((fw a cI cJ st co ro cA cD' su jA jD)).eraseIdx 7)) rfl (by decide) (by decide) (fun u H locs hw hP hD hS => ?_)
        replace hP := hP.sub (ws' := (fw a cI cJ st co ro cA ((wr cD'.1 v2 (0 : Int32)), cD'.2.1, cD'.2.2.1, cD'.2.2.2) su jA jD)) [0, 1, 2, 3, 4, 5, 6, 11, 7, 8, 9, 10] rfl
        replace hD := hD.sub (ws' := (fw a cI cJ st co ro cA ((wr cD'.1 v2 (0 : Int32)), cD'.2.1, cD'.2.2.1, cD'.2.2.2) su jA jD)) [0, 1, 2, 3, 4, 5, 6, 11, 7, 8, 9, 10] (by decide) rfl
        refine lv_iinc (v := (v2 + 1)) (lv' := [(2, .int (v2 + 1)), (0, .ref (a 3))]) hx hb dX0_clear_22 hl (k := 1) rfl (by rfl) (by decide) rfl (fun ls hl => ?_)
        refine lv_goto (tgt := 7) hx hb dX0_clear_25 (by decide) ?_
        exact ih (v2 + 1) ((wr cD'.1 v2 (0 : Int32)), cD'.2.1, cD'.2.2.1, cD'.2.2.2) hM H locs ls hP hD hS (lv_sub hl [1, 0] rfl)
  rw [mX0_clear] at hM
  refine lv_aload_n hx hb dX0_clear_0 rfl (lv_at hl 0 rfl) ?_
  refine lv_iload_n hx hb dX0_clear_1 rfl (lv_at hl 1 rfl) ?_
  refine va_put (D := D) (ci := 0) (v := .int p1) (ty := .int) (C := RX0) (T := TX0) (N := 9) hx hb hts iX0 tyX0 tyX0_ok nmX0 hown hK hP hD hS 3 rfl rfl 5 (by decide) f28 (fun _ h9 => h9) rfl (by decide +kernel) rfl rfl (Nat.le_of_ble_eq_true rfl) dX0_clear_2 (fun H locs hP hD hS => ?_)
  replace hP : va_P D vwCl (fw a cI cJ st co ro cA (cD.1, cD.2.1, cD.2.2.1, p1) su jA jD) H := hP
  replace hD : va_D A (fw a cI cJ st co ro cA (cD.1, cD.2.1, cD.2.2.1, p1) su jA jD) := hD
  refine lv_iconst (v := 0) hx hb dX0_clear_5 (by decide) ?_
  refine lv_istore_n (lv' := [(2, .int (0 : Int32)), (0, .ref (a 3)), (1, .int p1)]) hx hb dX0_clear_6 rfl hl (by decide) rfl (fun ls hl => ?_)
  exact c7 N (0 : Int32) (cD.1, cD.2.1, cD.2.2.1, p1) hM H locs ls hP hD hS (lv_sub hl [1, 0] rfl)
def mX0_tellSum (N : Nat) (cA : CS) (p1 : Int32) (p2 : Int32) : Option (Int32 × CS) :=
  some ((rd cA.1 p1), ((wr cA.1 p1 p2), cA.2.1, cA.2.2.1, cA.2.2.2))
abbrev rmX0_tellSum : Room := { frames := 1, cells := 0, slots := 0, locals := 22 }
set_option maxHeartbeats 4000000 in
set_option maxRecDepth 100000 in
theorem kX0_tellSum_A {l : Launch} {D : va_G} {cI cJ : ClassId} (N : Nat) (a : Nat → Nat) {st : RowI} {co : Int32} {ro : Int32} {cA : CS} {cD : CS} {su : RowJ} {jA : JT} {jD : JT} {p1 : Int32} {p2 : Int32} {o : (Int32 × CS)} (hM : mX0_tellSum N cA p1 p2 = some o) (sz : Nat) : Met l yX0_tellSum wsX0_tellSum rmX0_tellSum (va_Pc [.ref (a 2), .int p1, .int p2] (Pre D cI cJ (fw a cI cJ st co ro cA cD su jA jD) sz)) (va_Qi (fun (r : Int32) (_ : Unit) => r = o.1) (aft D (fw a cI cJ st co ro cA cD su jA jD) sz (fun (_ : Unit) => (fw a cI cJ st co ro o.2 cD su jA jD))) (va_A (fw a cI cJ st co ro cA cD su jA jD) sz)) 0 0 (va_A (fw a cI cJ st co ro cA cD su jA jD) sz) := by
  refine xofW (cc := cX0_tellSum) (maxL := 4) (ret := (some .int)) rfl (by decide) rfl ?_
  intro p e s m args below meth c ls Q A hQ hAe hx hb hr hml hown hts hlocks hnm hN hK H locs hP hD hS hA hl
  replace hown : s.vm.findClass RX0 = some m.cls := hown
  replace hl : lv_has ls 4 [(0, .ref (a 2)), (1, .int p1), (2, .int p2)] := hl
  have iX0 : ∀ w ∈ wsX00, w ∈ wsX0_tellSum := by decide +kernel
  have f19 := hts (.fieldLink RX0 19 "CryptSums$Corridors" "told" "[I") (by decide +kernel)
  rw [mX0_tellSum] at hM
  refine lv_aload_n hx hb dX0_tellSum_0 rfl (lv_at hl 0 rfl) ?_
  refine va_get (D := D) (ci := 0) (v := .ref (a 4)) (C := RX0) (T := TX0) (N := 9) hx hb hts iX0 hown hK hP 2 rfl rfl 2 (by decide) f19 (fun _ h9 => h9) rfl dX0_tellSum_1 ?_
  refine lv_iload_n hx hb dX0_tellSum_4 rfl (lv_at hl 1 rfl) ?_
  refine cR_i (va_runSN (As := [.ref (a 4), .int p1]) (rest := []) ⟨hx, hb, hml, hown, hts⟩ (kX4_read (D := D) (cI := cI) (cJ := cJ) (a 4) cA.1 p1 H.size) ⟨va_cnB 2 hts gX0_tellSum_X4_read_n36 rfl rfl rfl (hN (.methodLinkNest RX0 36 yX4_read "CryptSums") (by decide +kernel)) (hts (.initialized RX4) (by decide +kernel)) (by decide +kernel) ⟨Nat.le_of_ble_eq_true rfl, Nat.le_of_ble_eq_true rfl⟩, hts (.static yX4_read) (by decide +kernel), trivial⟩ (preS [.ref (a 4), .int p1] hN hK (hP.sub (ws' := [((a 4), .inl (cI, 36, .inl cA.1))]) [4] rfl) (hD.sub (ws' := [((a 4), .inl (cI, 36, .inl cA.1))]) [4] (by decide) rfl)) rfl rfl hl.1 rfl (lv_room (Nat.le_of_ble_eq_true rfl)) dX0_tellSum_5 ⟨Nat.le_of_ble_eq_true rfl, Nat.le_of_ble_eq_true rfl⟩) hP hS (fun r u H locs hw hP hS => ?_)
  rw [hw]
  refine lv_istore_n (lv' := [(3, .int (rd cA.1 p1)), (0, .ref (a 2)), (1, .int p1), (2, .int p2)]) hx hb dX0_tellSum_8 rfl hl (by decide) rfl (fun ls hl => ?_)
  refine lv_aload_n hx hb dX0_tellSum_9 rfl (lv_at hl 1 rfl) ?_
  refine va_get (D := D) (ci := 0) (v := .ref (a 4)) (C := RX0) (T := TX0) (N := 9) hx hb hts iX0 hown hK hP 2 rfl rfl 2 (by decide) f19 (fun _ h9 => h9) rfl dX0_tellSum_10 ?_
  refine lv_iload_n hx hb dX0_tellSum_13 rfl (lv_at hl 2 rfl) ?_
  refine lv_iload_n hx hb dX0_tellSum_14 rfl (lv_at hl 3 rfl) ?_
  refine cW_v [4] [0, 1, 2, 3, 5, 6, 7, 8, 9, 10, 11] (va_runSN (As := [.ref (a 4), .int p1, .int p2]) (rest := []) ⟨hx, hb, hml, hown, hts⟩ (kX4_write (D := D) (cI := cI) (cJ := cJ) (a 4) cA.1 p1 p2 H.size) ⟨va_cnB 3 hts gX0_tellSum_X4_write_n32 rfl rfl rfl (hN (.methodLinkNest RX0 32 yX4_write "CryptSums") (by decide +kernel)) (hts (.initialized RX4) (by decide +kernel)) (by decide +kernel) ⟨Nat.le_of_ble_eq_true rfl, Nat.le_of_ble_eq_true rfl⟩, hts (.static yX4_write) (by decide +kernel), trivial⟩ (preS [.ref (a 4), .int p1, .int p2] hN hK (hP.sub (ws' := [((a 4), .inl (cI, 36, .inl cA.1))]) [4] rfl) (hD.sub (ws' := [((a 4), .inl (cI, 36, .inl cA.1))]) [4] (by decide) rfl)) rfl rfl hl.1 rfl (lv_room (Nat.le_of_ble_eq_true rfl)) dX0_tellSum_15 ⟨Nat.le_of_ble_eq_true rfl, Nat.le_of_ble_eq_true rfl⟩) hP hD hS hA rfl (wr := (((fw a cI cJ st co ro cA cD su jA jD)).eraseIdx 4)) rfl (by decide) (by decide) (fun u H locs hw hP hD hS => ?_)
  replace hP := hP.sub (ws' := (fw a cI cJ st co ro ((wr cA.1 p1 p2), cA.2.1, cA.2.2.1, cA.2.2.2) cD su jA jD)) [0, 1, 2, 3, 11, 4, 5, 6, 7, 8, 9, 10] rfl
  replace hD := hD.sub (ws' := (fw a cI cJ st co ro ((wr cA.1 p1 p2), cA.2.1, cA.2.2.1, cA.2.2.2) cD su jA jD)) [0, 1, 2, 3, 11, 4, 5, 6, 7, 8, 9, 10] (by decide) rfl
  refine lv_iload_n hx hb dX0_tellSum_18 rfl (lv_at hl 0 rfl) ?_
  obtain rfl := Option.some.inj hM
  subst hQ hAe
  exact W.iret (v := (rd cA.1 p1)) hx hb hr (fun t ht hW => ⟨⟨(rd cA.1 p1), (), rfl, rfl, ⟨by rw [ht]; exact hP, hD⟩⟩, hS.F ht⟩) hS.2.2 dX0_tellSum_19
set_option maxHeartbeats 4000000 in
set_option maxRecDepth 100000 in
theorem kX0_tellSum_D {l : Launch} {D : va_G} {cI cJ : ClassId} (N : Nat) (a : Nat → Nat) {st : RowI} {co : Int32} {ro : Int32} {cA : CS} {cD : CS} {su : RowJ} {jA : JT} {jD : JT} {p1 : Int32} {p2 : Int32} {o : (Int32 × CS)} (hM : mX0_tellSum N cD p1 p2 = some o) (sz : Nat) : Met l yX0_tellSum wsX0_tellSum rmX0_tellSum (va_Pc [.ref (a 3), .int p1, .int p2] (Pre D cI cJ (fw a cI cJ st co ro cA cD su jA jD) sz)) (va_Qi (fun (r : Int32) (_ : Unit) => r = o.1) (aft D (fw a cI cJ st co ro cA cD su jA jD) sz (fun (_ : Unit) => (fw a cI cJ st co ro cA o.2 su jA jD))) (va_A (fw a cI cJ st co ro cA cD su jA jD) sz)) 0 0 (va_A (fw a cI cJ st co ro cA cD su jA jD) sz) := by
  refine xofW (cc := cX0_tellSum) (maxL := 4) (ret := (some .int)) rfl (by decide) rfl ?_
  intro p e s m args below meth c ls Q A hQ hAe hx hb hr hml hown hts hlocks hnm hN hK H locs hP hD hS hA hl
  replace hown : s.vm.findClass RX0 = some m.cls := hown
  replace hl : lv_has ls 4 [(0, .ref (a 3)), (1, .int p1), (2, .int p2)] := hl
  have iX0 : ∀ w ∈ wsX00, w ∈ wsX0_tellSum := by decide +kernel
  have f19 := hts (.fieldLink RX0 19 "CryptSums$Corridors" "told" "[I") (by decide +kernel)
  rw [mX0_tellSum] at hM
  refine lv_aload_n hx hb dX0_tellSum_0 rfl (lv_at hl 0 rfl) ?_
  refine va_get (D := D) (ci := 0) (v := .ref (a 7)) (C := RX0) (T := TX0) (N := 9) hx hb hts iX0 hown hK hP 3 rfl rfl 2 (by decide) f19 (fun _ h9 => h9) rfl dX0_tellSum_1 ?_
  refine lv_iload_n hx hb dX0_tellSum_4 rfl (lv_at hl 1 rfl) ?_
  refine cR_i (va_runSN (As := [.ref (a 7), .int p1]) (rest := []) ⟨hx, hb, hml, hown, hts⟩ (kX4_read (D := D) (cI := cI) (cJ := cJ) (a 7) cD.1 p1 H.size) ⟨va_cnB 2 hts gX0_tellSum_X4_read_n36 rfl rfl rfl (hN (.methodLinkNest RX0 36 yX4_read "CryptSums") (by decide +kernel)) (hts (.initialized RX4) (by decide +kernel)) (by decide +kernel) ⟨Nat.le_of_ble_eq_true rfl, Nat.le_of_ble_eq_true rfl⟩, hts (.static yX4_read) (by decide +kernel), trivial⟩ (preS [.ref (a 7), .int p1] hN hK (hP.sub (ws' := [((a 7), .inl (cI, 36, .inl cD.1))]) [7] rfl) (hD.sub (ws' := [((a 7), .inl (cI, 36, .inl cD.1))]) [7] (by decide) rfl)) rfl rfl hl.1 rfl (lv_room (Nat.le_of_ble_eq_true rfl)) dX0_tellSum_5 ⟨Nat.le_of_ble_eq_true rfl, Nat.le_of_ble_eq_true rfl⟩) hP hS (fun r u H locs hw hP hS => ?_)
  rw [hw]
  refine lv_istore_n (lv' := [(3, .int (rd cD.1 p1)), (0, .ref (a 3)), (1, .int p1), (2, .int p2)]) hx hb dX0_tellSum_8 rfl hl (by decide) rfl (fun ls hl => ?_)
  refine lv_aload_n hx hb dX0_tellSum_9 rfl (lv_at hl 1 rfl) ?_
  refine va_get (D := D) (ci := 0) (v := .ref (a 7)) (C := RX0) (T := TX0) (N := 9) hx hb hts iX0 hown hK hP 3 rfl rfl 2 (by decide) f19 (fun _ h9 => h9) rfl dX0_tellSum_10 ?_
  refine lv_iload_n hx hb dX0_tellSum_13 rfl (lv_at hl 2 rfl) ?_
  refine lv_iload_n hx hb dX0_tellSum_14 rfl (lv_at hl 3 rfl) ?_
  refine cW_v [7] [0, 1, 2, 3, 4, 5, 6, 8, 9, 10, 11] (va_runSN (As := [.ref (a 7), .int p1, .int p2]) (rest := []) ⟨hx, hb, hml, hown, hts⟩ (kX4_write (D := D) (cI := cI) (cJ := cJ) (a 7) cD.1 p1 p2 H.size) ⟨va_cnB 3 hts gX0_tellSum_X4_write_n32 rfl rfl rfl (hN (.methodLinkNest RX0 32 yX4_write "CryptSums") (by decide +kernel)) (hts (.initialized RX4) (by decide +kernel)) (by decide +kernel) ⟨Nat.le_of_ble_eq_true rfl, Nat.le_of_ble_eq_true rfl⟩, hts (.static yX4_write) (by decide +kernel), trivial⟩ (preS [.ref (a 7), .int p1, .int p2] hN hK (hP.sub (ws' := [((a 7), .inl (cI, 36, .inl cD.1))]) [7] rfl) (hD.sub (ws' := [((a 7), .inl (cI, 36, .inl cD.1))]) [7] (by decide) rfl)) rfl rfl hl.1 rfl (lv_room (Nat.le_of_ble_eq_true rfl)) dX0_tellSum_15 ⟨Nat.le_of_ble_eq_true rfl, Nat.le_of_ble_eq_true rfl⟩) hP hD hS hA rfl (wr := (((fw a cI cJ st co ro cA cD su jA jD)).eraseIdx 7)) rfl (by decide) (by decide) (fun u H locs hw hP hD hS => ?_)
  replace hP := hP.sub (ws' := (fw a cI cJ st co ro cA ((wr cD.1 p1 p2), cD.2.1, cD.2.2.1, cD.2.2.2) su jA jD)) [0, 1, 2, 3, 4, 5, 6, 11, 7, 8, 9, 10] rfl
  replace hD := hD.sub (ws' := (fw a cI cJ st co ro cA ((wr cD.1 p1 p2), cD.2.1, cD.2.2.1, cD.2.2.2) su jA jD)) [0, 1, 2, 3, 4, 5, 6, 11, 7, 8, 9, 10] (by decide) rfl
  refine lv_iload_n hx hb dX0_tellSum_18 rfl (lv_at hl 0 rfl) ?_
  obtain rfl := Option.some.inj hM
  subst hQ hAe
  exact W.iret (v := (rd cD.1 p1)) hx hb hr (fun t ht hW => ⟨⟨(rd cD.1 p1), (), rfl, rfl, ⟨by rw [ht]; exact hP, hD⟩⟩, hS.F ht⟩) hS.2.2 dX0_tellSum_19
def mX0_toldAt (N : Nat) (cA : CS) (p1 : Int32) : Option Int32 :=
  some (rd cA.1 p1)
abbrev rmX0_toldAt : Room := { frames := 1, cells := 0, slots := 0, locals := 21 }
set_option maxHeartbeats 4000000 in
set_option maxRecDepth 100000 in
theorem kX0_toldAt_A {l : Launch} {D : va_G} {cI cJ : ClassId} (N : Nat) (a : Nat → Nat) {st : RowI} {co : Int32} {ro : Int32} {cA : CS} {cD : CS} {su : RowJ} {jA : JT} {jD : JT} {p1 : Int32} {o : Int32} (hM : mX0_toldAt N cA p1 = some o) (sz : Nat) : Met l yX0_toldAt wsX0_toldAt rmX0_toldAt (va_Pc [.ref (a 2), .int p1] (Pre D cI cJ (fw a cI cJ st co ro cA cD su jA jD) sz)) (va_Qi (fun (r : Int32) (_ : Unit) => r = o) (fun _ _ => True) (fun _ => False)) 0 0 (fun _ => False) := by
  refine xofR (cc := cX0_toldAt) (maxL := 2) (ret := (some .int)) rfl (by decide) rfl ?_
  intro p e s m args below meth c ls Q A hQ hAe hx hb hr hml hown hts hlocks hN hK H locs hP hD hS hl
  replace hown : s.vm.findClass RX0 = some m.cls := hown
  replace hl : lv_has ls 2 [(0, .ref (a 2)), (1, .int p1)] := hl
  have iX0 : ∀ w ∈ wsX00, w ∈ wsX0_toldAt := by decide +kernel
  have f19 := hts (.fieldLink RX0 19 "CryptSums$Corridors" "told" "[I") (by decide +kernel)
  rw [mX0_toldAt] at hM
  refine lv_aload_n hx hb dX0_toldAt_0 rfl (lv_at hl 0 rfl) ?_
  refine va_get (D := D) (ci := 0) (v := .ref (a 4)) (C := RX0) (T := TX0) (N := 9) hx hb hts iX0 hown hK hP 2 rfl rfl 2 (by decide) f19 (fun _ h9 => h9) rfl dX0_toldAt_1 ?_
  refine lv_iload_n hx hb dX0_toldAt_4 rfl (lv_at hl 1 rfl) ?_
  refine cR_i (va_runSN (As := [.ref (a 4), .int p1]) (rest := []) ⟨hx, hb, hml, hown, hts⟩ (kX4_read (D := D) (cI := cI) (cJ := cJ) (a 4) cA.1 p1 H.size) ⟨va_cnB 2 hts gX0_toldAt_X4_read_n36 rfl rfl rfl (hN (.methodLinkNest RX0 36 yX4_read "CryptSums") (by decide +kernel)) (hts (.initialized RX4) (by decide +kernel)) (by decide +kernel) ⟨Nat.le_of_ble_eq_true rfl, Nat.le_of_ble_eq_true rfl⟩, hts (.static yX4_read) (by decide +kernel), trivial⟩ (preS [.ref (a 4), .int p1] hN hK (hP.sub (ws' := [((a 4), .inl (cI, 36, .inl cA.1))]) [4] rfl) (hD.sub (ws' := [((a 4), .inl (cI, 36, .inl cA.1))]) [4] (by decide) rfl)) rfl rfl hl.1 rfl (lv_room (Nat.le_of_ble_eq_true rfl)) dX0_toldAt_5 ⟨Nat.le_of_ble_eq_true rfl, Nat.le_of_ble_eq_true rfl⟩) hP hS (fun r u H locs hw hP hS => ?_)
  rw [hw]
  obtain rfl := Option.some.inj hM
  subst hQ hAe
  exact W.iret (v := (rd cA.1 p1)) hx hb hr (fun t ht hW => ⟨⟨(rd cA.1 p1), (), rfl, rfl, trivial⟩, hS.F ht⟩) hS.2.2 dX0_toldAt_8
set_option maxHeartbeats 4000000 in
set_option maxRecDepth 100000 in
theorem kX0_toldAt_D {l : Launch} {D : va_G} {cI cJ : ClassId} (N : Nat) (a : Nat → Nat) {st : RowI} {co : Int32} {ro : Int32} {cA : CS} {cD : CS} {su : RowJ} {jA : JT} {jD : JT} {p1 : Int32} {o : Int32} (hM : mX0_toldAt N cD p1 = some o) (sz : Nat) : Met l yX0_toldAt wsX0_toldAt rmX0_toldAt (va_Pc [.ref (a 3), .int p1] (Pre D cI cJ (fw a cI cJ st co ro cA cD su jA jD) sz)) (va_Qi (fun (r : Int32) (_ : Unit) => r = o) (fun _ _ => True) (fun _ => False)) 0 0 (fun _ => False) := by
  refine xofR (cc := cX0_toldAt) (maxL := 2) (ret := (some .int)) rfl (by decide) rfl ?_
  intro p e s m args below meth c ls Q A hQ hAe hx hb hr hml hown hts hlocks hN hK H locs hP hD hS hl
  replace hown : s.vm.findClass RX0 = some m.cls := hown
  replace hl : lv_has ls 2 [(0, .ref (a 3)), (1, .int p1)] := hl
  have iX0 : ∀ w ∈ wsX00, w ∈ wsX0_toldAt := by decide +kernel
  have f19 := hts (.fieldLink RX0 19 "CryptSums$Corridors" "told" "[I") (by decide +kernel)
  rw [mX0_toldAt] at hM
  refine lv_aload_n hx hb dX0_toldAt_0 rfl (lv_at hl 0 rfl) ?_
  refine va_get (D := D) (ci := 0) (v := .ref (a 7)) (C := RX0) (T := TX0) (N := 9) hx hb hts iX0 hown hK hP 3 rfl rfl 2 (by decide) f19 (fun _ h9 => h9) rfl dX0_toldAt_1 ?_
  refine lv_iload_n hx hb dX0_toldAt_4 rfl (lv_at hl 1 rfl) ?_
  refine cR_i (va_runSN (As := [.ref (a 7), .int p1]) (rest := []) ⟨hx, hb, hml, hown, hts⟩ (kX4_read (D := D) (cI := cI) (cJ := cJ) (a 7) cD.1 p1 H.size) ⟨va_cnB 2 hts gX0_toldAt_X4_read_n36 rfl rfl rfl (hN (.methodLinkNest RX0 36 yX4_read "CryptSums") (by decide +kernel)) (hts (.initialized RX4) (by decide +kernel)) (by decide +kernel) ⟨Nat.le_of_ble_eq_true rfl, Nat.le_of_ble_eq_true rfl⟩, hts (.static yX4_read) (by decide +kernel), trivial⟩ (preS [.ref (a 7), .int p1] hN hK (hP.sub (ws' := [((a 7), .inl (cI, 36, .inl cD.1))]) [7] rfl) (hD.sub (ws' := [((a 7), .inl (cI, 36, .inl cD.1))]) [7] (by decide) rfl)) rfl rfl hl.1 rfl (lv_room (Nat.le_of_ble_eq_true rfl)) dX0_toldAt_5 ⟨Nat.le_of_ble_eq_true rfl, Nat.le_of_ble_eq_true rfl⟩) hP hS (fun r u H locs hw hP hS => ?_)
  rw [hw]
  obtain rfl := Option.some.inj hM
  subst hQ hAe
  exact W.iret (v := (rd cD.1 p1)) hx hb hr (fun t ht hW => ⟨⟨(rd cD.1 p1), (), rfl, rfl, trivial⟩, hS.F ht⟩) hS.2.2 dX0_toldAt_8
def mX0_join_56 (N : Nat) (p1 : Int32) (v3 : Int32) (cA' : CS) : Option CS :=
  some (cA'.1, (wr cA'.2.1 p1 v3), (wr cA'.2.2.1 v3 ((rd cA'.2.2.1 v3) + (1 : Int32))), cA'.2.2.2)
def mX0_join_48 (N : Nat) (p1 : Int32) (s0 : Int32) (cA' : CS) : Option CS :=
  (if s0 = (-1 : Int32) then
  (mX0_join_56 N p1 p1 cA')
  else
  (mX0_join_56 N p1 s0 cA'))
def mX0_join (N : Nat) (st : RowI) (cA : CS) (p1 : Int32) (p2 : Int32) : Option CS :=
  (if (rd st p1) = (-1 : Int32) then
  some (cA.1, (wr cA.2.1 p1 (-1 : Int32)), (wr cA.2.2.1 p1 (0 : Int32)), cA.2.2.2)
  else
  (if p2 = (-1 : Int32) then
  (mX0_join_48 N p1 (-1 : Int32) (cA.1, cA.2.1, (wr cA.2.2.1 p1 (0 : Int32)), cA.2.2.2))
  else
  (mX0_join_48 N p1 (rd cA.2.1 p2) (cA.1, cA.2.1, (wr cA.2.2.1 p1 (0 : Int32)), cA.2.2.2))))
abbrev rmX0_join : Room := { frames := 1, cells := 0, slots := 0, locals := 22 }
set_option maxHeartbeats 4000000 in
set_option maxRecDepth 100000 in
theorem kX0_join_A {l : Launch} {D : va_G} {cI cJ : ClassId} (N : Nat) (a : Nat → Nat) {st : RowI} {co : Int32} {ro : Int32} {cA : CS} {cD : CS} {su : RowJ} {jA : JT} {jD : JT} {p1 : Int32} {p2 : Int32} {o : CS} (hM : mX0_join N st cA p1 p2 = some o) (sz : Nat) : Met l yX0_join wsX0_join rmX0_join (va_Pc [.ref (a 2), .int p1, .int p2] (Pre D cI cJ (fw a cI cJ st co ro cA cD su jA jD) sz)) (va_Qv (fun (_ : Unit) => True) (aft D (fw a cI cJ st co ro cA cD su jA jD) sz (fun (_ : Unit) => (fw a cI cJ st co ro o cD su jA jD))) (va_A (fw a cI cJ st co ro cA cD su jA jD) sz)) 0 0 (va_A (fw a cI cJ st co ro cA cD su jA jD) sz) := by
  refine xofW (cc := cX0_join) (maxL := 4) (ret := none) rfl (by decide) rfl ?_
  intro p e s m args below meth c ls Q A hQ hAe hx hb hr hml hown hts hlocks hnm hN hK H locs hP hD hS hA hl
  replace hown : s.vm.findClass RX0 = some m.cls := hown
  replace hl : lv_has ls 4 [(0, .ref (a 2)), (1, .int p1), (2, .int p2)] := hl
  have iX0 : ∀ w ∈ wsX00, w ∈ wsX0_join := by decide +kernel
  have f22 := hts (.fieldLink RX0 22 "CryptSums$Corridors" "first" "[I") (by decide +kernel)
  have f25 := hts (.fieldLink RX0 25 "CryptSums$Corridors" "size" "[I") (by decide +kernel)
  have f9 := hts (.fieldLink RX0 9 "CryptSums$Corridors" "stones" "[I") (by decide +kernel)
  have c56 : ∀ (v3 : Int32) (cA' : CS), mX0_join_56 N p1 v3 cA' = some o → ∀ (H : Heap) (locs : List Loc) (ls : Array Slot), va_P D vwCl (fw a cI cJ st co ro cA' cD su jA jD) H → va_D A (fw a cI cJ st co ro cA' cD su jA jD) → va_S A s.heap H locs → lv_has ls 4 [(0, .ref (a 2)), (1, .int p1), (3, .int v3)] → W p l e rmX0_join s m args below meth c H locs 0 0 Q (F0 m 56 ls []) := by
      intro  v3 cA' hM H locs ls hP hD hS hl
      rw [mX0_join_56] at hM
      refine lv_aload_n hx hb dX0_join_56 rfl (lv_at hl 0 rfl) ?_
      refine va_get (D := D) (ci := 0) (v := .ref (a 5)) (C := RX0) (T := TX0) (N := 9) hx hb hts iX0 hown hK hP 2 rfl rfl 3 (by decide) f22 (fun _ h9 => h9) rfl dX0_join_57 ?_
      refine lv_iload_n hx hb dX0_join_60 rfl (lv_at hl 1 rfl) ?_
      refine lv_iload_n hx hb dX0_join_61 rfl (lv_at hl 2 rfl) ?_
      refine cW_v [5] [0, 1, 2, 3, 4, 6, 7, 8, 9, 10, 11] (va_runSN (As := [.ref (a 5), .int p1, .int v3]) (rest := []) ⟨hx, hb, hml, hown, hts⟩ (kX4_write (D := D) (cI := cI) (cJ := cJ) (a 5) cA'.2.1 p1 v3 H.size) ⟨va_cnB 3 hts gX0_join_X4_write_n32 rfl rfl rfl (hN (.methodLinkNest RX0 32 yX4_write "CryptSums") (by decide +kernel)) (hts (.initialized RX4) (by decide +kernel)) (by decide +kernel) ⟨Nat.le_of_ble_eq_true rfl, Nat.le_of_ble_eq_true rfl⟩, hts (.static yX4_write) (by decide +kernel), trivial⟩ (preS [.ref (a 5), .int p1, .int v3] hN hK (hP.sub (ws' := [((a 5), .inl (cI, 36, .inl cA'.2.1))]) [5] rfl) (hD.sub (ws' := [((a 5), .inl (cI, 36, .inl cA'.2.1))]) [5] (by decide) rfl)) rfl rfl hl.1 rfl (lv_room (Nat.le_of_ble_eq_true rfl)) dX0_join_62 ⟨Nat.le_of_ble_eq_true rfl, Nat.le_of_ble_eq_true rfl⟩) hP hD hS hA rfl (wr := (((fw a cI cJ st co ro cA' cD su jA jD)).eraseIdx 5)) rfl (by decide) (by decide) (fun u H locs hw hP hD hS => ?_)
      replace hP := hP.sub (ws' := (fw a cI cJ st co ro (cA'.1, (wr cA'.2.1 p1 v3), cA'.2.2.1, cA'.2.2.2) cD su jA jD)) [0, 1, 2, 3, 4, 11, 5, 6, 7, 8, 9, 10] rfl
      replace hD := hD.sub (ws' := (fw a cI cJ st co ro (cA'.1, (wr cA'.2.1 p1 v3), cA'.2.2.1, cA'.2.2.2) cD su jA jD)) [0, 1, 2, 3, 4, 11, 5, 6, 7, 8, 9, 10] (by decide) rfl
      refine lv_aload_n hx hb dX0_join_65 rfl (lv_at hl 0 rfl) ?_
      refine va_get (D := D) (ci := 0) (v := .ref (a 6)) (C := RX0) (T := TX0) (N := 9) hx hb hts iX0 hown hK hP 2 rfl rfl 4 (by decide) f25 (fun _ h9 => h9) rfl dX0_join_66 ?_
      refine lv_iload_n hx hb dX0_join_69 rfl (lv_at hl 2 rfl) ?_
      refine lv_aload_n hx hb dX0_join_70 rfl (lv_at hl 0 rfl) ?_
      refine va_get (D := D) (ci := 0) (v := .ref (a 6)) (C := RX0) (T := TX0) (N := 9) hx hb hts iX0 hown hK hP 2 rfl rfl 4 (by decide) f25 (fun _ h9 => h9) rfl dX0_join_71 ?_
      refine lv_iload_n hx hb dX0_join_74 rfl (lv_at hl 2 rfl) ?_
      refine cR_i (va_runSN (As := [.ref (a 6), .int v3]) (rest := [.int v3, .ref (a 6)]) ⟨hx, hb, hml, hown, hts⟩ (kX4_read (D := D) (cI := cI) (cJ := cJ) (a 6) cA'.2.2.1 v3 H.size) ⟨va_cnB 2 hts gX0_join_X4_read_n36 rfl rfl rfl (hN (.methodLinkNest RX0 36 yX4_read "CryptSums") (by decide +kernel)) (hts (.initialized RX4) (by decide +kernel)) (by decide +kernel) ⟨Nat.le_of_ble_eq_true rfl, Nat.le_of_ble_eq_true rfl⟩, hts (.static yX4_read) (by decide +kernel), trivial⟩ (preS [.ref (a 6), .int v3] hN hK (hP.sub (ws' := [((a 6), .inl (cI, 36, .inl cA'.2.2.1))]) [6] rfl) (hD.sub (ws' := [((a 6), .inl (cI, 36, .inl cA'.2.2.1))]) [6] (by decide) rfl)) rfl rfl hl.1 rfl (lv_room (Nat.le_of_ble_eq_true rfl)) dX0_join_75 ⟨Nat.le_of_ble_eq_true rfl, Nat.le_of_ble_eq_true rfl⟩) hP hS (fun r u H locs hw hP hS => ?_)
      rw [hw]
      refine lv_iconst (v := 1) hx hb dX0_join_78 (by decide) ?_
      refine lv_iadd hx hb dX0_join_79 ?_
      refine cW_v [6] [0, 1, 2, 3, 4, 5, 7, 8, 9, 10, 11] (va_runSN (As := [.ref (a 6), .int v3, .int ((rd cA'.2.2.1 v3) + (1 : Int32))]) (rest := []) ⟨hx, hb, hml, hown, hts⟩ (kX4_write (D := D) (cI := cI) (cJ := cJ) (a 6) cA'.2.2.1 v3 ((rd cA'.2.2.1 v3) + (1 : Int32)) H.size) ⟨va_cnB 3 hts gX0_join_X4_write_n32 rfl rfl rfl (hN (.methodLinkNest RX0 32 yX4_write "CryptSums") (by decide +kernel)) (hts (.initialized RX4) (by decide +kernel)) (by decide +kernel) ⟨Nat.le_of_ble_eq_true rfl, Nat.le_of_ble_eq_true rfl⟩, hts (.static yX4_write) (by decide +kernel), trivial⟩ (preS [.ref (a 6), .int v3, .int ((rd cA'.2.2.1 v3) + (1 : Int32))] hN hK (hP.sub (ws' := [((a 6), .inl (cI, 36, .inl cA'.2.2.1))]) [6] rfl) (hD.sub (ws' := [((a 6), .inl (cI, 36, .inl cA'.2.2.1))]) [6] (by decide) rfl)) rfl rfl hl.1 rfl (lv_room (Nat.le_of_ble_eq_true rfl)) dX0_join_80 ⟨Nat.le_of_ble_eq_true rfl, Nat.le_of_ble_eq_true rfl⟩) hP hD hS hA rfl (wr := (((fw a cI cJ st co ro (cA'.1, (wr cA'.2.1 p1 v3), cA'.2.2.1, cA'.2.2.2) cD su jA jD)).eraseIdx 6)) rfl (by decide) (by decide) (fun u H locs hw hP hD hS => ?_)
      replace hP := hP.sub (ws' := (fw a cI cJ st co ro (cA'.1, (wr cA'.2.1 p1 v3), (wr cA'.2.2.1 v3 ((rd cA'.2.2.1 v3) + (1 : Int32))), cA'.2.2.2) cD su jA jD)) [0, 1, 2, 3, 4, 5, 11, 6, 7, 8, 9, 10] rfl
      replace hD := hD.sub (ws' := (fw a cI cJ st co ro (cA'.1, (wr cA'.2.1 p1 v3), (wr cA'.2.2.1 v3 ((rd cA'.2.2.1 v3) + (1 : Int32))), cA'.2.2.2) cD su jA jD)) [0, 1, 2, 3, 4, 5, 11, 6, 7, 8, 9, 10] (by decide) rfl
      obtain rfl := Option.some.inj hM
      subst hQ hAe
      exact W.vret hx hb hr (fun t ht hW => ⟨⟨(), rfl, trivial, ⟨by rw [ht]; exact hP, hD⟩⟩, hS.F ht⟩) hS.2.2 dX0_join_83
  have c48 : ∀ (s0 : Int32) (cA' : CS), mX0_join_48 N p1 s0 cA' = some o → ∀ (H : Heap) (locs : List Loc) (ls : Array Slot), va_P D vwCl (fw a cI cJ st co ro cA' cD su jA jD) H → va_D A (fw a cI cJ st co ro cA' cD su jA jD) → va_S A s.heap H locs → lv_has ls 4 [(0, .ref (a 2)), (1, .int p1)] → W p l e rmX0_join s m args below meth c H locs 0 0 Q (F0 m 48 ls [.int s0]) := by
      intro  s0 cA' hM H locs ls hP hD hS hl
      rw [mX0_join_48] at hM
      refine lv_istore_n (lv' := [(3, .int s0), (0, .ref (a 2)), (1, .int p1)]) hx hb dX0_join_48 rfl hl (by decide) rfl (fun ls hl => ?_)
      refine lv_iload_n hx hb dX0_join_49 rfl (lv_at hl 0 rfl) ?_
      refine lv_iconst (v := -1) hx hb dX0_join_50 (by decide) ?_
      refine lv_icmp_ne (tgt := 56) hx hb dX0_join_51 (by decide) (fun hcc => ?_) (fun hcc => ?_)
      · replace hM := it_n hcc hM
        exact c56 s0 cA' hM H locs ls hP hD hS (lv_sub hl [1, 2, 0] rfl)
      · replace hM := it_p hcc hM
        refine lv_iload_n hx hb dX0_join_54 rfl (lv_at hl 2 rfl) ?_
        refine lv_istore_n (lv' := [(3, .int p1), (0, .ref (a 2)), (1, .int p1)]) hx hb dX0_join_55 rfl hl (by decide) rfl (fun ls hl => ?_)
        exact c56 p1 cA' hM H locs ls hP hD hS (lv_sub hl [1, 2, 0] rfl)
  rw [mX0_join] at hM
  refine lv_aload_n hx hb dX0_join_0 rfl (lv_at hl 0 rfl) ?_
  refine va_get (D := D) (ci := 0) (v := .ref (a 6)) (C := RX0) (T := TX0) (N := 9) hx hb hts iX0 hown hK hP 2 rfl rfl 4 (by decide) f25 (fun _ h9 => h9) rfl dX0_join_1 ?_
  refine lv_iload_n hx hb dX0_join_4 rfl (lv_at hl 1 rfl) ?_
  refine lv_iconst (v := 0) hx hb dX0_join_5 (by decide) ?_
  refine cW_v [6] [0, 1, 2, 3, 4, 5, 7, 8, 9, 10, 11] (va_runSN (As := [.ref (a 6), .int p1, .int (0 : Int32)]) (rest := []) ⟨hx, hb, hml, hown, hts⟩ (kX4_write (D := D) (cI := cI) (cJ := cJ) (a 6) cA.2.2.1 p1 (0 : Int32) H.size) ⟨va_cnB 3 hts gX0_join_X4_write_n32 rfl rfl rfl (hN (.methodLinkNest RX0 32 yX4_write "CryptSums") (by decide +kernel)) (hts (.initialized RX4) (by decide +kernel)) (by decide +kernel) ⟨Nat.le_of_ble_eq_true rfl, Nat.le_of_ble_eq_true rfl⟩, hts (.static yX4_write) (by decide +kernel), trivial⟩ (preS [.ref (a 6), .int p1, .int (0 : Int32)] hN hK (hP.sub (ws' := [((a 6), .inl (cI, 36, .inl cA.2.2.1))]) [6] rfl) (hD.sub (ws' := [((a 6), .inl (cI, 36, .inl cA.2.2.1))]) [6] (by decide) rfl)) rfl rfl hl.1 rfl (lv_room (Nat.le_of_ble_eq_true rfl)) dX0_join_6 ⟨Nat.le_of_ble_eq_true rfl, Nat.le_of_ble_eq_true rfl⟩) hP hD hS hA rfl (wr := (((fw a cI cJ st co ro cA cD su jA jD)).eraseIdx 6)) rfl (by decide) (by decide) (fun u H locs hw hP hD hS => ?_)
  replace hP := hP.sub (ws' := (fw a cI cJ st co ro (cA.1, cA.2.1, (wr cA.2.2.1 p1 (0 : Int32)), cA.2.2.2) cD su jA jD)) [0, 1, 2, 3, 4, 5, 11, 6, 7, 8, 9, 10] rfl
  replace hD := hD.sub (ws' := (fw a cI cJ st co ro (cA.1, cA.2.1, (wr cA.2.2.1 p1 (0 : Int32)), cA.2.2.2) cD su jA jD)) [0, 1, 2, 3, 4, 5, 11, 6, 7, 8, 9, 10] (by decide) rfl
  refine lv_aload_n hx hb dX0_join_9 rfl (lv_at hl 0 rfl) ?_
  refine va_get (D := D) (ci := 0) (v := .ref (a 1)) (C := RX0) (T := TX0) (N := 9) hx hb hts iX0 hown hK hP 2 rfl rfl 0 (by decide) f9 (fun _ h9 => h9) rfl dX0_join_10 ?_
  refine lv_iload_n hx hb dX0_join_13 rfl (lv_at hl 1 rfl) ?_
  refine cR_i (va_runSN (As := [.ref (a 1), .int p1]) (rest := []) ⟨hx, hb, hml, hown, hts⟩ (kX4_read (D := D) (cI := cI) (cJ := cJ) (a 1) st p1 H.size) ⟨va_cnB 2 hts gX0_join_X4_read_n36 rfl rfl rfl (hN (.methodLinkNest RX0 36 yX4_read "CryptSums") (by decide +kernel)) (hts (.initialized RX4) (by decide +kernel)) (by decide +kernel) ⟨Nat.le_of_ble_eq_true rfl, Nat.le_of_ble_eq_true rfl⟩, hts (.static yX4_read) (by decide +kernel), trivial⟩ (preS [.ref (a 1), .int p1] hN hK (hP.sub (ws' := [((a 1), .inl (cI, 36, .inl st))]) [1] rfl) (hD.sub (ws' := [((a 1), .inl (cI, 36, .inl st))]) [1] (by decide) rfl)) rfl rfl hl.1 rfl (lv_room (Nat.le_of_ble_eq_true rfl)) dX0_join_14 ⟨Nat.le_of_ble_eq_true rfl, Nat.le_of_ble_eq_true rfl⟩) hP hS (fun r u H locs hw hP hS => ?_)
  rw [hw]
  refine lv_iconst (v := -1) hx hb dX0_join_17 (by decide) ?_
  refine lv_icmp_ne (tgt := 31) hx hb dX0_join_18 (by decide) (fun hcc => ?_) (fun hcc => ?_)
  · replace hM := it_n hcc hM
    refine lv_iload_n hx hb dX0_join_31 rfl (lv_at hl 2 rfl) ?_
    refine lv_iconst (v := -1) hx hb dX0_join_32 (by decide) ?_
    refine lv_icmp_ne (tgt := 40) hx hb dX0_join_33 (by decide) (fun hcc => ?_) (fun hcc => ?_)
    · replace hM := it_n hcc hM
      refine lv_aload_n hx hb dX0_join_40 rfl (lv_at hl 0 rfl) ?_
      refine va_get (D := D) (ci := 0) (v := .ref (a 5)) (C := RX0) (T := TX0) (N := 9) hx hb hts iX0 hown hK hP 2 rfl rfl 3 (by decide) f22 (fun _ h9 => h9) rfl dX0_join_41 ?_
      refine lv_iload_n hx hb dX0_join_44 rfl (lv_at hl 2 rfl) ?_
      refine cR_i (va_runSN (As := [.ref (a 5), .int p2]) (rest := []) ⟨hx, hb, hml, hown, hts⟩ (kX4_read (D := D) (cI := cI) (cJ := cJ) (a 5) cA.2.1 p2 H.size) ⟨va_cnB 2 hts gX0_join_X4_read_n36 rfl rfl rfl (hN (.methodLinkNest RX0 36 yX4_read "CryptSums") (by decide +kernel)) (hts (.initialized RX4) (by decide +kernel)) (by decide +kernel) ⟨Nat.le_of_ble_eq_true rfl, Nat.le_of_ble_eq_true rfl⟩, hts (.static yX4_read) (by decide +kernel), trivial⟩ (preS [.ref (a 5), .int p2] hN hK (hP.sub (ws' := [((a 5), .inl (cI, 36, .inl cA.2.1))]) [5] rfl) (hD.sub (ws' := [((a 5), .inl (cI, 36, .inl cA.2.1))]) [5] (by decide) rfl)) rfl rfl hl.1 rfl (lv_room (Nat.le_of_ble_eq_true rfl)) dX0_join_45 ⟨Nat.le_of_ble_eq_true rfl, Nat.le_of_ble_eq_true rfl⟩) hP hS (fun r u H locs hw hP hS => ?_)
      rw [hw]
      exact c48 (rd cA.2.1 p2) (cA.1, cA.2.1, (wr cA.2.2.1 p1 (0 : Int32)), cA.2.2.2) hM H locs ls hP hD hS (lv_sub hl [0, 1] rfl)
    · replace hM := it_p hcc hM
      refine lv_iconst (v := -1) hx hb dX0_join_36 (by decide) ?_
      refine lv_goto (tgt := 48) hx hb dX0_join_37 (by decide) ?_
      exact c48 (-1 : Int32) (cA.1, cA.2.1, (wr cA.2.2.1 p1 (0 : Int32)), cA.2.2.2) hM H locs ls hP hD hS (lv_sub hl [0, 1] rfl)
  · replace hM := it_p hcc hM
    refine lv_aload_n hx hb dX0_join_21 rfl (lv_at hl 0 rfl) ?_
    refine va_get (D := D) (ci := 0) (v := .ref (a 5)) (C := RX0) (T := TX0) (N := 9) hx hb hts iX0 hown hK hP 2 rfl rfl 3 (by decide) f22 (fun _ h9 => h9) rfl dX0_join_22 ?_
    refine lv_iload_n hx hb dX0_join_25 rfl (lv_at hl 1 rfl) ?_
    refine lv_iconst (v := -1) hx hb dX0_join_26 (by decide) ?_
    refine cW_v [5] [0, 1, 2, 3, 4, 6, 7, 8, 9, 10, 11] (va_runSN (As := [.ref (a 5), .int p1, .int (-1 : Int32)]) (rest := []) ⟨hx, hb, hml, hown, hts⟩ (kX4_write (D := D) (cI := cI) (cJ := cJ) (a 5) cA.2.1 p1 (-1 : Int32) H.size) ⟨va_cnB 3 hts gX0_join_X4_write_n32 rfl rfl rfl (hN (.methodLinkNest RX0 32 yX4_write "CryptSums") (by decide +kernel)) (hts (.initialized RX4) (by decide +kernel)) (by decide +kernel) ⟨Nat.le_of_ble_eq_true rfl, Nat.le_of_ble_eq_true rfl⟩, hts (.static yX4_write) (by decide +kernel), trivial⟩ (preS [.ref (a 5), .int p1, .int (-1 : Int32)] hN hK (hP.sub (ws' := [((a 5), .inl (cI, 36, .inl cA.2.1))]) [5] rfl) (hD.sub (ws' := [((a 5), .inl (cI, 36, .inl cA.2.1))]) [5] (by decide) rfl)) rfl rfl hl.1 rfl (lv_room (Nat.le_of_ble_eq_true rfl)) dX0_join_27 ⟨Nat.le_of_ble_eq_true rfl, Nat.le_of_ble_eq_true rfl⟩) hP hD hS hA rfl (wr := (((fw a cI cJ st co ro (cA.1, cA.2.1, (wr cA.2.2.1 p1 (0 : Int32)), cA.2.2.2) cD su jA jD)).eraseIdx 5)) rfl (by decide) (by decide) (fun u H locs hw hP hD hS => ?_)
    replace hP := hP.sub (ws' := (fw a cI cJ st co ro (cA.1, (wr cA.2.1 p1 (-1 : Int32)), (wr cA.2.2.1 p1 (0 : Int32)), cA.2.2.2) cD su jA jD)) [0, 1, 2, 3, 4, 11, 5, 6, 7, 8, 9, 10] rfl
    replace hD := hD.sub (ws' := (fw a cI cJ st co ro (cA.1, (wr cA.2.1 p1 (-1 : Int32)), (wr cA.2.2.1 p1 (0 : Int32)), cA.2.2.2) cD su jA jD)) [0, 1, 2, 3, 4, 11, 5, 6, 7, 8, 9, 10] (by decide) rfl
    obtain rfl := Option.some.inj hM
    subst hQ hAe
    exact W.vret hx hb hr (fun t ht hW => ⟨⟨(), rfl, trivial, ⟨by rw [ht]; exact hP, hD⟩⟩, hS.F ht⟩) hS.2.2 dX0_join_30
set_option maxHeartbeats 4000000 in
set_option maxRecDepth 100000 in
theorem kX0_join_D {l : Launch} {D : va_G} {cI cJ : ClassId} (N : Nat) (a : Nat → Nat) {st : RowI} {co : Int32} {ro : Int32} {cA : CS} {cD : CS} {su : RowJ} {jA : JT} {jD : JT} {p1 : Int32} {p2 : Int32} {o : CS} (hM : mX0_join N st cD p1 p2 = some o) (sz : Nat) : Met l yX0_join wsX0_join rmX0_join (va_Pc [.ref (a 3), .int p1, .int p2] (Pre D cI cJ (fw a cI cJ st co ro cA cD su jA jD) sz)) (va_Qv (fun (_ : Unit) => True) (aft D (fw a cI cJ st co ro cA cD su jA jD) sz (fun (_ : Unit) => (fw a cI cJ st co ro cA o su jA jD))) (va_A (fw a cI cJ st co ro cA cD su jA jD) sz)) 0 0 (va_A (fw a cI cJ st co ro cA cD su jA jD) sz) := by
  refine xofW (cc := cX0_join) (maxL := 4) (ret := none) rfl (by decide) rfl ?_
  intro p e s m args below meth c ls Q A hQ hAe hx hb hr hml hown hts hlocks hnm hN hK H locs hP hD hS hA hl
  replace hown : s.vm.findClass RX0 = some m.cls := hown
  replace hl : lv_has ls 4 [(0, .ref (a 3)), (1, .int p1), (2, .int p2)] := hl
  have iX0 : ∀ w ∈ wsX00, w ∈ wsX0_join := by decide +kernel
  have f22 := hts (.fieldLink RX0 22 "CryptSums$Corridors" "first" "[I") (by decide +kernel)
  have f25 := hts (.fieldLink RX0 25 "CryptSums$Corridors" "size" "[I") (by decide +kernel)
  have f9 := hts (.fieldLink RX0 9 "CryptSums$Corridors" "stones" "[I") (by decide +kernel)
  have c56 : ∀ (v3 : Int32) (cD' : CS), mX0_join_56 N p1 v3 cD' = some o → ∀ (H : Heap) (locs : List Loc) (ls : Array Slot), va_P D vwCl (fw a cI cJ st co ro cA cD' su jA jD) H → va_D A (fw a cI cJ st co ro cA cD' su jA jD) → va_S A s.heap H locs → lv_has ls 4 [(0, .ref (a 3)), (1, .int p1), (3, .int v3)] → W p l e rmX0_join s m args below meth c H locs 0 0 Q (F0 m 56 ls []) := by
      intro  v3 cD' hM H locs ls hP hD hS hl
      rw [mX0_join_56] at hM
      refine lv_aload_n hx hb dX0_join_56 rfl (lv_at hl 0 rfl) ?_
      refine va_get (D := D) (ci := 0) (v := .ref (a 8)) (C := RX0) (T := TX0) (N := 9) hx hb hts iX0 hown hK hP 3 rfl rfl 3 (by decide) f22 (fun _ h9 => h9) rfl dX0_join_57 ?_
      refine lv_iload_n hx hb dX0_join_60 rfl (lv_at hl 1 rfl) ?_
      refine lv_iload_n hx hb dX0_join_61 rfl (lv_at hl 2 rfl) ?_
      refine cW_v [8] [0, 1, 2, 3, 4, 5, 6, 7, 9, 10, 11] (va_runSN (As := [.ref (a 8), .int p1, .int v3]) (rest := []) ⟨hx, hb, hml, hown, hts⟩ (kX4_write (D := D) (cI := cI) (cJ := cJ) (a 8) cD'.2.1 p1 v3 H.size) ⟨va_cnB 3 hts gX0_join_X4_write_n32 rfl rfl rfl (hN (.methodLinkNest RX0 32 yX4_write "CryptSums") (by decide +kernel)) (hts (.initialized RX4) (by decide +kernel)) (by decide +kernel) ⟨Nat.le_of_ble_eq_true rfl, Nat.le_of_ble_eq_true rfl⟩, hts (.static yX4_write) (by decide +kernel), trivial⟩ (preS [.ref (a 8), .int p1, .int v3] hN hK (hP.sub (ws' := [((a 8), .inl (cI, 36, .inl cD'.2.1))]) [8] rfl) (hD.sub (ws' := [((a 8), .inl (cI, 36, .inl cD'.2.1))]) [8] (by decide) rfl)) rfl rfl hl.1 rfl (lv_room (Nat.le_of_ble_eq_true rfl)) dX0_join_62 ⟨Nat.le_of_ble_eq_true rfl, Nat.le_of_ble_eq_true rfl⟩) hP hD hS hA rfl (wr := (((fw a cI cJ st co ro cA cD' su jA jD)).eraseIdx 8)) rfl (by decide) (by decide) (fun u H locs hw hP hD hS => ?_)
      replace hP := hP.sub (ws' := (fw a cI cJ st co ro cA (cD'.1, (wr cD'.2.1 p1 v3), cD'.2.2.1, cD'.2.2.2) su jA jD)) [0, 1, 2, 3, 4, 5, 6, 7, 11, 8, 9, 10] rfl
      replace hD := hD.sub (ws' := (fw a cI cJ st co ro cA (cD'.1, (wr cD'.2.1 p1 v3), cD'.2.2.1, cD'.2.2.2) su jA jD)) [0, 1, 2, 3, 4, 5, 6, 7, 11, 8, 9, 10] (by decide) rfl
      refine lv_aload_n hx hb dX0_join_65 rfl (lv_at hl 0 rfl) ?_
      refine va_get (D := D) (ci := 0) (v := .ref (a 9)) (C := RX0) (T := TX0) (N := 9) hx hb hts iX0 hown hK hP 3 rfl rfl 4 (by decide) f25 (fun _ h9 => h9) rfl dX0_join_66 ?_
      refine lv_iload_n hx hb dX0_join_69 rfl (lv_at hl 2 rfl) ?_
      refine lv_aload_n hx hb dX0_join_70 rfl (lv_at hl 0 rfl) ?_
      refine va_get (D := D) (ci := 0) (v := .ref (a 9)) (C := RX0) (T := TX0) (N := 9) hx hb hts iX0 hown hK hP 3 rfl rfl 4 (by decide) f25 (fun _ h9 => h9) rfl dX0_join_71 ?_
      refine lv_iload_n hx hb dX0_join_74 rfl (lv_at hl 2 rfl) ?_
      refine cR_i (va_runSN (As := [.ref (a 9), .int v3]) (rest := [.int v3, .ref (a 9)]) ⟨hx, hb, hml, hown, hts⟩ (kX4_read (D := D) (cI := cI) (cJ := cJ) (a 9) cD'.2.2.1 v3 H.size) ⟨va_cnB 2 hts gX0_join_X4_read_n36 rfl rfl rfl (hN (.methodLinkNest RX0 36 yX4_read "CryptSums") (by decide +kernel)) (hts (.initialized RX4) (by decide +kernel)) (by decide +kernel) ⟨Nat.le_of_ble_eq_true rfl, Nat.le_of_ble_eq_true rfl⟩, hts (.static yX4_read) (by decide +kernel), trivial⟩ (preS [.ref (a 9), .int v3] hN hK (hP.sub (ws' := [((a 9), .inl (cI, 36, .inl cD'.2.2.1))]) [9] rfl) (hD.sub (ws' := [((a 9), .inl (cI, 36, .inl cD'.2.2.1))]) [9] (by decide) rfl)) rfl rfl hl.1 rfl (lv_room (Nat.le_of_ble_eq_true rfl)) dX0_join_75 ⟨Nat.le_of_ble_eq_true rfl, Nat.le_of_ble_eq_true rfl⟩) hP hS (fun r u H locs hw hP hS => ?_)
      rw [hw]
      refine lv_iconst (v := 1) hx hb dX0_join_78 (by decide) ?_
      refine lv_iadd hx hb dX0_join_79 ?_
      refine cW_v [9] [0, 1, 2, 3, 4, 5, 6, 7, 8, 10, 11] (va_runSN (As := [.ref (a 9), .int v3, .int ((rd cD'.2.2.1 v3) + (1 : Int32))]) (rest := []) ⟨hx, hb, hml, hown, hts⟩ (kX4_write (D := D) (cI := cI) (cJ := cJ) (a 9) cD'.2.2.1 v3 ((rd cD'.2.2.1 v3) + (1 : Int32)) H.size) ⟨va_cnB 3 hts gX0_join_X4_write_n32 rfl rfl rfl (hN (.methodLinkNest RX0 32 yX4_write "CryptSums") (by decide +kernel)) (hts (.initialized RX4) (by decide +kernel)) (by decide +kernel) ⟨Nat.le_of_ble_eq_true rfl, Nat.le_of_ble_eq_true rfl⟩, hts (.static yX4_write) (by decide +kernel), trivial⟩ (preS [.ref (a 9), .int v3, .int ((rd cD'.2.2.1 v3) + (1 : Int32))] hN hK (hP.sub (ws' := [((a 9), .inl (cI, 36, .inl cD'.2.2.1))]) [9] rfl) (hD.sub (ws' := [((a 9), .inl (cI, 36, .inl cD'.2.2.1))]) [9] (by decide) rfl)) rfl rfl hl.1 rfl (lv_room (Nat.le_of_ble_eq_true rfl)) dX0_join_80 ⟨Nat.le_of_ble_eq_true rfl, Nat.le_of_ble_eq_true rfl⟩) hP hD hS hA rfl (wr := (((fw a cI cJ st co ro cA (cD'.1, (wr cD'.2.1 p1 v3), cD'.2.2.1, cD'.2.2.2) su jA jD)).eraseIdx 9)) rfl (by decide) (by decide) (fun u H locs hw hP hD hS => ?_)
      replace hP := hP.sub (ws' := (fw a cI cJ st co ro cA (cD'.1, (wr cD'.2.1 p1 v3), (wr cD'.2.2.1 v3 ((rd cD'.2.2.1 v3) + (1 : Int32))), cD'.2.2.2) su jA jD)) [0, 1, 2, 3, 4, 5, 6, 7, 8, 11, 9, 10] rfl
      replace hD := hD.sub (ws' := (fw a cI cJ st co ro cA (cD'.1, (wr cD'.2.1 p1 v3), (wr cD'.2.2.1 v3 ((rd cD'.2.2.1 v3) + (1 : Int32))), cD'.2.2.2) su jA jD)) [0, 1, 2, 3, 4, 5, 6, 7, 8, 11, 9, 10] (by decide) rfl
      obtain rfl := Option.some.inj hM
      subst hQ hAe
      exact W.vret hx hb hr (fun t ht hW => ⟨⟨(), rfl, trivial, ⟨by rw [ht]; exact hP, hD⟩⟩, hS.F ht⟩) hS.2.2 dX0_join_83
  have c48 : ∀ (s0 : Int32) (cD' : CS), mX0_join_48 N p1 s0 cD' = some o → ∀ (H : Heap) (locs : List Loc) (ls : Array Slot), va_P D vwCl (fw a cI cJ st co ro cA cD' su jA jD) H → va_D A (fw a cI cJ st co ro cA cD' su jA jD) → va_S A s.heap H locs → lv_has ls 4 [(0, .ref (a 3)), (1, .int p1)] → W p l e rmX0_join s m args below meth c H locs 0 0 Q (F0 m 48 ls [.int s0]) := by
      intro  s0 cD' hM H locs ls hP hD hS hl
      rw [mX0_join_48] at hM
      refine lv_istore_n (lv' := [(3, .int s0), (0, .ref (a 3)), (1, .int p1)]) hx hb dX0_join_48 rfl hl (by decide) rfl (fun ls hl => ?_)
      refine lv_iload_n hx hb dX0_join_49 rfl (lv_at hl 0 rfl) ?_
      refine lv_iconst (v := -1) hx hb dX0_join_50 (by decide) ?_
      refine lv_icmp_ne (tgt := 56) hx hb dX0_join_51 (by decide) (fun hcc => ?_) (fun hcc => ?_)
      · replace hM := it_n hcc hM
        exact c56 s0 cD' hM H locs ls hP hD hS (lv_sub hl [1, 2, 0] rfl)
      · replace hM := it_p hcc hM
        refine lv_iload_n hx hb dX0_join_54 rfl (lv_at hl 2 rfl) ?_
        refine lv_istore_n (lv' := [(3, .int p1), (0, .ref (a 3)), (1, .int p1)]) hx hb dX0_join_55 rfl hl (by decide) rfl (fun ls hl => ?_)
        exact c56 p1 cD' hM H locs ls hP hD hS (lv_sub hl [1, 2, 0] rfl)
  rw [mX0_join] at hM
  refine lv_aload_n hx hb dX0_join_0 rfl (lv_at hl 0 rfl) ?_
  refine va_get (D := D) (ci := 0) (v := .ref (a 9)) (C := RX0) (T := TX0) (N := 9) hx hb hts iX0 hown hK hP 3 rfl rfl 4 (by decide) f25 (fun _ h9 => h9) rfl dX0_join_1 ?_
  refine lv_iload_n hx hb dX0_join_4 rfl (lv_at hl 1 rfl) ?_
  refine lv_iconst (v := 0) hx hb dX0_join_5 (by decide) ?_
  refine cW_v [9] [0, 1, 2, 3, 4, 5, 6, 7, 8, 10, 11] (va_runSN (As := [.ref (a 9), .int p1, .int (0 : Int32)]) (rest := []) ⟨hx, hb, hml, hown, hts⟩ (kX4_write (D := D) (cI := cI) (cJ := cJ) (a 9) cD.2.2.1 p1 (0 : Int32) H.size) ⟨va_cnB 3 hts gX0_join_X4_write_n32 rfl rfl rfl (hN (.methodLinkNest RX0 32 yX4_write "CryptSums") (by decide +kernel)) (hts (.initialized RX4) (by decide +kernel)) (by decide +kernel) ⟨Nat.le_of_ble_eq_true rfl, Nat.le_of_ble_eq_true rfl⟩, hts (.static yX4_write) (by decide +kernel), trivial⟩ (preS [.ref (a 9), .int p1, .int (0 : Int32)] hN hK (hP.sub (ws' := [((a 9), .inl (cI, 36, .inl cD.2.2.1))]) [9] rfl) (hD.sub (ws' := [((a 9), .inl (cI, 36, .inl cD.2.2.1))]) [9] (by decide) rfl)) rfl rfl hl.1 rfl (lv_room (Nat.le_of_ble_eq_true rfl)) dX0_join_6 ⟨Nat.le_of_ble_eq_true rfl, Nat.le_of_ble_eq_true rfl⟩) hP hD hS hA rfl (wr := (((fw a cI cJ st co ro cA cD su jA jD)).eraseIdx 9)) rfl (by decide) (by decide) (fun u H locs hw hP hD hS => ?_)
  replace hP := hP.sub (ws' := (fw a cI cJ st co ro cA (cD.1, cD.2.1, (wr cD.2.2.1 p1 (0 : Int32)), cD.2.2.2) su jA jD)) [0, 1, 2, 3, 4, 5, 6, 7, 8, 11, 9, 10] rfl
  replace hD := hD.sub (ws' := (fw a cI cJ st co ro cA (cD.1, cD.2.1, (wr cD.2.2.1 p1 (0 : Int32)), cD.2.2.2) su jA jD)) [0, 1, 2, 3, 4, 5, 6, 7, 8, 11, 9, 10] (by decide) rfl
  refine lv_aload_n hx hb dX0_join_9 rfl (lv_at hl 0 rfl) ?_
  refine va_get (D := D) (ci := 0) (v := .ref (a 1)) (C := RX0) (T := TX0) (N := 9) hx hb hts iX0 hown hK hP 3 rfl rfl 0 (by decide) f9 (fun _ h9 => h9) rfl dX0_join_10 ?_
  refine lv_iload_n hx hb dX0_join_13 rfl (lv_at hl 1 rfl) ?_
  refine cR_i (va_runSN (As := [.ref (a 1), .int p1]) (rest := []) ⟨hx, hb, hml, hown, hts⟩ (kX4_read (D := D) (cI := cI) (cJ := cJ) (a 1) st p1 H.size) ⟨va_cnB 2 hts gX0_join_X4_read_n36 rfl rfl rfl (hN (.methodLinkNest RX0 36 yX4_read "CryptSums") (by decide +kernel)) (hts (.initialized RX4) (by decide +kernel)) (by decide +kernel) ⟨Nat.le_of_ble_eq_true rfl, Nat.le_of_ble_eq_true rfl⟩, hts (.static yX4_read) (by decide +kernel), trivial⟩ (preS [.ref (a 1), .int p1] hN hK (hP.sub (ws' := [((a 1), .inl (cI, 36, .inl st))]) [1] rfl) (hD.sub (ws' := [((a 1), .inl (cI, 36, .inl st))]) [1] (by decide) rfl)) rfl rfl hl.1 rfl (lv_room (Nat.le_of_ble_eq_true rfl)) dX0_join_14 ⟨Nat.le_of_ble_eq_true rfl, Nat.le_of_ble_eq_true rfl⟩) hP hS (fun r u H locs hw hP hS => ?_)
  rw [hw]
  refine lv_iconst (v := -1) hx hb dX0_join_17 (by decide) ?_
  refine lv_icmp_ne (tgt := 31) hx hb dX0_join_18 (by decide) (fun hcc => ?_) (fun hcc => ?_)
  · replace hM := it_n hcc hM
    refine lv_iload_n hx hb dX0_join_31 rfl (lv_at hl 2 rfl) ?_
    refine lv_iconst (v := -1) hx hb dX0_join_32 (by decide) ?_
    refine lv_icmp_ne (tgt := 40) hx hb dX0_join_33 (by decide) (fun hcc => ?_) (fun hcc => ?_)
    · replace hM := it_n hcc hM
      refine lv_aload_n hx hb dX0_join_40 rfl (lv_at hl 0 rfl) ?_
      refine va_get (D := D) (ci := 0) (v := .ref (a 8)) (C := RX0) (T := TX0) (N := 9) hx hb hts iX0 hown hK hP 3 rfl rfl 3 (by decide) f22 (fun _ h9 => h9) rfl dX0_join_41 ?_
      refine lv_iload_n hx hb dX0_join_44 rfl (lv_at hl 2 rfl) ?_
      refine cR_i (va_runSN (As := [.ref (a 8), .int p2]) (rest := []) ⟨hx, hb, hml, hown, hts⟩ (kX4_read (D := D) (cI := cI) (cJ := cJ) (a 8) cD.2.1 p2 H.size) ⟨va_cnB 2 hts gX0_join_X4_read_n36 rfl rfl rfl (hN (.methodLinkNest RX0 36 yX4_read "CryptSums") (by decide +kernel)) (hts (.initialized RX4) (by decide +kernel)) (by decide +kernel) ⟨Nat.le_of_ble_eq_true rfl, Nat.le_of_ble_eq_true rfl⟩, hts (.static yX4_read) (by decide +kernel), trivial⟩ (preS [.ref (a 8), .int p2] hN hK (hP.sub (ws' := [((a 8), .inl (cI, 36, .inl cD.2.1))]) [8] rfl) (hD.sub (ws' := [((a 8), .inl (cI, 36, .inl cD.2.1))]) [8] (by decide) rfl)) rfl rfl hl.1 rfl (lv_room (Nat.le_of_ble_eq_true rfl)) dX0_join_45 ⟨Nat.le_of_ble_eq_true rfl, Nat.le_of_ble_eq_true rfl⟩) hP hS (fun r u H locs hw hP hS => ?_)
      rw [hw]
      exact c48 (rd cD.2.1 p2) (cD.1, cD.2.1, (wr cD.2.2.1 p1 (0 : Int32)), cD.2.2.2) hM H locs ls hP hD hS (lv_sub hl [0, 1] rfl)
    · replace hM := it_p hcc hM
      refine lv_iconst (v := -1) hx hb dX0_join_36 (by decide) ?_
      refine lv_goto (tgt := 48) hx hb dX0_join_37 (by decide) ?_
      exact c48 (-1 : Int32) (cD.1, cD.2.1, (wr cD.2.2.1 p1 (0 : Int32)), cD.2.2.2) hM H locs ls hP hD hS (lv_sub hl [0, 1] rfl)
  · replace hM := it_p hcc hM
    refine lv_aload_n hx hb dX0_join_21 rfl (lv_at hl 0 rfl) ?_
    refine va_get (D := D) (ci := 0) (v := .ref (a 8)) (C := RX0) (T := TX0) (N := 9) hx hb hts iX0 hown hK hP 3 rfl rfl 3 (by decide) f22 (fun _ h9 => h9) rfl dX0_join_22 ?_
    refine lv_iload_n hx hb dX0_join_25 rfl (lv_at hl 1 rfl) ?_
    refine lv_iconst (v := -1) hx hb dX0_join_26 (by decide) ?_
    refine cW_v [8] [0, 1, 2, 3, 4, 5, 6, 7, 9, 10, 11] (va_runSN (As := [.ref (a 8), .int p1, .int (-1 : Int32)]) (rest := []) ⟨hx, hb, hml, hown, hts⟩ (kX4_write (D := D) (cI := cI) (cJ := cJ) (a 8) cD.2.1 p1 (-1 : Int32) H.size) ⟨va_cnB 3 hts gX0_join_X4_write_n32 rfl rfl rfl (hN (.methodLinkNest RX0 32 yX4_write "CryptSums") (by decide +kernel)) (hts (.initialized RX4) (by decide +kernel)) (by decide +kernel) ⟨Nat.le_of_ble_eq_true rfl, Nat.le_of_ble_eq_true rfl⟩, hts (.static yX4_write) (by decide +kernel), trivial⟩ (preS [.ref (a 8), .int p1, .int (-1 : Int32)] hN hK (hP.sub (ws' := [((a 8), .inl (cI, 36, .inl cD.2.1))]) [8] rfl) (hD.sub (ws' := [((a 8), .inl (cI, 36, .inl cD.2.1))]) [8] (by decide) rfl)) rfl rfl hl.1 rfl (lv_room (Nat.le_of_ble_eq_true rfl)) dX0_join_27 ⟨Nat.le_of_ble_eq_true rfl, Nat.le_of_ble_eq_true rfl⟩) hP hD hS hA rfl (wr := (((fw a cI cJ st co ro cA (cD.1, cD.2.1, (wr cD.2.2.1 p1 (0 : Int32)), cD.2.2.2) su jA jD)).eraseIdx 8)) rfl (by decide) (by decide) (fun u H locs hw hP hD hS => ?_)
    replace hP := hP.sub (ws' := (fw a cI cJ st co ro cA (cD.1, (wr cD.2.1 p1 (-1 : Int32)), (wr cD.2.2.1 p1 (0 : Int32)), cD.2.2.2) su jA jD)) [0, 1, 2, 3, 4, 5, 6, 7, 11, 8, 9, 10] rfl
    replace hD := hD.sub (ws' := (fw a cI cJ st co ro cA (cD.1, (wr cD.2.1 p1 (-1 : Int32)), (wr cD.2.2.1 p1 (0 : Int32)), cD.2.2.2) su jA jD)) [0, 1, 2, 3, 4, 5, 6, 7, 11, 8, 9, 10] (by decide) rfl
    obtain rfl := Option.some.inj hM
    subst hQ hAe
    exact W.vret hx hb hr (fun t ht hW => ⟨⟨(), rfl, trivial, ⟨by rw [ht]; exact hP, hD⟩⟩, hS.F ht⟩) hS.2.2 dX0_join_30
def mX0_beginsAt (N : Nat) (cA : CS) (p1 : Int32) : Option Int32 :=
  (if (rd cA.2.1 p1) = p1 then
  some (1 : Int32)
  else
  some (0 : Int32))
abbrev rmX0_beginsAt : Room := { frames := 1, cells := 0, slots := 0, locals := 21 }
set_option maxHeartbeats 4000000 in
set_option maxRecDepth 100000 in
theorem kX0_beginsAt_A {l : Launch} {D : va_G} {cI cJ : ClassId} (N : Nat) (a : Nat → Nat) {st : RowI} {co : Int32} {ro : Int32} {cA : CS} {cD : CS} {su : RowJ} {jA : JT} {jD : JT} {p1 : Int32} {o : Int32} (hM : mX0_beginsAt N cA p1 = some o) (sz : Nat) : Met l yX0_beginsAt wsX0_beginsAt rmX0_beginsAt (va_Pc [.ref (a 2), .int p1] (Pre D cI cJ (fw a cI cJ st co ro cA cD su jA jD) sz)) (va_Qi (fun (r : Int32) (_ : Unit) => r = o ∧ bz r) (fun _ _ => True) (fun _ => False)) 0 0 (fun _ => False) := by
  refine xofR (cc := cX0_beginsAt) (maxL := 2) (ret := (some .boolean)) rfl (by decide) rfl ?_
  intro p e s m args below meth c ls Q A hQ hAe hx hb hr hml hown hts hlocks hN hK H locs hP hD hS hl
  replace hown : s.vm.findClass RX0 = some m.cls := hown
  replace hl : lv_has ls 2 [(0, .ref (a 2)), (1, .int p1)] := hl
  have iX0 : ∀ w ∈ wsX00, w ∈ wsX0_beginsAt := by decide +kernel
  have f22 := hts (.fieldLink RX0 22 "CryptSums$Corridors" "first" "[I") (by decide +kernel)
  rw [mX0_beginsAt] at hM
  refine lv_aload_n hx hb dX0_beginsAt_0 rfl (lv_at hl 0 rfl) ?_
  refine va_get (D := D) (ci := 0) (v := .ref (a 5)) (C := RX0) (T := TX0) (N := 9) hx hb hts iX0 hown hK hP 2 rfl rfl 3 (by decide) f22 (fun _ h9 => h9) rfl dX0_beginsAt_1 ?_
  refine lv_iload_n hx hb dX0_beginsAt_4 rfl (lv_at hl 1 rfl) ?_
  refine cR_i (va_runSN (As := [.ref (a 5), .int p1]) (rest := []) ⟨hx, hb, hml, hown, hts⟩ (kX4_read (D := D) (cI := cI) (cJ := cJ) (a 5) cA.2.1 p1 H.size) ⟨va_cnB 2 hts gX0_beginsAt_X4_read_n36 rfl rfl rfl (hN (.methodLinkNest RX0 36 yX4_read "CryptSums") (by decide +kernel)) (hts (.initialized RX4) (by decide +kernel)) (by decide +kernel) ⟨Nat.le_of_ble_eq_true rfl, Nat.le_of_ble_eq_true rfl⟩, hts (.static yX4_read) (by decide +kernel), trivial⟩ (preS [.ref (a 5), .int p1] hN hK (hP.sub (ws' := [((a 5), .inl (cI, 36, .inl cA.2.1))]) [5] rfl) (hD.sub (ws' := [((a 5), .inl (cI, 36, .inl cA.2.1))]) [5] (by decide) rfl)) rfl rfl hl.1 rfl (lv_room (Nat.le_of_ble_eq_true rfl)) dX0_beginsAt_5 ⟨Nat.le_of_ble_eq_true rfl, Nat.le_of_ble_eq_true rfl⟩) hP hS (fun r u H locs hw hP hS => ?_)
  rw [hw]
  refine lv_iload_n hx hb dX0_beginsAt_8 rfl (lv_at hl 1 rfl) ?_
  refine lv_icmp_ne (tgt := 16) hx hb dX0_beginsAt_9 (by decide) (fun hcc => ?_) (fun hcc => ?_)
  · replace hM := it_n hcc hM
    refine lv_iconst (v := 0) hx hb dX0_beginsAt_16 (by decide) ?_
    obtain rfl := Option.some.inj hM
    subst hQ hAe
    exact W.zret (ty := .boolean) (v := (0 : Int32)) hx hb hr (nb_z (Or.inl rfl)) (fun t ht hW => ⟨⟨(0 : Int32), (), rfl, ⟨rfl, Or.inl rfl⟩, trivial⟩, hS.F ht⟩) hS.2.2 dX0_beginsAt_17
  · replace hM := it_p hcc hM
    refine lv_iconst (v := 1) hx hb dX0_beginsAt_12 (by decide) ?_
    refine lv_goto (tgt := 17) hx hb dX0_beginsAt_13 (by decide) ?_
    obtain rfl := Option.some.inj hM
    subst hQ hAe
    exact W.zret (ty := .boolean) (v := (1 : Int32)) hx hb hr (nb_z (Or.inr rfl)) (fun t ht hW => ⟨⟨(1 : Int32), (), rfl, ⟨rfl, Or.inr rfl⟩, trivial⟩, hS.F ht⟩) hS.2.2 dX0_beginsAt_17
set_option maxHeartbeats 4000000 in
set_option maxRecDepth 100000 in
theorem kX0_beginsAt_D {l : Launch} {D : va_G} {cI cJ : ClassId} (N : Nat) (a : Nat → Nat) {st : RowI} {co : Int32} {ro : Int32} {cA : CS} {cD : CS} {su : RowJ} {jA : JT} {jD : JT} {p1 : Int32} {o : Int32} (hM : mX0_beginsAt N cD p1 = some o) (sz : Nat) : Met l yX0_beginsAt wsX0_beginsAt rmX0_beginsAt (va_Pc [.ref (a 3), .int p1] (Pre D cI cJ (fw a cI cJ st co ro cA cD su jA jD) sz)) (va_Qi (fun (r : Int32) (_ : Unit) => r = o ∧ bz r) (fun _ _ => True) (fun _ => False)) 0 0 (fun _ => False) := by
  refine xofR (cc := cX0_beginsAt) (maxL := 2) (ret := (some .boolean)) rfl (by decide) rfl ?_
  intro p e s m args below meth c ls Q A hQ hAe hx hb hr hml hown hts hlocks hN hK H locs hP hD hS hl
  replace hown : s.vm.findClass RX0 = some m.cls := hown
  replace hl : lv_has ls 2 [(0, .ref (a 3)), (1, .int p1)] := hl
  have iX0 : ∀ w ∈ wsX00, w ∈ wsX0_beginsAt := by decide +kernel
  have f22 := hts (.fieldLink RX0 22 "CryptSums$Corridors" "first" "[I") (by decide +kernel)
  rw [mX0_beginsAt] at hM
  refine lv_aload_n hx hb dX0_beginsAt_0 rfl (lv_at hl 0 rfl) ?_
  refine va_get (D := D) (ci := 0) (v := .ref (a 8)) (C := RX0) (T := TX0) (N := 9) hx hb hts iX0 hown hK hP 3 rfl rfl 3 (by decide) f22 (fun _ h9 => h9) rfl dX0_beginsAt_1 ?_
  refine lv_iload_n hx hb dX0_beginsAt_4 rfl (lv_at hl 1 rfl) ?_
  refine cR_i (va_runSN (As := [.ref (a 8), .int p1]) (rest := []) ⟨hx, hb, hml, hown, hts⟩ (kX4_read (D := D) (cI := cI) (cJ := cJ) (a 8) cD.2.1 p1 H.size) ⟨va_cnB 2 hts gX0_beginsAt_X4_read_n36 rfl rfl rfl (hN (.methodLinkNest RX0 36 yX4_read "CryptSums") (by decide +kernel)) (hts (.initialized RX4) (by decide +kernel)) (by decide +kernel) ⟨Nat.le_of_ble_eq_true rfl, Nat.le_of_ble_eq_true rfl⟩, hts (.static yX4_read) (by decide +kernel), trivial⟩ (preS [.ref (a 8), .int p1] hN hK (hP.sub (ws' := [((a 8), .inl (cI, 36, .inl cD.2.1))]) [8] rfl) (hD.sub (ws' := [((a 8), .inl (cI, 36, .inl cD.2.1))]) [8] (by decide) rfl)) rfl rfl hl.1 rfl (lv_room (Nat.le_of_ble_eq_true rfl)) dX0_beginsAt_5 ⟨Nat.le_of_ble_eq_true rfl, Nat.le_of_ble_eq_true rfl⟩) hP hS (fun r u H locs hw hP hS => ?_)
  rw [hw]
  refine lv_iload_n hx hb dX0_beginsAt_8 rfl (lv_at hl 1 rfl) ?_
  refine lv_icmp_ne (tgt := 16) hx hb dX0_beginsAt_9 (by decide) (fun hcc => ?_) (fun hcc => ?_)
  · replace hM := it_n hcc hM
    refine lv_iconst (v := 0) hx hb dX0_beginsAt_16 (by decide) ?_
    obtain rfl := Option.some.inj hM
    subst hQ hAe
    exact W.zret (ty := .boolean) (v := (0 : Int32)) hx hb hr (nb_z (Or.inl rfl)) (fun t ht hW => ⟨⟨(0 : Int32), (), rfl, ⟨rfl, Or.inl rfl⟩, trivial⟩, hS.F ht⟩) hS.2.2 dX0_beginsAt_17
  · replace hM := it_p hcc hM
    refine lv_iconst (v := 1) hx hb dX0_beginsAt_12 (by decide) ?_
    refine lv_goto (tgt := 17) hx hb dX0_beginsAt_13 (by decide) ?_
    obtain rfl := Option.some.inj hM
    subst hQ hAe
    exact W.zret (ty := .boolean) (v := (1 : Int32)) hx hb hr (nb_z (Or.inr rfl)) (fun t ht hW => ⟨⟨(1 : Int32), (), rfl, ⟨rfl, Or.inr rfl⟩, trivial⟩, hS.F ht⟩) hS.2.2 dX0_beginsAt_17
def mX0_isWellFrom (N : Nat) (st : RowI) (cA : CS) (su : RowJ) (p1 : Int32) : Option Int32 :=
  ((mX0_look N st cA p1).bind fun x2 =>
  ((mX0_sawAlike N x2).bind fun x6 =>
  (if x6 = 0 then
  (if (rd cA.1 p1) = 0 then
  some (1 : Int32)
  else
  ((mX2_make N su ((1022 : Int32) &&& (x2.1 ^^^ (-1 : Int32))) ((rd cA.2.2.1 p1) - x2.2.1) ((rd cA.1 p1) - x2.2.2)).bind fun x62 =>
  (if x62 = 0 then
  some (0 : Int32)
  else
  some (1 : Int32))))
  else
  some (0 : Int32))))
abbrev rmX0_isWellFrom : Room := { frames := 2, cells := 0, slots := 0, locals := 45 }
set_option maxHeartbeats 4000000 in
set_option maxRecDepth 100000 in
theorem kX0_isWellFrom_A {l : Launch} {D : va_G} {cI cJ : ClassId} (N : Nat) (a : Nat → Nat) {st : RowI} {co : Int32} {ro : Int32} {cA : CS} {cD : CS} {su : RowJ} {jA : JT} {jD : JT} {p1 : Int32} {o : Int32} (hM : mX0_isWellFrom N st cA su p1 = some o) (sz : Nat) : Met l yX0_isWellFrom wsX0_isWellFrom rmX0_isWellFrom (va_Pc [.ref (a 2), .int p1] (Pre D cI cJ (fw a cI cJ st co ro cA cD su jA jD) sz)) (va_Qi (fun (r : Int32) (_ : JT × JT) => r = o ∧ bz r) (aft D (fw a cI cJ st co ro cA cD su jA jD) sz (fun (u : JT × JT) => (fw a cI cJ st co ro cA cD su u.1 u.2))) (va_A (fw a cI cJ st co ro cA cD su jA jD) sz)) 0 0 (va_A (fw a cI cJ st co ro cA cD su jA jD) sz) := by
  refine xofW (cc := cX0_isWellFrom) (maxL := 4) (ret := (some .boolean)) rfl (by decide) rfl ?_
  intro p e s m args below meth c ls Q A hQ hAe hx hb hr hml hown hts hlocks hnm hN hK H locs hP hD hS hA hl
  replace hown : s.vm.findClass RX0 = some m.cls := hown
  replace hl : lv_has ls 4 [(0, .ref (a 2)), (1, .int p1)] := hl
  have iX0 : ∀ w ∈ wsX00, w ∈ wsX0_isWellFrom := by decide +kernel
  have f15 := hts (.fieldLink RX0 15 "CryptSums$Corridors" "partitions" "LCryptSums$Partitions;") (by decide +kernel)
  have f19 := hts (.fieldLink RX0 19 "CryptSums$Corridors" "told" "[I") (by decide +kernel)
  have f25 := hts (.fieldLink RX0 25 "CryptSums$Corridors" "size" "[I") (by decide +kernel)
  have f44 := hts (.fieldLink RX0 44 "CryptSums$Corridors" "seenStones" "I") (by decide +kernel)
  have f47 := hts (.fieldLink RX0 47 "CryptSums$Corridors" "seenTotal" "I") (by decide +kernel)
  have f58 := hts (.fieldLink RX0 58 "CryptSums$Corridors" "seenNumbers" "I") (by decide +kernel)
  rw [mX0_isWellFrom] at hM
  refine lv_aload_n hx hb dX0_isWellFrom_0 rfl (lv_at hl 0 rfl) ?_
  refine lv_iload_n hx hb dX0_isWellFrom_1 rfl (lv_at hl 1 rfl) ?_
  obtain ⟨x2, hC, hM⟩ := bd_s hM
  refine cW_v [0, 1, 2, 3, 4, 5, 6, 7, 8, 9, 10, 11] [] (va_runV (As := [.int p1]) (rest := []) ⟨hx, hb, hml, hown, hts⟩ (kX0_look_A (l := l) (D := D) (cI := cI) (cJ := cJ) N a (st := st) (co := co) (ro := ro) (cA := cA) (cD := cD) (su := su) (jA := jA) (jD := jD) (p1 := p1) hC H.size) (cwV 1 hts gX0_isWellFrom_X0_look rfl rfl rfl (by decide +kernel) ⟨Nat.le_of_ble_eq_true rfl, Nat.le_of_ble_eq_true rfl⟩) (preV [.int p1] hN hK hP hD (ci := 0) (q0 := 2) rfl rfl) rfl rfl hl.1 rfl (lv_room (Nat.le_of_ble_eq_true rfl)) dX0_isWellFrom_2 ⟨Nat.le_of_ble_eq_true rfl, Nat.le_of_ble_eq_true rfl⟩) hP hD hS hA rfl (wr := []) rfl (by decide) (by decide) (fun u2 H locs hw hP hD hS => ?_)
  replace hP : va_P D vwCl (fw a cI cJ st co ro cA cD su x2 jD) H := hP
  replace hD : va_D A (fw a cI cJ st co ro cA cD su x2 jD) := hD
  refine lv_aload_n hx hb dX0_isWellFrom_5 rfl (lv_at hl 0 rfl) ?_
  obtain ⟨x6, hC, hM⟩ := bd_s hM
  refine cR_i (va_runV (As := []) (rest := []) ⟨hx, hb, hml, hown, hts⟩ (kX0_sawAlike_A (l := l) (D := D) (cI := cI) (cJ := cJ) N a (st := st) (co := co) (ro := ro) (cA := cA) (cD := cD) (su := su) (jA := x2) (jD := jD) hC H.size) (cwV 0 hts gX0_isWellFrom_X0_sawAlike rfl rfl rfl (by decide +kernel) ⟨Nat.le_of_ble_eq_true rfl, Nat.le_of_ble_eq_true rfl⟩) (preV [] hN hK hP hD (ci := 0) (q0 := 2) rfl rfl) rfl rfl hl.1 rfl (lv_room (Nat.le_of_ble_eq_true rfl)) dX0_isWellFrom_6 ⟨Nat.le_of_ble_eq_true rfl, Nat.le_of_ble_eq_true rfl⟩) hP hS (fun r u H locs hw hP hS => ?_)
  obtain ⟨hw, hz6⟩ := hw
  rw [hw] at hz6
  rw [hw]
  refine lv_if_eq (tgt := 14) hx hb dX0_isWellFrom_9 (by decide) (fun hcc => ?_) (fun hcc => ?_)
  · replace hM := it_p hcc hM
    refine lv_aload_n hx hb dX0_isWellFrom_14 rfl (lv_at hl 0 rfl) ?_
    refine va_get (D := D) (ci := 0) (v := .ref (a 4)) (C := RX0) (T := TX0) (N := 9) hx hb hts iX0 hown hK hP 2 rfl rfl 2 (by decide) f19 (fun _ h9 => h9) rfl dX0_isWellFrom_15 ?_
    refine lv_iload_n hx hb dX0_isWellFrom_18 rfl (lv_at hl 1 rfl) ?_
    refine cR_i (va_runSN (As := [.ref (a 4), .int p1]) (rest := []) ⟨hx, hb, hml, hown, hts⟩ (kX4_read (D := D) (cI := cI) (cJ := cJ) (a 4) cA.1 p1 H.size) ⟨va_cnB 2 hts gX0_isWellFrom_X4_read_n36 rfl rfl rfl (hN (.methodLinkNest RX0 36 yX4_read "CryptSums") (by decide +kernel)) (hts (.initialized RX4) (by decide +kernel)) (by decide +kernel) ⟨Nat.le_of_ble_eq_true rfl, Nat.le_of_ble_eq_true rfl⟩, hts (.static yX4_read) (by decide +kernel), trivial⟩ (preS [.ref (a 4), .int p1] hN hK (hP.sub (ws' := [((a 4), .inl (cI, 36, .inl cA.1))]) [4] rfl) (hD.sub (ws' := [((a 4), .inl (cI, 36, .inl cA.1))]) [4] (by decide) rfl)) rfl rfl hl.1 rfl (lv_room (Nat.le_of_ble_eq_true rfl)) dX0_isWellFrom_19 ⟨Nat.le_of_ble_eq_true rfl, Nat.le_of_ble_eq_true rfl⟩) hP hS (fun r u H locs hw hP hS => ?_)
    rw [hw]
    refine lv_istore_n (lv' := [(2, .int (rd cA.1 p1)), (0, .ref (a 2)), (1, .int p1)]) hx hb dX0_isWellFrom_22 rfl hl (by decide) rfl (fun ls hl => ?_)
    refine lv_aload_n hx hb dX0_isWellFrom_23 rfl (lv_at hl 1 rfl) ?_
    refine va_get (D := D) (ci := 0) (v := .ref (a 6)) (C := RX0) (T := TX0) (N := 9) hx hb hts iX0 hown hK hP 2 rfl rfl 4 (by decide) f25 (fun _ h9 => h9) rfl dX0_isWellFrom_24 ?_
    refine lv_iload_n hx hb dX0_isWellFrom_27 rfl (lv_at hl 2 rfl) ?_
    refine cR_i (va_runSN (As := [.ref (a 6), .int p1]) (rest := []) ⟨hx, hb, hml, hown, hts⟩ (kX4_read (D := D) (cI := cI) (cJ := cJ) (a 6) cA.2.2.1 p1 H.size) ⟨va_cnB 2 hts gX0_isWellFrom_X4_read_n36 rfl rfl rfl (hN (.methodLinkNest RX0 36 yX4_read "CryptSums") (by decide +kernel)) (hts (.initialized RX4) (by decide +kernel)) (by decide +kernel) ⟨Nat.le_of_ble_eq_true rfl, Nat.le_of_ble_eq_true rfl⟩, hts (.static yX4_read) (by decide +kernel), trivial⟩ (preS [.ref (a 6), .int p1] hN hK (hP.sub (ws' := [((a 6), .inl (cI, 36, .inl cA.2.2.1))]) [6] rfl) (hD.sub (ws' := [((a 6), .inl (cI, 36, .inl cA.2.2.1))]) [6] (by decide) rfl)) rfl rfl hl.1 rfl (lv_room (Nat.le_of_ble_eq_true rfl)) dX0_isWellFrom_28 ⟨Nat.le_of_ble_eq_true rfl, Nat.le_of_ble_eq_true rfl⟩) hP hS (fun r u H locs hw hP hS => ?_)
    rw [hw]
    refine lv_aload_n hx hb dX0_isWellFrom_31 rfl (lv_at hl 1 rfl) ?_
    refine va_get (D := D) (ci := 0) (v := .int x2.2.1) (C := RX0) (T := TX0) (N := 9) hx hb hts iX0 hown hK hP 2 rfl rfl 7 (by decide) f44 (fun _ h9 => h9) rfl dX0_isWellFrom_32 ?_
    refine lv_isub hx hb dX0_isWellFrom_35 ?_
    refine lv_istore_n (lv' := [(3, .int ((rd cA.2.2.1 p1) - x2.2.1)), (2, .int (rd cA.1 p1)), (0, .ref (a 2)), (1, .int p1)]) hx hb dX0_isWellFrom_36 rfl hl (by decide) rfl (fun ls hl => ?_)
    refine lv_iload_n hx hb dX0_isWellFrom_37 rfl (lv_at hl 1 rfl) ?_
    refine lv_if_eq (tgt := 68) hx hb dX0_isWellFrom_38 (by decide) (fun hcc => ?_) (fun hcc => ?_)
    · replace hM := it_p hcc hM
      refine lv_iconst (v := 1) hx hb dX0_isWellFrom_68 (by decide) ?_
      refine lv_goto (tgt := 73) hx hb dX0_isWellFrom_69 (by decide) ?_
      obtain rfl := Option.some.inj hM
      subst hQ hAe
      exact W.zret (ty := .boolean) (v := (1 : Int32)) hx hb hr (nb_z (Or.inr rfl)) (fun t ht hW => ⟨⟨(1 : Int32), (x2, jD), rfl, ⟨rfl, Or.inr rfl⟩, ⟨by rw [ht]; exact hP, hD⟩⟩, hS.F ht⟩) hS.2.2 dX0_isWellFrom_73
    · replace hM := it_n hcc hM
      refine lv_aload_n hx hb dX0_isWellFrom_41 rfl (lv_at hl 2 rfl) ?_
      refine va_get (D := D) (ci := 0) (v := .ref (a 10)) (C := RX0) (T := TX0) (N := 9) hx hb hts iX0 hown hK hP 2 rfl rfl 1 (by decide) f15 (fun _ h9 => h9) rfl dX0_isWellFrom_42 ?_
      refine lv_sipush (v := 1022) hx hb dX0_isWellFrom_45 (by decide) ?_
      refine lv_aload_n hx hb dX0_isWellFrom_48 rfl (lv_at hl 2 rfl) ?_
      refine va_get (D := D) (ci := 0) (v := .int x2.1) (C := RX0) (T := TX0) (N := 9) hx hb hts iX0 hown hK hP 2 rfl rfl 6 (by decide) f58 (fun _ h9 => h9) rfl dX0_isWellFrom_49 ?_
      refine lv_iconst (v := -1) hx hb dX0_isWellFrom_52 (by decide) ?_
      refine lv_ixor hx hb dX0_isWellFrom_53 ?_
      refine lv_iand hx hb dX0_isWellFrom_54 ?_
      refine lv_iload_n hx hb dX0_isWellFrom_55 rfl (lv_at hl 0 rfl) ?_
      refine lv_iload_n hx hb dX0_isWellFrom_56 rfl (lv_at hl 1 rfl) ?_
      refine lv_aload_n hx hb dX0_isWellFrom_57 rfl (lv_at hl 2 rfl) ?_
      refine va_get (D := D) (ci := 0) (v := .int x2.2.2) (C := RX0) (T := TX0) (N := 9) hx hb hts iX0 hown hK hP 2 rfl rfl 8 (by decide) f47 (fun _ h9 => h9) rfl dX0_isWellFrom_58 ?_
      refine lv_isub hx hb dX0_isWellFrom_61 ?_
      obtain ⟨x62, hC, hM⟩ := bd_s hM
      refine cR_i (va_runV (As := [.int ((1022 : Int32) &&& (x2.1 ^^^ (-1 : Int32))), .int ((rd cA.2.2.1 p1) - x2.2.1), .int ((rd cA.1 p1) - x2.2.2)]) (rest := []) ⟨hx, hb, hml, hown, hts⟩ (kX2_make (l := l) (D := D) (cI := cI) (cJ := cJ) N a (su := su) (p1 := ((1022 : Int32) &&& (x2.1 ^^^ (-1 : Int32)))) (p2 := ((rd cA.2.2.1 p1) - x2.2.1)) (p3 := ((rd cA.1 p1) - x2.2.2)) hC H.size) (cwV 3 hts gX0_isWellFrom_X2_make rfl rfl rfl (by decide +kernel) ⟨Nat.le_of_ble_eq_true rfl, Nat.le_of_ble_eq_true rfl⟩) (preV [.int ((1022 : Int32) &&& (x2.1 ^^^ (-1 : Int32))), .int ((rd cA.2.2.1 p1) - x2.2.1), .int ((rd cA.1 p1) - x2.2.2)] hN hK (hP.sub (ws' := (pw a cI cJ su)) [10, 11] rfl) (hD.sub (ws' := (pw a cI cJ su)) [10, 11] (by decide) rfl) (ci := 2) (q0 := 0) rfl rfl) rfl rfl hl.1 rfl (lv_room (Nat.le_of_ble_eq_true rfl)) dX0_isWellFrom_62 ⟨Nat.le_of_ble_eq_true rfl, Nat.le_of_ble_eq_true rfl⟩) hP hS (fun r u H locs hw hP hS => ?_)
      obtain ⟨hw, hz62⟩ := hw
      rw [hw] at hz62
      rw [hw]
      refine lv_if_eq (tgt := 72) hx hb dX0_isWellFrom_65 (by decide) (fun hcc => ?_) (fun hcc => ?_)
      · replace hM := it_p hcc hM
        refine lv_iconst (v := 0) hx hb dX0_isWellFrom_72 (by decide) ?_
        obtain rfl := Option.some.inj hM
        subst hQ hAe
        exact W.zret (ty := .boolean) (v := (0 : Int32)) hx hb hr (nb_z (Or.inl rfl)) (fun t ht hW => ⟨⟨(0 : Int32), (x2, jD), rfl, ⟨rfl, Or.inl rfl⟩, ⟨by rw [ht]; exact hP, hD⟩⟩, hS.F ht⟩) hS.2.2 dX0_isWellFrom_73
      · replace hM := it_n hcc hM
        refine lv_iconst (v := 1) hx hb dX0_isWellFrom_68 (by decide) ?_
        refine lv_goto (tgt := 73) hx hb dX0_isWellFrom_69 (by decide) ?_
        obtain rfl := Option.some.inj hM
        subst hQ hAe
        exact W.zret (ty := .boolean) (v := (1 : Int32)) hx hb hr (nb_z (Or.inr rfl)) (fun t ht hW => ⟨⟨(1 : Int32), (x2, jD), rfl, ⟨rfl, Or.inr rfl⟩, ⟨by rw [ht]; exact hP, hD⟩⟩, hS.F ht⟩) hS.2.2 dX0_isWellFrom_73
  · replace hM := it_n hcc hM
    refine lv_iconst (v := 0) hx hb dX0_isWellFrom_12 (by decide) ?_
    obtain rfl := Option.some.inj hM
    subst hQ hAe
    exact W.zret (ty := .boolean) (v := (0 : Int32)) hx hb hr (nb_z (Or.inl rfl)) (fun t ht hW => ⟨⟨(0 : Int32), (x2, jD), rfl, ⟨rfl, Or.inl rfl⟩, ⟨by rw [ht]; exact hP, hD⟩⟩, hS.F ht⟩) hS.2.2 dX0_isWellFrom_13
set_option maxHeartbeats 4000000 in
set_option maxRecDepth 100000 in
theorem kX0_isWellFrom_D {l : Launch} {D : va_G} {cI cJ : ClassId} (N : Nat) (a : Nat → Nat) {st : RowI} {co : Int32} {ro : Int32} {cA : CS} {cD : CS} {su : RowJ} {jA : JT} {jD : JT} {p1 : Int32} {o : Int32} (hM : mX0_isWellFrom N st cD su p1 = some o) (sz : Nat) : Met l yX0_isWellFrom wsX0_isWellFrom rmX0_isWellFrom (va_Pc [.ref (a 3), .int p1] (Pre D cI cJ (fw a cI cJ st co ro cA cD su jA jD) sz)) (va_Qi (fun (r : Int32) (_ : JT × JT) => r = o ∧ bz r) (aft D (fw a cI cJ st co ro cA cD su jA jD) sz (fun (u : JT × JT) => (fw a cI cJ st co ro cA cD su u.1 u.2))) (va_A (fw a cI cJ st co ro cA cD su jA jD) sz)) 0 0 (va_A (fw a cI cJ st co ro cA cD su jA jD) sz) := by
  refine xofW (cc := cX0_isWellFrom) (maxL := 4) (ret := (some .boolean)) rfl (by decide) rfl ?_
  intro p e s m args below meth c ls Q A hQ hAe hx hb hr hml hown hts hlocks hnm hN hK H locs hP hD hS hA hl
  replace hown : s.vm.findClass RX0 = some m.cls := hown
  replace hl : lv_has ls 4 [(0, .ref (a 3)), (1, .int p1)] := hl
  have iX0 : ∀ w ∈ wsX00, w ∈ wsX0_isWellFrom := by decide +kernel
  have f15 := hts (.fieldLink RX0 15 "CryptSums$Corridors" "partitions" "LCryptSums$Partitions;") (by decide +kernel)
  have f19 := hts (.fieldLink RX0 19 "CryptSums$Corridors" "told" "[I") (by decide +kernel)
  have f25 := hts (.fieldLink RX0 25 "CryptSums$Corridors" "size" "[I") (by decide +kernel)
  have f44 := hts (.fieldLink RX0 44 "CryptSums$Corridors" "seenStones" "I") (by decide +kernel)
  have f47 := hts (.fieldLink RX0 47 "CryptSums$Corridors" "seenTotal" "I") (by decide +kernel)
  have f58 := hts (.fieldLink RX0 58 "CryptSums$Corridors" "seenNumbers" "I") (by decide +kernel)
  rw [mX0_isWellFrom] at hM
  refine lv_aload_n hx hb dX0_isWellFrom_0 rfl (lv_at hl 0 rfl) ?_
  refine lv_iload_n hx hb dX0_isWellFrom_1 rfl (lv_at hl 1 rfl) ?_
  obtain ⟨x2, hC, hM⟩ := bd_s hM
  refine cW_v [0, 1, 2, 3, 4, 5, 6, 7, 8, 9, 10, 11] [] (va_runV (As := [.int p1]) (rest := []) ⟨hx, hb, hml, hown, hts⟩ (kX0_look_D (l := l) (D := D) (cI := cI) (cJ := cJ) N a (st := st) (co := co) (ro := ro) (cA := cA) (cD := cD) (su := su) (jA := jA) (jD := jD) (p1 := p1) hC H.size) (cwV 1 hts gX0_isWellFrom_X0_look rfl rfl rfl (by decide +kernel) ⟨Nat.le_of_ble_eq_true rfl, Nat.le_of_ble_eq_true rfl⟩) (preV [.int p1] hN hK hP hD (ci := 0) (q0 := 3) rfl rfl) rfl rfl hl.1 rfl (lv_room (Nat.le_of_ble_eq_true rfl)) dX0_isWellFrom_2 ⟨Nat.le_of_ble_eq_true rfl, Nat.le_of_ble_eq_true rfl⟩) hP hD hS hA rfl (wr := []) rfl (by decide) (by decide) (fun u2 H locs hw hP hD hS => ?_)
  replace hP : va_P D vwCl (fw a cI cJ st co ro cA cD su jA x2) H := hP
  replace hD : va_D A (fw a cI cJ st co ro cA cD su jA x2) := hD
  refine lv_aload_n hx hb dX0_isWellFrom_5 rfl (lv_at hl 0 rfl) ?_
  obtain ⟨x6, hC, hM⟩ := bd_s hM
  refine cR_i (va_runV (As := []) (rest := []) ⟨hx, hb, hml, hown, hts⟩ (kX0_sawAlike_D (l := l) (D := D) (cI := cI) (cJ := cJ) N a (st := st) (co := co) (ro := ro) (cA := cA) (cD := cD) (su := su) (jA := jA) (jD := x2) hC H.size) (cwV 0 hts gX0_isWellFrom_X0_sawAlike rfl rfl rfl (by decide +kernel) ⟨Nat.le_of_ble_eq_true rfl, Nat.le_of_ble_eq_true rfl⟩) (preV [] hN hK hP hD (ci := 0) (q0 := 3) rfl rfl) rfl rfl hl.1 rfl (lv_room (Nat.le_of_ble_eq_true rfl)) dX0_isWellFrom_6 ⟨Nat.le_of_ble_eq_true rfl, Nat.le_of_ble_eq_true rfl⟩) hP hS (fun r u H locs hw hP hS => ?_)
  obtain ⟨hw, hz6⟩ := hw
  rw [hw] at hz6
  rw [hw]
  refine lv_if_eq (tgt := 14) hx hb dX0_isWellFrom_9 (by decide) (fun hcc => ?_) (fun hcc => ?_)
  · replace hM := it_p hcc hM
    refine lv_aload_n hx hb dX0_isWellFrom_14 rfl (lv_at hl 0 rfl) ?_
    refine va_get (D := D) (ci := 0) (v := .ref (a 7)) (C := RX0) (T := TX0) (N := 9) hx hb hts iX0 hown hK hP 3 rfl rfl 2 (by decide) f19 (fun _ h9 => h9) rfl dX0_isWellFrom_15 ?_
    refine lv_iload_n hx hb dX0_isWellFrom_18 rfl (lv_at hl 1 rfl) ?_
    refine cR_i (va_runSN (As := [.ref (a 7), .int p1]) (rest := []) ⟨hx, hb, hml, hown, hts⟩ (kX4_read (D := D) (cI := cI) (cJ := cJ) (a 7) cD.1 p1 H.size) ⟨va_cnB 2 hts gX0_isWellFrom_X4_read_n36 rfl rfl rfl (hN (.methodLinkNest RX0 36 yX4_read "CryptSums") (by decide +kernel)) (hts (.initialized RX4) (by decide +kernel)) (by decide +kernel) ⟨Nat.le_of_ble_eq_true rfl, Nat.le_of_ble_eq_true rfl⟩, hts (.static yX4_read) (by decide +kernel), trivial⟩ (preS [.ref (a 7), .int p1] hN hK (hP.sub (ws' := [((a 7), .inl (cI, 36, .inl cD.1))]) [7] rfl) (hD.sub (ws' := [((a 7), .inl (cI, 36, .inl cD.1))]) [7] (by decide) rfl)) rfl rfl hl.1 rfl (lv_room (Nat.le_of_ble_eq_true rfl)) dX0_isWellFrom_19 ⟨Nat.le_of_ble_eq_true rfl, Nat.le_of_ble_eq_true rfl⟩) hP hS (fun r u H locs hw hP hS => ?_)
    rw [hw]
    refine lv_istore_n (lv' := [(2, .int (rd cD.1 p1)), (0, .ref (a 3)), (1, .int p1)]) hx hb dX0_isWellFrom_22 rfl hl (by decide) rfl (fun ls hl => ?_)
    refine lv_aload_n hx hb dX0_isWellFrom_23 rfl (lv_at hl 1 rfl) ?_
    refine va_get (D := D) (ci := 0) (v := .ref (a 9)) (C := RX0) (T := TX0) (N := 9) hx hb hts iX0 hown hK hP 3 rfl rfl 4 (by decide) f25 (fun _ h9 => h9) rfl dX0_isWellFrom_24 ?_
    refine lv_iload_n hx hb dX0_isWellFrom_27 rfl (lv_at hl 2 rfl) ?_
    refine cR_i (va_runSN (As := [.ref (a 9), .int p1]) (rest := []) ⟨hx, hb, hml, hown, hts⟩ (kX4_read (D := D) (cI := cI) (cJ := cJ) (a 9) cD.2.2.1 p1 H.size) ⟨va_cnB 2 hts gX0_isWellFrom_X4_read_n36 rfl rfl rfl (hN (.methodLinkNest RX0 36 yX4_read "CryptSums") (by decide +kernel)) (hts (.initialized RX4) (by decide +kernel)) (by decide +kernel) ⟨Nat.le_of_ble_eq_true rfl, Nat.le_of_ble_eq_true rfl⟩, hts (.static yX4_read) (by decide +kernel), trivial⟩ (preS [.ref (a 9), .int p1] hN hK (hP.sub (ws' := [((a 9), .inl (cI, 36, .inl cD.2.2.1))]) [9] rfl) (hD.sub (ws' := [((a 9), .inl (cI, 36, .inl cD.2.2.1))]) [9] (by decide) rfl)) rfl rfl hl.1 rfl (lv_room (Nat.le_of_ble_eq_true rfl)) dX0_isWellFrom_28 ⟨Nat.le_of_ble_eq_true rfl, Nat.le_of_ble_eq_true rfl⟩) hP hS (fun r u H locs hw hP hS => ?_)
    rw [hw]
    refine lv_aload_n hx hb dX0_isWellFrom_31 rfl (lv_at hl 1 rfl) ?_
    refine va_get (D := D) (ci := 0) (v := .int x2.2.1) (C := RX0) (T := TX0) (N := 9) hx hb hts iX0 hown hK hP 3 rfl rfl 7 (by decide) f44 (fun _ h9 => h9) rfl dX0_isWellFrom_32 ?_
    refine lv_isub hx hb dX0_isWellFrom_35 ?_
    refine lv_istore_n (lv' := [(3, .int ((rd cD.2.2.1 p1) - x2.2.1)), (2, .int (rd cD.1 p1)), (0, .ref (a 3)), (1, .int p1)]) hx hb dX0_isWellFrom_36 rfl hl (by decide) rfl (fun ls hl => ?_)
    refine lv_iload_n hx hb dX0_isWellFrom_37 rfl (lv_at hl 1 rfl) ?_
    refine lv_if_eq (tgt := 68) hx hb dX0_isWellFrom_38 (by decide) (fun hcc => ?_) (fun hcc => ?_)
    · replace hM := it_p hcc hM
      refine lv_iconst (v := 1) hx hb dX0_isWellFrom_68 (by decide) ?_
      refine lv_goto (tgt := 73) hx hb dX0_isWellFrom_69 (by decide) ?_
      obtain rfl := Option.some.inj hM
      subst hQ hAe
      exact W.zret (ty := .boolean) (v := (1 : Int32)) hx hb hr (nb_z (Or.inr rfl)) (fun t ht hW => ⟨⟨(1 : Int32), (jA, x2), rfl, ⟨rfl, Or.inr rfl⟩, ⟨by rw [ht]; exact hP, hD⟩⟩, hS.F ht⟩) hS.2.2 dX0_isWellFrom_73
    · replace hM := it_n hcc hM
      refine lv_aload_n hx hb dX0_isWellFrom_41 rfl (lv_at hl 2 rfl) ?_
      refine va_get (D := D) (ci := 0) (v := .ref (a 10)) (C := RX0) (T := TX0) (N := 9) hx hb hts iX0 hown hK hP 3 rfl rfl 1 (by decide) f15 (fun _ h9 => h9) rfl dX0_isWellFrom_42 ?_
      refine lv_sipush (v := 1022) hx hb dX0_isWellFrom_45 (by decide) ?_
      refine lv_aload_n hx hb dX0_isWellFrom_48 rfl (lv_at hl 2 rfl) ?_
      refine va_get (D := D) (ci := 0) (v := .int x2.1) (C := RX0) (T := TX0) (N := 9) hx hb hts iX0 hown hK hP 3 rfl rfl 6 (by decide) f58 (fun _ h9 => h9) rfl dX0_isWellFrom_49 ?_
      refine lv_iconst (v := -1) hx hb dX0_isWellFrom_52 (by decide) ?_
      refine lv_ixor hx hb dX0_isWellFrom_53 ?_
      refine lv_iand hx hb dX0_isWellFrom_54 ?_
      refine lv_iload_n hx hb dX0_isWellFrom_55 rfl (lv_at hl 0 rfl) ?_
      refine lv_iload_n hx hb dX0_isWellFrom_56 rfl (lv_at hl 1 rfl) ?_
      refine lv_aload_n hx hb dX0_isWellFrom_57 rfl (lv_at hl 2 rfl) ?_
      refine va_get (D := D) (ci := 0) (v := .int x2.2.2) (C := RX0) (T := TX0) (N := 9) hx hb hts iX0 hown hK hP 3 rfl rfl 8 (by decide) f47 (fun _ h9 => h9) rfl dX0_isWellFrom_58 ?_
      refine lv_isub hx hb dX0_isWellFrom_61 ?_
      obtain ⟨x62, hC, hM⟩ := bd_s hM
      refine cR_i (va_runV (As := [.int ((1022 : Int32) &&& (x2.1 ^^^ (-1 : Int32))), .int ((rd cD.2.2.1 p1) - x2.2.1), .int ((rd cD.1 p1) - x2.2.2)]) (rest := []) ⟨hx, hb, hml, hown, hts⟩ (kX2_make (l := l) (D := D) (cI := cI) (cJ := cJ) N a (su := su) (p1 := ((1022 : Int32) &&& (x2.1 ^^^ (-1 : Int32)))) (p2 := ((rd cD.2.2.1 p1) - x2.2.1)) (p3 := ((rd cD.1 p1) - x2.2.2)) hC H.size) (cwV 3 hts gX0_isWellFrom_X2_make rfl rfl rfl (by decide +kernel) ⟨Nat.le_of_ble_eq_true rfl, Nat.le_of_ble_eq_true rfl⟩) (preV [.int ((1022 : Int32) &&& (x2.1 ^^^ (-1 : Int32))), .int ((rd cD.2.2.1 p1) - x2.2.1), .int ((rd cD.1 p1) - x2.2.2)] hN hK (hP.sub (ws' := (pw a cI cJ su)) [10, 11] rfl) (hD.sub (ws' := (pw a cI cJ su)) [10, 11] (by decide) rfl) (ci := 2) (q0 := 0) rfl rfl) rfl rfl hl.1 rfl (lv_room (Nat.le_of_ble_eq_true rfl)) dX0_isWellFrom_62 ⟨Nat.le_of_ble_eq_true rfl, Nat.le_of_ble_eq_true rfl⟩) hP hS (fun r u H locs hw hP hS => ?_)
      obtain ⟨hw, hz62⟩ := hw
      rw [hw] at hz62
      rw [hw]
      refine lv_if_eq (tgt := 72) hx hb dX0_isWellFrom_65 (by decide) (fun hcc => ?_) (fun hcc => ?_)
      · replace hM := it_p hcc hM
        refine lv_iconst (v := 0) hx hb dX0_isWellFrom_72 (by decide) ?_
        obtain rfl := Option.some.inj hM
        subst hQ hAe
        exact W.zret (ty := .boolean) (v := (0 : Int32)) hx hb hr (nb_z (Or.inl rfl)) (fun t ht hW => ⟨⟨(0 : Int32), (jA, x2), rfl, ⟨rfl, Or.inl rfl⟩, ⟨by rw [ht]; exact hP, hD⟩⟩, hS.F ht⟩) hS.2.2 dX0_isWellFrom_73
      · replace hM := it_n hcc hM
        refine lv_iconst (v := 1) hx hb dX0_isWellFrom_68 (by decide) ?_
        refine lv_goto (tgt := 73) hx hb dX0_isWellFrom_69 (by decide) ?_
        obtain rfl := Option.some.inj hM
        subst hQ hAe
        exact W.zret (ty := .boolean) (v := (1 : Int32)) hx hb hr (nb_z (Or.inr rfl)) (fun t ht hW => ⟨⟨(1 : Int32), (jA, x2), rfl, ⟨rfl, Or.inr rfl⟩, ⟨by rw [ht]; exact hP, hD⟩⟩, hS.F ht⟩) hS.2.2 dX0_isWellFrom_73
  · replace hM := it_n hcc hM
    refine lv_iconst (v := 0) hx hb dX0_isWellFrom_12 (by decide) ?_
    obtain rfl := Option.some.inj hM
    subst hQ hAe
    exact W.zret (ty := .boolean) (v := (0 : Int32)) hx hb hr (nb_z (Or.inl rfl)) (fun t ht hW => ⟨⟨(0 : Int32), (jA, x2), rfl, ⟨rfl, Or.inl rfl⟩, ⟨by rw [ht]; exact hP, hD⟩⟩, hS.F ht⟩) hS.2.2 dX0_isWellFrom_13
def mX0_tell (N : Nat) (st : RowI) (cA : CS) (su : RowJ) (p1 : Int32) (p2 : Int32) : Option Int32 :=
  (if (rd cA.2.1 p1) = (-1 : Int32) then
  some (-1 : Int32)
  else
  ((mX0_look N st cA (rd cA.2.1 p1)).bind fun x18 =>
  (if p2 = 0 then
  some (rd cA.2.1 p1)
  else (if p2 = 1 then
  some (rd cA.2.2.1 (rd cA.2.1 p1))
  else (if p2 = 2 then
  some (rd cA.1 (rd cA.2.1 p1))
  else (if p2 = 3 then
  some x18.2.1
  else (if p2 = 4 then
  some x18.2.2
  else ((mX0_isWellFrom N st cA su (rd cA.2.1 p1)).bind fun x88 =>
  (if x88 = 0 then
  some (0 : Int32)
  else
  some (1 : Int32))))))))))
abbrev rmX0_tell : Room := { frames := 3, cells := 0, slots := 0, locals := 68 }
set_option maxHeartbeats 4000000 in
set_option maxRecDepth 100000 in
theorem kX0_tell_A {l : Launch} {D : va_G} {cI cJ : ClassId} (N : Nat) (a : Nat → Nat) {st : RowI} {co : Int32} {ro : Int32} {cA : CS} {cD : CS} {su : RowJ} {jA : JT} {jD : JT} {p1 : Int32} {p2 : Int32} {o : Int32} (hM : mX0_tell N st cA su p1 p2 = some o) (sz : Nat) : Met l yX0_tell wsX0_tell rmX0_tell (va_Pc [.ref (a 2), .int p1, .int p2] (Pre D cI cJ (fw a cI cJ st co ro cA cD su jA jD) sz)) (va_Qi (fun (r : Int32) (_ : JT × JT) => r = o) (aft D (fw a cI cJ st co ro cA cD su jA jD) sz (fun (u : JT × JT) => (fw a cI cJ st co ro cA cD su u.1 u.2))) (va_A (fw a cI cJ st co ro cA cD su jA jD) sz)) 0 0 (va_A (fw a cI cJ st co ro cA cD su jA jD) sz) := by
  refine xofW (cc := cX0_tell) (maxL := 4) (ret := (some .int)) rfl (by decide) rfl ?_
  intro p e s m args below meth c ls Q A hQ hAe hx hb hr hml hown hts hlocks hnm hN hK H locs hP hD hS hA hl
  replace hown : s.vm.findClass RX0 = some m.cls := hown
  replace hl : lv_has ls 4 [(0, .ref (a 2)), (1, .int p1), (2, .int p2)] := hl
  have iX0 : ∀ w ∈ wsX00, w ∈ wsX0_tell := by decide +kernel
  have f19 := hts (.fieldLink RX0 19 "CryptSums$Corridors" "told" "[I") (by decide +kernel)
  have f22 := hts (.fieldLink RX0 22 "CryptSums$Corridors" "first" "[I") (by decide +kernel)
  have f25 := hts (.fieldLink RX0 25 "CryptSums$Corridors" "size" "[I") (by decide +kernel)
  have f44 := hts (.fieldLink RX0 44 "CryptSums$Corridors" "seenStones" "I") (by decide +kernel)
  have f47 := hts (.fieldLink RX0 47 "CryptSums$Corridors" "seenTotal" "I") (by decide +kernel)
  rw [mX0_tell] at hM
  refine lv_aload_n hx hb dX0_tell_0 rfl (lv_at hl 0 rfl) ?_
  refine va_get (D := D) (ci := 0) (v := .ref (a 5)) (C := RX0) (T := TX0) (N := 9) hx hb hts iX0 hown hK hP 2 rfl rfl 3 (by decide) f22 (fun _ h9 => h9) rfl dX0_tell_1 ?_
  refine lv_iload_n hx hb dX0_tell_4 rfl (lv_at hl 1 rfl) ?_
  refine cR_i (va_runSN (As := [.ref (a 5), .int p1]) (rest := []) ⟨hx, hb, hml, hown, hts⟩ (kX4_read (D := D) (cI := cI) (cJ := cJ) (a 5) cA.2.1 p1 H.size) ⟨va_cnB 2 hts gX0_tell_X4_read_n36 rfl rfl rfl (hN (.methodLinkNest RX0 36 yX4_read "CryptSums") (by decide +kernel)) (hts (.initialized RX4) (by decide +kernel)) (by decide +kernel) ⟨Nat.le_of_ble_eq_true rfl, Nat.le_of_ble_eq_true rfl⟩, hts (.static yX4_read) (by decide +kernel), trivial⟩ (preS [.ref (a 5), .int p1] hN hK (hP.sub (ws' := [((a 5), .inl (cI, 36, .inl cA.2.1))]) [5] rfl) (hD.sub (ws' := [((a 5), .inl (cI, 36, .inl cA.2.1))]) [5] (by decide) rfl)) rfl rfl hl.1 rfl (lv_room (Nat.le_of_ble_eq_true rfl)) dX0_tell_5 ⟨Nat.le_of_ble_eq_true rfl, Nat.le_of_ble_eq_true rfl⟩) hP hS (fun r u H locs hw hP hS => ?_)
  rw [hw]
  refine lv_istore_n (lv' := [(3, .int (rd cA.2.1 p1)), (0, .ref (a 2)), (1, .int p1), (2, .int p2)]) hx hb dX0_tell_8 rfl hl (by decide) rfl (fun ls hl => ?_)
  refine lv_iload_n hx hb dX0_tell_9 rfl (lv_at hl 0 rfl) ?_
  refine lv_iconst (v := -1) hx hb dX0_tell_10 (by decide) ?_
  refine lv_icmp_ne (tgt := 16) hx hb dX0_tell_11 (by decide) (fun hcc => ?_) (fun hcc => ?_)
  · replace hM := it_n hcc hM
    refine lv_aload_n hx hb dX0_tell_16 rfl (lv_at hl 1 rfl) ?_
    refine lv_iload_n hx hb dX0_tell_17 rfl (lv_at hl 0 rfl) ?_
    obtain ⟨x18, hC, hM⟩ := bd_s hM
    refine cW_v [0, 1, 2, 3, 4, 5, 6, 7, 8, 9, 10, 11] [] (va_runV (As := [.int (rd cA.2.1 p1)]) (rest := []) ⟨hx, hb, hml, hown, hts⟩ (kX0_look_A (l := l) (D := D) (cI := cI) (cJ := cJ) N a (st := st) (co := co) (ro := ro) (cA := cA) (cD := cD) (su := su) (jA := jA) (jD := jD) (p1 := (rd cA.2.1 p1)) hC H.size) (cwV 1 hts gX0_tell_X0_look rfl rfl rfl (by decide +kernel) ⟨Nat.le_of_ble_eq_true rfl, Nat.le_of_ble_eq_true rfl⟩) (preV [.int (rd cA.2.1 p1)] hN hK hP hD (ci := 0) (q0 := 2) rfl rfl) rfl rfl hl.1 rfl (lv_room (Nat.le_of_ble_eq_true rfl)) dX0_tell_18 ⟨Nat.le_of_ble_eq_true rfl, Nat.le_of_ble_eq_true rfl⟩) hP hD hS hA rfl (wr := []) rfl (by decide) (by decide) (fun u18 H locs hw hP hD hS => ?_)
    replace hP : va_P D vwCl (fw a cI cJ st co ro cA cD su x18 jD) H := hP
    replace hD : va_D A (fw a cI cJ st co ro cA cD su x18 jD) := hD
    refine lv_iload_n hx hb dX0_tell_21 rfl (lv_at hl 3 rfl) ?_
    by_cases hs0 : p2 = 0
    · replace hM := it_p hs0 hM
      refine lv_tableIn (tgt := 56) hx hb dX0_tell_22 (by rw [hs0]; decide) (by rw [hs0]; decide) (by rw [hs0]; rfl) (by decide) ?_
      refine lv_iload_n hx hb dX0_tell_56 rfl (lv_at hl 0 rfl) ?_
      obtain rfl := Option.some.inj hM
      subst hQ hAe
      exact W.iret (v := (rd cA.2.1 p1)) hx hb hr (fun t ht hW => ⟨⟨(rd cA.2.1 p1), (x18, jD), rfl, rfl, ⟨by rw [ht]; exact hP, hD⟩⟩, hS.F ht⟩) hS.2.2 dX0_tell_57
    replace hM := it_n hs0 hM
    by_cases hs1 : p2 = 1
    · replace hM := it_p hs1 hM
      refine lv_tableIn (tgt := 58) hx hb dX0_tell_22 (by rw [hs1]; decide) (by rw [hs1]; decide) (by rw [hs1]; rfl) (by decide) ?_
      refine lv_aload_n hx hb dX0_tell_58 rfl (lv_at hl 1 rfl) ?_
      refine va_get (D := D) (ci := 0) (v := .ref (a 6)) (C := RX0) (T := TX0) (N := 9) hx hb hts iX0 hown hK hP 2 rfl rfl 4 (by decide) f25 (fun _ h9 => h9) rfl dX0_tell_59 ?_
      refine lv_iload_n hx hb dX0_tell_62 rfl (lv_at hl 0 rfl) ?_
      refine cR_i (va_runSN (As := [.ref (a 6), .int (rd cA.2.1 p1)]) (rest := []) ⟨hx, hb, hml, hown, hts⟩ (kX4_read (D := D) (cI := cI) (cJ := cJ) (a 6) cA.2.2.1 (rd cA.2.1 p1) H.size) ⟨va_cnB 2 hts gX0_tell_X4_read_n36 rfl rfl rfl (hN (.methodLinkNest RX0 36 yX4_read "CryptSums") (by decide +kernel)) (hts (.initialized RX4) (by decide +kernel)) (by decide +kernel) ⟨Nat.le_of_ble_eq_true rfl, Nat.le_of_ble_eq_true rfl⟩, hts (.static yX4_read) (by decide +kernel), trivial⟩ (preS [.ref (a 6), .int (rd cA.2.1 p1)] hN hK (hP.sub (ws' := [((a 6), .inl (cI, 36, .inl cA.2.2.1))]) [6] rfl) (hD.sub (ws' := [((a 6), .inl (cI, 36, .inl cA.2.2.1))]) [6] (by decide) rfl)) rfl rfl hl.1 rfl (lv_room (Nat.le_of_ble_eq_true rfl)) dX0_tell_63 ⟨Nat.le_of_ble_eq_true rfl, Nat.le_of_ble_eq_true rfl⟩) hP hS (fun r u H locs hw hP hS => ?_)
      rw [hw]
      obtain rfl := Option.some.inj hM
      subst hQ hAe
      exact W.iret (v := (rd cA.2.2.1 (rd cA.2.1 p1))) hx hb hr (fun t ht hW => ⟨⟨(rd cA.2.2.1 (rd cA.2.1 p1)), (x18, jD), rfl, rfl, ⟨by rw [ht]; exact hP, hD⟩⟩, hS.F ht⟩) hS.2.2 dX0_tell_66
    replace hM := it_n hs1 hM
    by_cases hs2 : p2 = 2
    · replace hM := it_p hs2 hM
      refine lv_tableIn (tgt := 67) hx hb dX0_tell_22 (by rw [hs2]; decide) (by rw [hs2]; decide) (by rw [hs2]; rfl) (by decide) ?_
      refine lv_aload_n hx hb dX0_tell_67 rfl (lv_at hl 1 rfl) ?_
      refine va_get (D := D) (ci := 0) (v := .ref (a 4)) (C := RX0) (T := TX0) (N := 9) hx hb hts iX0 hown hK hP 2 rfl rfl 2 (by decide) f19 (fun _ h9 => h9) rfl dX0_tell_68 ?_
      refine lv_iload_n hx hb dX0_tell_71 rfl (lv_at hl 0 rfl) ?_
      refine cR_i (va_runSN (As := [.ref (a 4), .int (rd cA.2.1 p1)]) (rest := []) ⟨hx, hb, hml, hown, hts⟩ (kX4_read (D := D) (cI := cI) (cJ := cJ) (a 4) cA.1 (rd cA.2.1 p1) H.size) ⟨va_cnB 2 hts gX0_tell_X4_read_n36 rfl rfl rfl (hN (.methodLinkNest RX0 36 yX4_read "CryptSums") (by decide +kernel)) (hts (.initialized RX4) (by decide +kernel)) (by decide +kernel) ⟨Nat.le_of_ble_eq_true rfl, Nat.le_of_ble_eq_true rfl⟩, hts (.static yX4_read) (by decide +kernel), trivial⟩ (preS [.ref (a 4), .int (rd cA.2.1 p1)] hN hK (hP.sub (ws' := [((a 4), .inl (cI, 36, .inl cA.1))]) [4] rfl) (hD.sub (ws' := [((a 4), .inl (cI, 36, .inl cA.1))]) [4] (by decide) rfl)) rfl rfl hl.1 rfl (lv_room (Nat.le_of_ble_eq_true rfl)) dX0_tell_72 ⟨Nat.le_of_ble_eq_true rfl, Nat.le_of_ble_eq_true rfl⟩) hP hS (fun r u H locs hw hP hS => ?_)
      rw [hw]
      obtain rfl := Option.some.inj hM
      subst hQ hAe
      exact W.iret (v := (rd cA.1 (rd cA.2.1 p1))) hx hb hr (fun t ht hW => ⟨⟨(rd cA.1 (rd cA.2.1 p1)), (x18, jD), rfl, rfl, ⟨by rw [ht]; exact hP, hD⟩⟩, hS.F ht⟩) hS.2.2 dX0_tell_75
    replace hM := it_n hs2 hM
    by_cases hs3 : p2 = 3
    · replace hM := it_p hs3 hM
      refine lv_tableIn (tgt := 76) hx hb dX0_tell_22 (by rw [hs3]; decide) (by rw [hs3]; decide) (by rw [hs3]; rfl) (by decide) ?_
      refine lv_aload_n hx hb dX0_tell_76 rfl (lv_at hl 1 rfl) ?_
      refine va_get (D := D) (ci := 0) (v := .int x18.2.1) (C := RX0) (T := TX0) (N := 9) hx hb hts iX0 hown hK hP 2 rfl rfl 7 (by decide) f44 (fun _ h9 => h9) rfl dX0_tell_77 ?_
      obtain rfl := Option.some.inj hM
      subst hQ hAe
      exact W.iret (v := x18.2.1) hx hb hr (fun t ht hW => ⟨⟨x18.2.1, (x18, jD), rfl, rfl, ⟨by rw [ht]; exact hP, hD⟩⟩, hS.F ht⟩) hS.2.2 dX0_tell_80
    replace hM := it_n hs3 hM
    by_cases hs4 : p2 = 4
    · replace hM := it_p hs4 hM
      refine lv_tableIn (tgt := 81) hx hb dX0_tell_22 (by rw [hs4]; decide) (by rw [hs4]; decide) (by rw [hs4]; rfl) (by decide) ?_
      refine lv_aload_n hx hb dX0_tell_81 rfl (lv_at hl 1 rfl) ?_
      refine va_get (D := D) (ci := 0) (v := .int x18.2.2) (C := RX0) (T := TX0) (N := 9) hx hb hts iX0 hown hK hP 2 rfl rfl 8 (by decide) f47 (fun _ h9 => h9) rfl dX0_tell_82 ?_
      obtain rfl := Option.some.inj hM
      subst hQ hAe
      exact W.iret (v := x18.2.2) hx hb hr (fun t ht hW => ⟨⟨x18.2.2, (x18, jD), rfl, rfl, ⟨by rw [ht]; exact hP, hD⟩⟩, hS.F ht⟩) hS.2.2 dX0_tell_85
    replace hM := it_n hs4 hM
    have ho : ∀ k : Nat, k ≤ 4 → ¬ p2 = Int32.ofNat k := by
      intro k hk
      have hk2 : k = 0 ∨ k = 1 ∨ k = 2 ∨ k = 3 ∨ k = 4 := by omega
      rcases hk2 with rfl | rfl | rfl | rfl | rfl
      · exact hs0
      · exact hs1
      · exact hs2
      · exact hs3
      · exact hs4
    refine lv_tableOut (tgt := 86) hx hb dX0_tell_22 (sw_out 4 ho) (by decide) ?_
    refine lv_aload_n hx hb dX0_tell_86 rfl (lv_at hl 1 rfl) ?_
    refine lv_iload_n hx hb dX0_tell_87 rfl (lv_at hl 0 rfl) ?_
    obtain ⟨x88, hC, hM⟩ := bd_s hM
    refine cW_i [0, 1, 2, 3, 4, 5, 6, 7, 8, 9, 10, 11] [] (va_runV (As := [.int (rd cA.2.1 p1)]) (rest := []) ⟨hx, hb, hml, hown, hts⟩ (kX0_isWellFrom_A (l := l) (D := D) (cI := cI) (cJ := cJ) N a (st := st) (co := co) (ro := ro) (cA := cA) (cD := cD) (su := su) (jA := x18) (jD := jD) (p1 := (rd cA.2.1 p1)) hC H.size) (cwV 1 hts gX0_tell_X0_isWellFrom rfl rfl rfl (by decide +kernel) ⟨Nat.le_of_ble_eq_true rfl, Nat.le_of_ble_eq_true rfl⟩) (preV [.int (rd cA.2.1 p1)] hN hK hP hD (ci := 0) (q0 := 2) rfl rfl) rfl rfl hl.1 rfl (lv_room (Nat.le_of_ble_eq_true rfl)) dX0_tell_88 ⟨Nat.le_of_ble_eq_true rfl, Nat.le_of_ble_eq_true rfl⟩) hP hD hS hA rfl (wr := []) rfl (by decide) (by decide) (fun r u88 H locs hw hP hD hS => ?_)
    replace hP : va_P D vwCl (fw a cI cJ st co ro cA cD su u88.1 u88.2) H := hP
    replace hD : va_D A (fw a cI cJ st co ro cA cD su u88.1 u88.2) := hD
    obtain ⟨hw, hz88⟩ := hw
    rw [hw] at hz88
    rw [hw]
    refine lv_if_eq (tgt := 98) hx hb dX0_tell_91 (by decide) (fun hcc => ?_) (fun hcc => ?_)
    · replace hM := it_p hcc hM
      refine lv_iconst (v := 0) hx hb dX0_tell_98 (by decide) ?_
      obtain rfl := Option.some.inj hM
      subst hQ hAe
      exact W.iret (v := (0 : Int32)) hx hb hr (fun t ht hW => ⟨⟨(0 : Int32), (u88.1, u88.2), rfl, rfl, ⟨by rw [ht]; exact hP, hD⟩⟩, hS.F ht⟩) hS.2.2 dX0_tell_99
    · replace hM := it_n hcc hM
      refine lv_iconst (v := 1) hx hb dX0_tell_94 (by decide) ?_
      refine lv_goto (tgt := 99) hx hb dX0_tell_95 (by decide) ?_
      obtain rfl := Option.some.inj hM
      subst hQ hAe
      exact W.iret (v := (1 : Int32)) hx hb hr (fun t ht hW => ⟨⟨(1 : Int32), (u88.1, u88.2), rfl, rfl, ⟨by rw [ht]; exact hP, hD⟩⟩, hS.F ht⟩) hS.2.2 dX0_tell_99
  · replace hM := it_p hcc hM
    refine lv_iconst (v := -1) hx hb dX0_tell_14 (by decide) ?_
    obtain rfl := Option.some.inj hM
    subst hQ hAe
    exact W.iret (v := (-1 : Int32)) hx hb hr (fun t ht hW => ⟨⟨(-1 : Int32), (jA, jD), rfl, rfl, ⟨by rw [ht]; exact hP, hD⟩⟩, hS.F ht⟩) hS.2.2 dX0_tell_15
set_option maxHeartbeats 4000000 in
set_option maxRecDepth 100000 in
theorem kX0_tell_D {l : Launch} {D : va_G} {cI cJ : ClassId} (N : Nat) (a : Nat → Nat) {st : RowI} {co : Int32} {ro : Int32} {cA : CS} {cD : CS} {su : RowJ} {jA : JT} {jD : JT} {p1 : Int32} {p2 : Int32} {o : Int32} (hM : mX0_tell N st cD su p1 p2 = some o) (sz : Nat) : Met l yX0_tell wsX0_tell rmX0_tell (va_Pc [.ref (a 3), .int p1, .int p2] (Pre D cI cJ (fw a cI cJ st co ro cA cD su jA jD) sz)) (va_Qi (fun (r : Int32) (_ : JT × JT) => r = o) (aft D (fw a cI cJ st co ro cA cD su jA jD) sz (fun (u : JT × JT) => (fw a cI cJ st co ro cA cD su u.1 u.2))) (va_A (fw a cI cJ st co ro cA cD su jA jD) sz)) 0 0 (va_A (fw a cI cJ st co ro cA cD su jA jD) sz) := by
  refine xofW (cc := cX0_tell) (maxL := 4) (ret := (some .int)) rfl (by decide) rfl ?_
  intro p e s m args below meth c ls Q A hQ hAe hx hb hr hml hown hts hlocks hnm hN hK H locs hP hD hS hA hl
  replace hown : s.vm.findClass RX0 = some m.cls := hown
  replace hl : lv_has ls 4 [(0, .ref (a 3)), (1, .int p1), (2, .int p2)] := hl
  have iX0 : ∀ w ∈ wsX00, w ∈ wsX0_tell := by decide +kernel
  have f19 := hts (.fieldLink RX0 19 "CryptSums$Corridors" "told" "[I") (by decide +kernel)
  have f22 := hts (.fieldLink RX0 22 "CryptSums$Corridors" "first" "[I") (by decide +kernel)
  have f25 := hts (.fieldLink RX0 25 "CryptSums$Corridors" "size" "[I") (by decide +kernel)
  have f44 := hts (.fieldLink RX0 44 "CryptSums$Corridors" "seenStones" "I") (by decide +kernel)
  have f47 := hts (.fieldLink RX0 47 "CryptSums$Corridors" "seenTotal" "I") (by decide +kernel)
  rw [mX0_tell] at hM
  refine lv_aload_n hx hb dX0_tell_0 rfl (lv_at hl 0 rfl) ?_
  refine va_get (D := D) (ci := 0) (v := .ref (a 8)) (C := RX0) (T := TX0) (N := 9) hx hb hts iX0 hown hK hP 3 rfl rfl 3 (by decide) f22 (fun _ h9 => h9) rfl dX0_tell_1 ?_
  refine lv_iload_n hx hb dX0_tell_4 rfl (lv_at hl 1 rfl) ?_
  refine cR_i (va_runSN (As := [.ref (a 8), .int p1]) (rest := []) ⟨hx, hb, hml, hown, hts⟩ (kX4_read (D := D) (cI := cI) (cJ := cJ) (a 8) cD.2.1 p1 H.size) ⟨va_cnB 2 hts gX0_tell_X4_read_n36 rfl rfl rfl (hN (.methodLinkNest RX0 36 yX4_read "CryptSums") (by decide +kernel)) (hts (.initialized RX4) (by decide +kernel)) (by decide +kernel) ⟨Nat.le_of_ble_eq_true rfl, Nat.le_of_ble_eq_true rfl⟩, hts (.static yX4_read) (by decide +kernel), trivial⟩ (preS [.ref (a 8), .int p1] hN hK (hP.sub (ws' := [((a 8), .inl (cI, 36, .inl cD.2.1))]) [8] rfl) (hD.sub (ws' := [((a 8), .inl (cI, 36, .inl cD.2.1))]) [8] (by decide) rfl)) rfl rfl hl.1 rfl (lv_room (Nat.le_of_ble_eq_true rfl)) dX0_tell_5 ⟨Nat.le_of_ble_eq_true rfl, Nat.le_of_ble_eq_true rfl⟩) hP hS (fun r u H locs hw hP hS => ?_)
  rw [hw]
  refine lv_istore_n (lv' := [(3, .int (rd cD.2.1 p1)), (0, .ref (a 3)), (1, .int p1), (2, .int p2)]) hx hb dX0_tell_8 rfl hl (by decide) rfl (fun ls hl => ?_)
  refine lv_iload_n hx hb dX0_tell_9 rfl (lv_at hl 0 rfl) ?_
  refine lv_iconst (v := -1) hx hb dX0_tell_10 (by decide) ?_
  refine lv_icmp_ne (tgt := 16) hx hb dX0_tell_11 (by decide) (fun hcc => ?_) (fun hcc => ?_)
  · replace hM := it_n hcc hM
    refine lv_aload_n hx hb dX0_tell_16 rfl (lv_at hl 1 rfl) ?_
    refine lv_iload_n hx hb dX0_tell_17 rfl (lv_at hl 0 rfl) ?_
    obtain ⟨x18, hC, hM⟩ := bd_s hM
    refine cW_v [0, 1, 2, 3, 4, 5, 6, 7, 8, 9, 10, 11] [] (va_runV (As := [.int (rd cD.2.1 p1)]) (rest := []) ⟨hx, hb, hml, hown, hts⟩ (kX0_look_D (l := l) (D := D) (cI := cI) (cJ := cJ) N a (st := st) (co := co) (ro := ro) (cA := cA) (cD := cD) (su := su) (jA := jA) (jD := jD) (p1 := (rd cD.2.1 p1)) hC H.size) (cwV 1 hts gX0_tell_X0_look rfl rfl rfl (by decide +kernel) ⟨Nat.le_of_ble_eq_true rfl, Nat.le_of_ble_eq_true rfl⟩) (preV [.int (rd cD.2.1 p1)] hN hK hP hD (ci := 0) (q0 := 3) rfl rfl) rfl rfl hl.1 rfl (lv_room (Nat.le_of_ble_eq_true rfl)) dX0_tell_18 ⟨Nat.le_of_ble_eq_true rfl, Nat.le_of_ble_eq_true rfl⟩) hP hD hS hA rfl (wr := []) rfl (by decide) (by decide) (fun u18 H locs hw hP hD hS => ?_)
    replace hP : va_P D vwCl (fw a cI cJ st co ro cA cD su jA x18) H := hP
    replace hD : va_D A (fw a cI cJ st co ro cA cD su jA x18) := hD
    refine lv_iload_n hx hb dX0_tell_21 rfl (lv_at hl 3 rfl) ?_
    by_cases hs0 : p2 = 0
    · replace hM := it_p hs0 hM
      refine lv_tableIn (tgt := 56) hx hb dX0_tell_22 (by rw [hs0]; decide) (by rw [hs0]; decide) (by rw [hs0]; rfl) (by decide) ?_
      refine lv_iload_n hx hb dX0_tell_56 rfl (lv_at hl 0 rfl) ?_
      obtain rfl := Option.some.inj hM
      subst hQ hAe
      exact W.iret (v := (rd cD.2.1 p1)) hx hb hr (fun t ht hW => ⟨⟨(rd cD.2.1 p1), (jA, x18), rfl, rfl, ⟨by rw [ht]; exact hP, hD⟩⟩, hS.F ht⟩) hS.2.2 dX0_tell_57
    replace hM := it_n hs0 hM
    by_cases hs1 : p2 = 1
    · replace hM := it_p hs1 hM
      refine lv_tableIn (tgt := 58) hx hb dX0_tell_22 (by rw [hs1]; decide) (by rw [hs1]; decide) (by rw [hs1]; rfl) (by decide) ?_
      refine lv_aload_n hx hb dX0_tell_58 rfl (lv_at hl 1 rfl) ?_
      refine va_get (D := D) (ci := 0) (v := .ref (a 9)) (C := RX0) (T := TX0) (N := 9) hx hb hts iX0 hown hK hP 3 rfl rfl 4 (by decide) f25 (fun _ h9 => h9) rfl dX0_tell_59 ?_
      refine lv_iload_n hx hb dX0_tell_62 rfl (lv_at hl 0 rfl) ?_
      refine cR_i (va_runSN (As := [.ref (a 9), .int (rd cD.2.1 p1)]) (rest := []) ⟨hx, hb, hml, hown, hts⟩ (kX4_read (D := D) (cI := cI) (cJ := cJ) (a 9) cD.2.2.1 (rd cD.2.1 p1) H.size) ⟨va_cnB 2 hts gX0_tell_X4_read_n36 rfl rfl rfl (hN (.methodLinkNest RX0 36 yX4_read "CryptSums") (by decide +kernel)) (hts (.initialized RX4) (by decide +kernel)) (by decide +kernel) ⟨Nat.le_of_ble_eq_true rfl, Nat.le_of_ble_eq_true rfl⟩, hts (.static yX4_read) (by decide +kernel), trivial⟩ (preS [.ref (a 9), .int (rd cD.2.1 p1)] hN hK (hP.sub (ws' := [((a 9), .inl (cI, 36, .inl cD.2.2.1))]) [9] rfl) (hD.sub (ws' := [((a 9), .inl (cI, 36, .inl cD.2.2.1))]) [9] (by decide) rfl)) rfl rfl hl.1 rfl (lv_room (Nat.le_of_ble_eq_true rfl)) dX0_tell_63 ⟨Nat.le_of_ble_eq_true rfl, Nat.le_of_ble_eq_true rfl⟩) hP hS (fun r u H locs hw hP hS => ?_)
      rw [hw]
      obtain rfl := Option.some.inj hM
      subst hQ hAe
      exact W.iret (v := (rd cD.2.2.1 (rd cD.2.1 p1))) hx hb hr (fun t ht hW => ⟨⟨(rd cD.2.2.1 (rd cD.2.1 p1)), (jA, x18), rfl, rfl, ⟨by rw [ht]; exact hP, hD⟩⟩, hS.F ht⟩) hS.2.2 dX0_tell_66
    replace hM := it_n hs1 hM
    by_cases hs2 : p2 = 2
    · replace hM := it_p hs2 hM
      refine lv_tableIn (tgt := 67) hx hb dX0_tell_22 (by rw [hs2]; decide) (by rw [hs2]; decide) (by rw [hs2]; rfl) (by decide) ?_
      refine lv_aload_n hx hb dX0_tell_67 rfl (lv_at hl 1 rfl) ?_
      refine va_get (D := D) (ci := 0) (v := .ref (a 7)) (C := RX0) (T := TX0) (N := 9) hx hb hts iX0 hown hK hP 3 rfl rfl 2 (by decide) f19 (fun _ h9 => h9) rfl dX0_tell_68 ?_
      refine lv_iload_n hx hb dX0_tell_71 rfl (lv_at hl 0 rfl) ?_
      refine cR_i (va_runSN (As := [.ref (a 7), .int (rd cD.2.1 p1)]) (rest := []) ⟨hx, hb, hml, hown, hts⟩ (kX4_read (D := D) (cI := cI) (cJ := cJ) (a 7) cD.1 (rd cD.2.1 p1) H.size) ⟨va_cnB 2 hts gX0_tell_X4_read_n36 rfl rfl rfl (hN (.methodLinkNest RX0 36 yX4_read "CryptSums") (by decide +kernel)) (hts (.initialized RX4) (by decide +kernel)) (by decide +kernel) ⟨Nat.le_of_ble_eq_true rfl, Nat.le_of_ble_eq_true rfl⟩, hts (.static yX4_read) (by decide +kernel), trivial⟩ (preS [.ref (a 7), .int (rd cD.2.1 p1)] hN hK (hP.sub (ws' := [((a 7), .inl (cI, 36, .inl cD.1))]) [7] rfl) (hD.sub (ws' := [((a 7), .inl (cI, 36, .inl cD.1))]) [7] (by decide) rfl)) rfl rfl hl.1 rfl (lv_room (Nat.le_of_ble_eq_true rfl)) dX0_tell_72 ⟨Nat.le_of_ble_eq_true rfl, Nat.le_of_ble_eq_true rfl⟩) hP hS (fun r u H locs hw hP hS => ?_)
      rw [hw]
      obtain rfl := Option.some.inj hM
      subst hQ hAe
      exact W.iret (v := (rd cD.1 (rd cD.2.1 p1))) hx hb hr (fun t ht hW => ⟨⟨(rd cD.1 (rd cD.2.1 p1)), (jA, x18), rfl, rfl, ⟨by rw [ht]; exact hP, hD⟩⟩, hS.F ht⟩) hS.2.2 dX0_tell_75
    replace hM := it_n hs2 hM
    by_cases hs3 : p2 = 3
    · replace hM := it_p hs3 hM
      refine lv_tableIn (tgt := 76) hx hb dX0_tell_22 (by rw [hs3]; decide) (by rw [hs3]; decide) (by rw [hs3]; rfl) (by decide) ?_
      refine lv_aload_n hx hb dX0_tell_76 rfl (lv_at hl 1 rfl) ?_
      refine va_get (D := D) (ci := 0) (v := .int x18.2.1) (C := RX0) (T := TX0) (N := 9) hx hb hts iX0 hown hK hP 3 rfl rfl 7 (by decide) f44 (fun _ h9 => h9) rfl dX0_tell_77 ?_
      obtain rfl := Option.some.inj hM
      subst hQ hAe
      exact W.iret (v := x18.2.1) hx hb hr (fun t ht hW => ⟨⟨x18.2.1, (jA, x18), rfl, rfl, ⟨by rw [ht]; exact hP, hD⟩⟩, hS.F ht⟩) hS.2.2 dX0_tell_80
    replace hM := it_n hs3 hM
    by_cases hs4 : p2 = 4
    · replace hM := it_p hs4 hM
      refine lv_tableIn (tgt := 81) hx hb dX0_tell_22 (by rw [hs4]; decide) (by rw [hs4]; decide) (by rw [hs4]; rfl) (by decide) ?_
      refine lv_aload_n hx hb dX0_tell_81 rfl (lv_at hl 1 rfl) ?_
      refine va_get (D := D) (ci := 0) (v := .int x18.2.2) (C := RX0) (T := TX0) (N := 9) hx hb hts iX0 hown hK hP 3 rfl rfl 8 (by decide) f47 (fun _ h9 => h9) rfl dX0_tell_82 ?_
      obtain rfl := Option.some.inj hM
      subst hQ hAe
      exact W.iret (v := x18.2.2) hx hb hr (fun t ht hW => ⟨⟨x18.2.2, (jA, x18), rfl, rfl, ⟨by rw [ht]; exact hP, hD⟩⟩, hS.F ht⟩) hS.2.2 dX0_tell_85
    replace hM := it_n hs4 hM
    have ho : ∀ k : Nat, k ≤ 4 → ¬ p2 = Int32.ofNat k := by
      intro k hk
      have hk2 : k = 0 ∨ k = 1 ∨ k = 2 ∨ k = 3 ∨ k = 4 := by omega
      rcases hk2 with rfl | rfl | rfl | rfl | rfl
      · exact hs0
      · exact hs1
      · exact hs2
      · exact hs3
      · exact hs4
    refine lv_tableOut (tgt := 86) hx hb dX0_tell_22 (sw_out 4 ho) (by decide) ?_
    refine lv_aload_n hx hb dX0_tell_86 rfl (lv_at hl 1 rfl) ?_
    refine lv_iload_n hx hb dX0_tell_87 rfl (lv_at hl 0 rfl) ?_
    obtain ⟨x88, hC, hM⟩ := bd_s hM
    refine cW_i [0, 1, 2, 3, 4, 5, 6, 7, 8, 9, 10, 11] [] (va_runV (As := [.int (rd cD.2.1 p1)]) (rest := []) ⟨hx, hb, hml, hown, hts⟩ (kX0_isWellFrom_D (l := l) (D := D) (cI := cI) (cJ := cJ) N a (st := st) (co := co) (ro := ro) (cA := cA) (cD := cD) (su := su) (jA := jA) (jD := x18) (p1 := (rd cD.2.1 p1)) hC H.size) (cwV 1 hts gX0_tell_X0_isWellFrom rfl rfl rfl (by decide +kernel) ⟨Nat.le_of_ble_eq_true rfl, Nat.le_of_ble_eq_true rfl⟩) (preV [.int (rd cD.2.1 p1)] hN hK hP hD (ci := 0) (q0 := 3) rfl rfl) rfl rfl hl.1 rfl (lv_room (Nat.le_of_ble_eq_true rfl)) dX0_tell_88 ⟨Nat.le_of_ble_eq_true rfl, Nat.le_of_ble_eq_true rfl⟩) hP hD hS hA rfl (wr := []) rfl (by decide) (by decide) (fun r u88 H locs hw hP hD hS => ?_)
    replace hP : va_P D vwCl (fw a cI cJ st co ro cA cD su u88.1 u88.2) H := hP
    replace hD : va_D A (fw a cI cJ st co ro cA cD su u88.1 u88.2) := hD
    obtain ⟨hw, hz88⟩ := hw
    rw [hw] at hz88
    rw [hw]
    refine lv_if_eq (tgt := 98) hx hb dX0_tell_91 (by decide) (fun hcc => ?_) (fun hcc => ?_)
    · replace hM := it_p hcc hM
      refine lv_iconst (v := 0) hx hb dX0_tell_98 (by decide) ?_
      obtain rfl := Option.some.inj hM
      subst hQ hAe
      exact W.iret (v := (0 : Int32)) hx hb hr (fun t ht hW => ⟨⟨(0 : Int32), (u88.1, u88.2), rfl, rfl, ⟨by rw [ht]; exact hP, hD⟩⟩, hS.F ht⟩) hS.2.2 dX0_tell_99
    · replace hM := it_n hcc hM
      refine lv_iconst (v := 1) hx hb dX0_tell_94 (by decide) ?_
      refine lv_goto (tgt := 99) hx hb dX0_tell_95 (by decide) ?_
      obtain rfl := Option.some.inj hM
      subst hQ hAe
      exact W.iret (v := (1 : Int32)) hx hb hr (fun t ht hW => ⟨⟨(1 : Int32), (u88.1, u88.2), rfl, rfl, ⟨by rw [ht]; exact hP, hD⟩⟩, hS.F ht⟩) hS.2.2 dX0_tell_99
  · replace hM := it_p hcc hM
    refine lv_iconst (v := -1) hx hb dX0_tell_14 (by decide) ?_
    obtain rfl := Option.some.inj hM
    subst hQ hAe
    exact W.iret (v := (-1 : Int32)) hx hb hr (fun t ht hW => ⟨⟨(-1 : Int32), (jA, jD), rfl, rfl, ⟨by rw [ht]; exact hP, hD⟩⟩, hS.F ht⟩) hS.2.2 dX0_tell_15
def mX0_numbersFor_90 (N : Nat) (su : RowJ) : Nat → Int32 → Int32 → Int32 → Int32 → Int32 → Option Int32
  | 0 => fun _ _ _ _ _ => none
  | n + 1 => fun v3 v5 v6 v7 v8 => (if (9 : Int32) < v8 then
  some v7
  else
  (if (v3 &&& ((1 : Int32) <<< (v8 &&& 31))) = 0 then
  (mX0_numbersFor_90 N su n v3 v5 v6 v7 (v8 + 1))
  else
  ((mX2_make N su (v3 &&& (((1 : Int32) <<< (v8 &&& 31)) ^^^ (-1 : Int32))) v5 (v6 - v8)).bind fun x127 =>
  (if x127 = 0 then
  (mX0_numbersFor_90 N su n v3 v5 v6 v7 (v8 + 1))
  else
  (mX0_numbersFor_90 N su n v3 v5 v6 (v7 ||| ((1 : Int32) <<< (v8 &&& 31))) (v8 + 1))))))
def mX0_numbersFor (N : Nat) (st : RowI) (cA : CS) (su : RowJ) (p1 : Int32) : Option Int32 :=
  (if (rd cA.2.1 p1) = (-1 : Int32) then
  some (0 : Int32)
  else
  ((mX0_look N st cA (rd cA.2.1 p1)).bind fun x18 =>
  ((mX0_sawAlike N x18).bind fun x22 =>
  (if x22 = 0 then
  (if (rd cA.1 (rd cA.2.1 p1)) = 0 then
  some ((1022 : Int32) &&& (x18.1 ^^^ (-1 : Int32)))
  else
  (mX0_numbersFor_90 N su N ((1022 : Int32) &&& (x18.1 ^^^ (-1 : Int32))) (((rd cA.2.2.1 (rd cA.2.1 p1)) - x18.2.1) - (1 : Int32)) ((rd cA.1 (rd cA.2.1 p1)) - x18.2.2) (0 : Int32) (1 : Int32)))
  else
  some (0 : Int32)))))
abbrev rmX0_numbersFor : Room := { frames := 2, cells := 0, slots := 0, locals := 45 }
set_option maxHeartbeats 4000000 in
set_option maxRecDepth 100000 in
theorem kX0_numbersFor_A {l : Launch} {D : va_G} {cI cJ : ClassId} (N : Nat) (a : Nat → Nat) {st : RowI} {co : Int32} {ro : Int32} {cA : CS} {cD : CS} {su : RowJ} {jA : JT} {jD : JT} {p1 : Int32} {o : Int32} (hM : mX0_numbersFor N st cA su p1 = some o) (sz : Nat) : Met l yX0_numbersFor wsX0_numbersFor rmX0_numbersFor (va_Pc [.ref (a 2), .int p1] (Pre D cI cJ (fw a cI cJ st co ro cA cD su jA jD) sz)) (va_Qi (fun (r : Int32) (_ : JT × JT) => r = o) (aft D (fw a cI cJ st co ro cA cD su jA jD) sz (fun (u : JT × JT) => (fw a cI cJ st co ro cA cD su u.1 u.2))) (va_A (fw a cI cJ st co ro cA cD su jA jD) sz)) 0 0 (va_A (fw a cI cJ st co ro cA cD su jA jD) sz) := by
  refine xofW (cc := cX0_numbersFor) (maxL := 10) (ret := (some .int)) rfl (by decide) rfl ?_
  intro p e s m args below meth c ls Q A hQ hAe hx hb hr hml hown hts hlocks hnm hN hK H locs hP hD hS hA hl
  replace hown : s.vm.findClass RX0 = some m.cls := hown
  replace hl : lv_has ls 10 [(0, .ref (a 2)), (1, .int p1)] := hl
  have iX0 : ∀ w ∈ wsX00, w ∈ wsX0_numbersFor := by decide +kernel
  have f15 := hts (.fieldLink RX0 15 "CryptSums$Corridors" "partitions" "LCryptSums$Partitions;") (by decide +kernel)
  have f19 := hts (.fieldLink RX0 19 "CryptSums$Corridors" "told" "[I") (by decide +kernel)
  have f22 := hts (.fieldLink RX0 22 "CryptSums$Corridors" "first" "[I") (by decide +kernel)
  have f25 := hts (.fieldLink RX0 25 "CryptSums$Corridors" "size" "[I") (by decide +kernel)
  have f44 := hts (.fieldLink RX0 44 "CryptSums$Corridors" "seenStones" "I") (by decide +kernel)
  have f47 := hts (.fieldLink RX0 47 "CryptSums$Corridors" "seenTotal" "I") (by decide +kernel)
  have f58 := hts (.fieldLink RX0 58 "CryptSums$Corridors" "seenNumbers" "I") (by decide +kernel)
  have c90 : ∀ (n : Nat), ∀ (v3 : Int32) (v5 : Int32) (v6 : Int32) (v7 : Int32) (v8 : Int32), mX0_numbersFor_90 N su n v3 v5 v6 v7 v8 = some o → ∀ (jA' : JT) (H : Heap) (locs : List Loc) (ls : Array Slot), va_P D vwCl (fw a cI cJ st co ro cA cD su jA' jD) H → va_D A (fw a cI cJ st co ro cA cD su jA' jD) → va_S A s.heap H locs → lv_has ls 10 [(0, .ref (a 2)), (3, .int v3), (5, .int v5), (6, .int v6), (7, .int v7), (8, .int v8)] → W p l e rmX0_numbersFor s m args below meth c H locs 0 0 Q (F0 m 90 ls []) := by
    intro n
    induction n with
    | zero =>
      intro v3 v5 v6 v7 v8 hM
      rw [mX0_numbersFor_90] at hM
      cases hM
    | succ n ih =>
      intro v3 v5 v6 v7 v8 hM jA' H locs ls hP hD hS hl
      rw [mX0_numbersFor_90] at hM
      refine lv_iload hx hb dX0_numbersFor_90 (lv_at hl 5 rfl) ?_
      refine lv_bipush (v := 9) hx hb dX0_numbersFor_92 (by decide) ?_
      refine lv_icmp_gt (tgt := 146) hx hb dX0_numbersFor_94 (by decide) (fun hcc => ?_) (fun hcc => ?_)
      · replace hM := it_p hcc hM
        refine lv_iload hx hb dX0_numbersFor_146 (lv_at hl 4 rfl) ?_
        obtain rfl := Option.some.inj hM
        subst hQ hAe
        exact W.iret (v := v7) hx hb hr (fun t ht hW => ⟨⟨v7, (jA', jD), rfl, rfl, ⟨by rw [ht]; exact hP, hD⟩⟩, hS.F ht⟩) hS.2.2 dX0_numbersFor_148
      · replace hM := it_n hcc hM
        refine lv_iconst (v := 1) hx hb dX0_numbersFor_97 (by decide) ?_
        refine lv_iload hx hb dX0_numbersFor_98 (lv_at hl 5 rfl) ?_
        refine lv_ishl hx hb dX0_numbersFor_100 ?_
        refine lv_istore (lv' := [(9, .int ((1 : Int32) <<< (v8 &&& 31))), (0, .ref (a 2)), (3, .int v3), (5, .int v5), (6, .int v6), (7, .int v7), (8, .int v8)]) hx hb dX0_numbersFor_101 hl (by decide) rfl (fun ls hl => ?_)
        refine lv_iload_n hx hb dX0_numbersFor_103 rfl (lv_at hl 2 rfl) ?_
        refine lv_iload hx hb dX0_numbersFor_104 (lv_at hl 0 rfl) ?_
        refine lv_iand hx hb dX0_numbersFor_106 ?_
        refine lv_if_eq (tgt := 140) hx hb dX0_numbersFor_107 (by decide) (fun hcc => ?_) (fun hcc => ?_)
        · replace hM := it_p hcc hM
          refine lv_iinc (v := (v8 + 1)) (lv' := [(8, .int (v8 + 1)), (9, .int ((1 : Int32) <<< (v8 &&& 31))), (0, .ref (a 2)), (3, .int v3), (5, .int v5), (6, .int v6), (7, .int v7)]) hx hb dX0_numbersFor_140 hl (k := 6) rfl (by rfl) (by decide) rfl (fun ls hl => ?_)
          refine lv_goto (tgt := 90) hx hb dX0_numbersFor_143 (by decide) ?_
          exact ih v3 v5 v6 v7 (v8 + 1) hM jA' H locs ls hP hD hS (lv_sub hl [2, 3, 4, 5, 6, 0] rfl)
        · replace hM := it_n hcc hM
          refine lv_aload_n hx hb dX0_numbersFor_110 rfl (lv_at hl 1 rfl) ?_
          refine va_get (D := D) (ci := 0) (v := .ref (a 10)) (C := RX0) (T := TX0) (N := 9) hx hb hts iX0 hown hK hP 2 rfl rfl 1 (by decide) f15 (fun _ h9 => h9) rfl dX0_numbersFor_111 ?_
          refine lv_iload_n hx hb dX0_numbersFor_114 rfl (lv_at hl 2 rfl) ?_
          refine lv_iload hx hb dX0_numbersFor_115 (lv_at hl 0 rfl) ?_
          refine lv_iconst (v := -1) hx hb dX0_numbersFor_117 (by decide) ?_
          refine lv_ixor hx hb dX0_numbersFor_118 ?_
          refine lv_iand hx hb dX0_numbersFor_119 ?_
          refine lv_iload hx hb dX0_numbersFor_120 (lv_at hl 3 rfl) ?_
          refine lv_iload hx hb dX0_numbersFor_122 (lv_at hl 4 rfl) ?_
          refine lv_iload hx hb dX0_numbersFor_124 (lv_at hl 6 rfl) ?_
          refine lv_isub hx hb dX0_numbersFor_126 ?_
          obtain ⟨x127, hC, hM⟩ := bd_s hM
          refine cR_i (va_runV (As := [.int (v3 &&& (((1 : Int32) <<< (v8 &&& 31)) ^^^ (-1 : Int32))), .int v5, .int (v6 - v8)]) (rest := []) ⟨hx, hb, hml, hown, hts⟩ (kX2_make (l := l) (D := D) (cI := cI) (cJ := cJ) N a (su := su) (p1 := (v3 &&& (((1 : Int32) <<< (v8 &&& 31)) ^^^ (-1 : Int32)))) (p2 := v5) (p3 := (v6 - v8)) hC H.size) (cwV 3 hts gX0_numbersFor_X2_make rfl rfl rfl (by decide +kernel) ⟨Nat.le_of_ble_eq_true rfl, Nat.le_of_ble_eq_true rfl⟩) (preV [.int (v3 &&& (((1 : Int32) <<< (v8 &&& 31)) ^^^ (-1 : Int32))), .int v5, .int (v6 - v8)] hN hK (hP.sub (ws' := (pw a cI cJ su)) [10, 11] rfl) (hD.sub (ws' := (pw a cI cJ su)) [10, 11] (by decide) rfl) (ci := 2) (q0 := 0) rfl rfl) rfl rfl hl.1 rfl (lv_room (Nat.le_of_ble_eq_true rfl)) dX0_numbersFor_127 ⟨Nat.le_of_ble_eq_true rfl, Nat.le_of_ble_eq_true rfl⟩) hP hS (fun r u H locs hw hP hS => ?_)
          obtain ⟨hw, hz127⟩ := hw
          rw [hw] at hz127
          rw [hw]
          refine lv_if_eq (tgt := 140) hx hb dX0_numbersFor_130 (by decide) (fun hcc => ?_) (fun hcc => ?_)
          · replace hM := it_p hcc hM
            refine lv_iinc (v := (v8 + 1)) (lv' := [(8, .int (v8 + 1)), (9, .int ((1 : Int32) <<< (v8 &&& 31))), (0, .ref (a 2)), (3, .int v3), (5, .int v5), (6, .int v6), (7, .int v7)]) hx hb dX0_numbersFor_140 hl (k := 6) rfl (by rfl) (by decide) rfl (fun ls hl => ?_)
            refine lv_goto (tgt := 90) hx hb dX0_numbersFor_143 (by decide) ?_
            exact ih v3 v5 v6 v7 (v8 + 1) hM jA' H locs ls hP hD hS (lv_sub hl [2, 3, 4, 5, 6, 0] rfl)
          · replace hM := it_n hcc hM
            refine lv_iload hx hb dX0_numbersFor_133 (lv_at hl 5 rfl) ?_
            refine lv_iload hx hb dX0_numbersFor_135 (lv_at hl 0 rfl) ?_
            refine lv_ior hx hb dX0_numbersFor_137 ?_
            refine lv_istore (lv' := [(7, .int (v7 ||| ((1 : Int32) <<< (v8 &&& 31)))), (9, .int ((1 : Int32) <<< (v8 &&& 31))), (0, .ref (a 2)), (3, .int v3), (5, .int v5), (6, .int v6), (8, .int v8)]) hx hb dX0_numbersFor_138 hl (by decide) rfl (fun ls hl => ?_)
            refine lv_iinc (v := (v8 + 1)) (lv' := [(8, .int (v8 + 1)), (7, .int (v7 ||| ((1 : Int32) <<< (v8 &&& 31)))), (9, .int ((1 : Int32) <<< (v8 &&& 31))), (0, .ref (a 2)), (3, .int v3), (5, .int v5), (6, .int v6)]) hx hb dX0_numbersFor_140 hl (k := 6) rfl (by rfl) (by decide) rfl (fun ls hl => ?_)
            refine lv_goto (tgt := 90) hx hb dX0_numbersFor_143 (by decide) ?_
            exact ih v3 v5 v6 (v7 ||| ((1 : Int32) <<< (v8 &&& 31))) (v8 + 1) hM jA' H locs ls hP hD hS (lv_sub hl [3, 4, 5, 6, 1, 0] rfl)
  rw [mX0_numbersFor] at hM
  refine lv_aload_n hx hb dX0_numbersFor_0 rfl (lv_at hl 0 rfl) ?_
  refine va_get (D := D) (ci := 0) (v := .ref (a 5)) (C := RX0) (T := TX0) (N := 9) hx hb hts iX0 hown hK hP 2 rfl rfl 3 (by decide) f22 (fun _ h9 => h9) rfl dX0_numbersFor_1 ?_
  refine lv_iload_n hx hb dX0_numbersFor_4 rfl (lv_at hl 1 rfl) ?_
  refine cR_i (va_runSN (As := [.ref (a 5), .int p1]) (rest := []) ⟨hx, hb, hml, hown, hts⟩ (kX4_read (D := D) (cI := cI) (cJ := cJ) (a 5) cA.2.1 p1 H.size) ⟨va_cnB 2 hts gX0_numbersFor_X4_read_n36 rfl rfl rfl (hN (.methodLinkNest RX0 36 yX4_read "CryptSums") (by decide +kernel)) (hts (.initialized RX4) (by decide +kernel)) (by decide +kernel) ⟨Nat.le_of_ble_eq_true rfl, Nat.le_of_ble_eq_true rfl⟩, hts (.static yX4_read) (by decide +kernel), trivial⟩ (preS [.ref (a 5), .int p1] hN hK (hP.sub (ws' := [((a 5), .inl (cI, 36, .inl cA.2.1))]) [5] rfl) (hD.sub (ws' := [((a 5), .inl (cI, 36, .inl cA.2.1))]) [5] (by decide) rfl)) rfl rfl hl.1 rfl (lv_room (Nat.le_of_ble_eq_true rfl)) dX0_numbersFor_5 ⟨Nat.le_of_ble_eq_true rfl, Nat.le_of_ble_eq_true rfl⟩) hP hS (fun r u H locs hw hP hS => ?_)
  rw [hw]
  refine lv_istore_n (lv' := [(2, .int (rd cA.2.1 p1)), (0, .ref (a 2)), (1, .int p1)]) hx hb dX0_numbersFor_8 rfl hl (by decide) rfl (fun ls hl => ?_)
  refine lv_iload_n hx hb dX0_numbersFor_9 rfl (lv_at hl 0 rfl) ?_
  refine lv_iconst (v := -1) hx hb dX0_numbersFor_10 (by decide) ?_
  refine lv_icmp_ne (tgt := 16) hx hb dX0_numbersFor_11 (by decide) (fun hcc => ?_) (fun hcc => ?_)
  · replace hM := it_n hcc hM
    refine lv_aload_n hx hb dX0_numbersFor_16 rfl (lv_at hl 1 rfl) ?_
    refine lv_iload_n hx hb dX0_numbersFor_17 rfl (lv_at hl 0 rfl) ?_
    obtain ⟨x18, hC, hM⟩ := bd_s hM
    refine cW_v [0, 1, 2, 3, 4, 5, 6, 7, 8, 9, 10, 11] [] (va_runV (As := [.int (rd cA.2.1 p1)]) (rest := []) ⟨hx, hb, hml, hown, hts⟩ (kX0_look_A (l := l) (D := D) (cI := cI) (cJ := cJ) N a (st := st) (co := co) (ro := ro) (cA := cA) (cD := cD) (su := su) (jA := jA) (jD := jD) (p1 := (rd cA.2.1 p1)) hC H.size) (cwV 1 hts gX0_numbersFor_X0_look rfl rfl rfl (by decide +kernel) ⟨Nat.le_of_ble_eq_true rfl, Nat.le_of_ble_eq_true rfl⟩) (preV [.int (rd cA.2.1 p1)] hN hK hP hD (ci := 0) (q0 := 2) rfl rfl) rfl rfl hl.1 rfl (lv_room (Nat.le_of_ble_eq_true rfl)) dX0_numbersFor_18 ⟨Nat.le_of_ble_eq_true rfl, Nat.le_of_ble_eq_true rfl⟩) hP hD hS hA rfl (wr := []) rfl (by decide) (by decide) (fun u18 H locs hw hP hD hS => ?_)
    replace hP : va_P D vwCl (fw a cI cJ st co ro cA cD su x18 jD) H := hP
    replace hD : va_D A (fw a cI cJ st co ro cA cD su x18 jD) := hD
    refine lv_aload_n hx hb dX0_numbersFor_21 rfl (lv_at hl 1 rfl) ?_
    obtain ⟨x22, hC, hM⟩ := bd_s hM
    refine cR_i (va_runV (As := []) (rest := []) ⟨hx, hb, hml, hown, hts⟩ (kX0_sawAlike_A (l := l) (D := D) (cI := cI) (cJ := cJ) N a (st := st) (co := co) (ro := ro) (cA := cA) (cD := cD) (su := su) (jA := x18) (jD := jD) hC H.size) (cwV 0 hts gX0_numbersFor_X0_sawAlike rfl rfl rfl (by decide +kernel) ⟨Nat.le_of_ble_eq_true rfl, Nat.le_of_ble_eq_true rfl⟩) (preV [] hN hK hP hD (ci := 0) (q0 := 2) rfl rfl) rfl rfl hl.1 rfl (lv_room (Nat.le_of_ble_eq_true rfl)) dX0_numbersFor_22 ⟨Nat.le_of_ble_eq_true rfl, Nat.le_of_ble_eq_true rfl⟩) hP hS (fun r u H locs hw hP hS => ?_)
    obtain ⟨hw, hz22⟩ := hw
    rw [hw] at hz22
    rw [hw]
    refine lv_if_eq (tgt := 30) hx hb dX0_numbersFor_25 (by decide) (fun hcc => ?_) (fun hcc => ?_)
    · replace hM := it_p hcc hM
      refine lv_sipush (v := 1022) hx hb dX0_numbersFor_30 (by decide) ?_
      refine lv_aload_n hx hb dX0_numbersFor_33 rfl (lv_at hl 1 rfl) ?_
      refine va_get (D := D) (ci := 0) (v := .int x18.1) (C := RX0) (T := TX0) (N := 9) hx hb hts iX0 hown hK hP 2 rfl rfl 6 (by decide) f58 (fun _ h9 => h9) rfl dX0_numbersFor_34 ?_
      refine lv_iconst (v := -1) hx hb dX0_numbersFor_37 (by decide) ?_
      refine lv_ixor hx hb dX0_numbersFor_38 ?_
      refine lv_iand hx hb dX0_numbersFor_39 ?_
      refine lv_istore_n (lv' := [(3, .int ((1022 : Int32) &&& (x18.1 ^^^ (-1 : Int32)))), (2, .int (rd cA.2.1 p1)), (0, .ref (a 2)), (1, .int p1)]) hx hb dX0_numbersFor_40 rfl hl (by decide) rfl (fun ls hl => ?_)
      refine lv_aload_n hx hb dX0_numbersFor_41 rfl (lv_at hl 2 rfl) ?_
      refine va_get (D := D) (ci := 0) (v := .ref (a 4)) (C := RX0) (T := TX0) (N := 9) hx hb hts iX0 hown hK hP 2 rfl rfl 2 (by decide) f19 (fun _ h9 => h9) rfl dX0_numbersFor_42 ?_
      refine lv_iload_n hx hb dX0_numbersFor_45 rfl (lv_at hl 1 rfl) ?_
      refine cR_i (va_runSN (As := [.ref (a 4), .int (rd cA.2.1 p1)]) (rest := []) ⟨hx, hb, hml, hown, hts⟩ (kX4_read (D := D) (cI := cI) (cJ := cJ) (a 4) cA.1 (rd cA.2.1 p1) H.size) ⟨va_cnB 2 hts gX0_numbersFor_X4_read_n36 rfl rfl rfl (hN (.methodLinkNest RX0 36 yX4_read "CryptSums") (by decide +kernel)) (hts (.initialized RX4) (by decide +kernel)) (by decide +kernel) ⟨Nat.le_of_ble_eq_true rfl, Nat.le_of_ble_eq_true rfl⟩, hts (.static yX4_read) (by decide +kernel), trivial⟩ (preS [.ref (a 4), .int (rd cA.2.1 p1)] hN hK (hP.sub (ws' := [((a 4), .inl (cI, 36, .inl cA.1))]) [4] rfl) (hD.sub (ws' := [((a 4), .inl (cI, 36, .inl cA.1))]) [4] (by decide) rfl)) rfl rfl hl.1 rfl (lv_room (Nat.le_of_ble_eq_true rfl)) dX0_numbersFor_46 ⟨Nat.le_of_ble_eq_true rfl, Nat.le_of_ble_eq_true rfl⟩) hP hS (fun r u H locs hw hP hS => ?_)
      rw [hw]
      refine lv_istore (lv' := [(4, .int (rd cA.1 (rd cA.2.1 p1))), (3, .int ((1022 : Int32) &&& (x18.1 ^^^ (-1 : Int32)))), (2, .int (rd cA.2.1 p1)), (0, .ref (a 2)), (1, .int p1)]) hx hb dX0_numbersFor_49 hl (by decide) rfl (fun ls hl => ?_)
      refine lv_iload hx hb dX0_numbersFor_51 (lv_at hl 0 rfl) ?_
      refine lv_if_ne (tgt := 58) hx hb dX0_numbersFor_53 (by decide) (fun hcc => ?_) (fun hcc => ?_)
      · replace hM := it_n hcc hM
        refine lv_aload_n hx hb dX0_numbersFor_58 rfl (lv_at hl 3 rfl) ?_
        refine va_get (D := D) (ci := 0) (v := .ref (a 6)) (C := RX0) (T := TX0) (N := 9) hx hb hts iX0 hown hK hP 2 rfl rfl 4 (by decide) f25 (fun _ h9 => h9) rfl dX0_numbersFor_59 ?_
        refine lv_iload_n hx hb dX0_numbersFor_62 rfl (lv_at hl 2 rfl) ?_
        refine cR_i (va_runSN (As := [.ref (a 6), .int (rd cA.2.1 p1)]) (rest := []) ⟨hx, hb, hml, hown, hts⟩ (kX4_read (D := D) (cI := cI) (cJ := cJ) (a 6) cA.2.2.1 (rd cA.2.1 p1) H.size) ⟨va_cnB 2 hts gX0_numbersFor_X4_read_n36 rfl rfl rfl (hN (.methodLinkNest RX0 36 yX4_read "CryptSums") (by decide +kernel)) (hts (.initialized RX4) (by decide +kernel)) (by decide +kernel) ⟨Nat.le_of_ble_eq_true rfl, Nat.le_of_ble_eq_true rfl⟩, hts (.static yX4_read) (by decide +kernel), trivial⟩ (preS [.ref (a 6), .int (rd cA.2.1 p1)] hN hK (hP.sub (ws' := [((a 6), .inl (cI, 36, .inl cA.2.2.1))]) [6] rfl) (hD.sub (ws' := [((a 6), .inl (cI, 36, .inl cA.2.2.1))]) [6] (by decide) rfl)) rfl rfl hl.1 rfl (lv_room (Nat.le_of_ble_eq_true rfl)) dX0_numbersFor_63 ⟨Nat.le_of_ble_eq_true rfl, Nat.le_of_ble_eq_true rfl⟩) hP hS (fun r u H locs hw hP hS => ?_)
        rw [hw]
        refine lv_aload_n hx hb dX0_numbersFor_66 rfl (lv_at hl 3 rfl) ?_
        refine va_get (D := D) (ci := 0) (v := .int x18.2.1) (C := RX0) (T := TX0) (N := 9) hx hb hts iX0 hown hK hP 2 rfl rfl 7 (by decide) f44 (fun _ h9 => h9) rfl dX0_numbersFor_67 ?_
        refine lv_isub hx hb dX0_numbersFor_70 ?_
        refine lv_iconst (v := 1) hx hb dX0_numbersFor_71 (by decide) ?_
        refine lv_isub hx hb dX0_numbersFor_72 ?_
        refine lv_istore (lv' := [(5, .int (((rd cA.2.2.1 (rd cA.2.1 p1)) - x18.2.1) - (1 : Int32))), (4, .int (rd cA.1 (rd cA.2.1 p1))), (3, .int ((1022 : Int32) &&& (x18.1 ^^^ (-1 : Int32)))), (2, .int (rd cA.2.1 p1)), (0, .ref (a 2)), (1, .int p1)]) hx hb dX0_numbersFor_73 hl (by decide) rfl (fun ls hl => ?_)
        refine lv_iload hx hb dX0_numbersFor_75 (lv_at hl 1 rfl) ?_
        refine lv_aload_n hx hb dX0_numbersFor_77 rfl (lv_at hl 4 rfl) ?_
        refine va_get (D := D) (ci := 0) (v := .int x18.2.2) (C := RX0) (T := TX0) (N := 9) hx hb hts iX0 hown hK hP 2 rfl rfl 8 (by decide) f47 (fun _ h9 => h9) rfl dX0_numbersFor_78 ?_
        refine lv_isub hx hb dX0_numbersFor_81 ?_
        refine lv_istore (lv' := [(6, .int ((rd cA.1 (rd cA.2.1 p1)) - x18.2.2)), (5, .int (((rd cA.2.2.1 (rd cA.2.1 p1)) - x18.2.1) - (1 : Int32))), (4, .int (rd cA.1 (rd cA.2.1 p1))), (3, .int ((1022 : Int32) &&& (x18.1 ^^^ (-1 : Int32)))), (2, .int (rd cA.2.1 p1)), (0, .ref (a 2)), (1, .int p1)]) hx hb dX0_numbersFor_82 hl (by decide) rfl (fun ls hl => ?_)
        refine lv_iconst (v := 0) hx hb dX0_numbersFor_84 (by decide) ?_
        refine lv_istore (lv' := [(7, .int (0 : Int32)), (6, .int ((rd cA.1 (rd cA.2.1 p1)) - x18.2.2)), (5, .int (((rd cA.2.2.1 (rd cA.2.1 p1)) - x18.2.1) - (1 : Int32))), (4, .int (rd cA.1 (rd cA.2.1 p1))), (3, .int ((1022 : Int32) &&& (x18.1 ^^^ (-1 : Int32)))), (2, .int (rd cA.2.1 p1)), (0, .ref (a 2)), (1, .int p1)]) hx hb dX0_numbersFor_85 hl (by decide) rfl (fun ls hl => ?_)
        refine lv_iconst (v := 1) hx hb dX0_numbersFor_87 (by decide) ?_
        refine lv_istore (lv' := [(8, .int (1 : Int32)), (7, .int (0 : Int32)), (6, .int ((rd cA.1 (rd cA.2.1 p1)) - x18.2.2)), (5, .int (((rd cA.2.2.1 (rd cA.2.1 p1)) - x18.2.1) - (1 : Int32))), (4, .int (rd cA.1 (rd cA.2.1 p1))), (3, .int ((1022 : Int32) &&& (x18.1 ^^^ (-1 : Int32)))), (2, .int (rd cA.2.1 p1)), (0, .ref (a 2)), (1, .int p1)]) hx hb dX0_numbersFor_88 hl (by decide) rfl (fun ls hl => ?_)
        exact c90 N ((1022 : Int32) &&& (x18.1 ^^^ (-1 : Int32))) (((rd cA.2.2.1 (rd cA.2.1 p1)) - x18.2.1) - (1 : Int32)) ((rd cA.1 (rd cA.2.1 p1)) - x18.2.2) (0 : Int32) (1 : Int32) hM x18 H locs ls hP hD hS (lv_sub hl [7, 5, 3, 2, 1, 0] rfl)
      · replace hM := it_p hcc hM
        refine lv_iload_n hx hb dX0_numbersFor_56 rfl (lv_at hl 1 rfl) ?_
        obtain rfl := Option.some.inj hM
        subst hQ hAe
        exact W.iret (v := ((1022 : Int32) &&& (x18.1 ^^^ (-1 : Int32)))) hx hb hr (fun t ht hW => ⟨⟨((1022 : Int32) &&& (x18.1 ^^^ (-1 : Int32))), (x18, jD), rfl, rfl, ⟨by rw [ht]; exact hP, hD⟩⟩, hS.F ht⟩) hS.2.2 dX0_numbersFor_57
    · replace hM := it_n hcc hM
      refine lv_iconst (v := 0) hx hb dX0_numbersFor_28 (by decide) ?_
      obtain rfl := Option.some.inj hM
      subst hQ hAe
      exact W.iret (v := (0 : Int32)) hx hb hr (fun t ht hW => ⟨⟨(0 : Int32), (x18, jD), rfl, rfl, ⟨by rw [ht]; exact hP, hD⟩⟩, hS.F ht⟩) hS.2.2 dX0_numbersFor_29
  · replace hM := it_p hcc hM
    refine lv_iconst (v := 0) hx hb dX0_numbersFor_14 (by decide) ?_
    obtain rfl := Option.some.inj hM
    subst hQ hAe
    exact W.iret (v := (0 : Int32)) hx hb hr (fun t ht hW => ⟨⟨(0 : Int32), (jA, jD), rfl, rfl, ⟨by rw [ht]; exact hP, hD⟩⟩, hS.F ht⟩) hS.2.2 dX0_numbersFor_15
set_option maxHeartbeats 4000000 in
set_option maxRecDepth 100000 in
theorem kX0_numbersFor_D {l : Launch} {D : va_G} {cI cJ : ClassId} (N : Nat) (a : Nat → Nat) {st : RowI} {co : Int32} {ro : Int32} {cA : CS} {cD : CS} {su : RowJ} {jA : JT} {jD : JT} {p1 : Int32} {o : Int32} (hM : mX0_numbersFor N st cD su p1 = some o) (sz : Nat) : Met l yX0_numbersFor wsX0_numbersFor rmX0_numbersFor (va_Pc [.ref (a 3), .int p1] (Pre D cI cJ (fw a cI cJ st co ro cA cD su jA jD) sz)) (va_Qi (fun (r : Int32) (_ : JT × JT) => r = o) (aft D (fw a cI cJ st co ro cA cD su jA jD) sz (fun (u : JT × JT) => (fw a cI cJ st co ro cA cD su u.1 u.2))) (va_A (fw a cI cJ st co ro cA cD su jA jD) sz)) 0 0 (va_A (fw a cI cJ st co ro cA cD su jA jD) sz) := by
  refine xofW (cc := cX0_numbersFor) (maxL := 10) (ret := (some .int)) rfl (by decide) rfl ?_
  intro p e s m args below meth c ls Q A hQ hAe hx hb hr hml hown hts hlocks hnm hN hK H locs hP hD hS hA hl
  replace hown : s.vm.findClass RX0 = some m.cls := hown
  replace hl : lv_has ls 10 [(0, .ref (a 3)), (1, .int p1)] := hl
  have iX0 : ∀ w ∈ wsX00, w ∈ wsX0_numbersFor := by decide +kernel
  have f15 := hts (.fieldLink RX0 15 "CryptSums$Corridors" "partitions" "LCryptSums$Partitions;") (by decide +kernel)
  have f19 := hts (.fieldLink RX0 19 "CryptSums$Corridors" "told" "[I") (by decide +kernel)
  have f22 := hts (.fieldLink RX0 22 "CryptSums$Corridors" "first" "[I") (by decide +kernel)
  have f25 := hts (.fieldLink RX0 25 "CryptSums$Corridors" "size" "[I") (by decide +kernel)
  have f44 := hts (.fieldLink RX0 44 "CryptSums$Corridors" "seenStones" "I") (by decide +kernel)
  have f47 := hts (.fieldLink RX0 47 "CryptSums$Corridors" "seenTotal" "I") (by decide +kernel)
  have f58 := hts (.fieldLink RX0 58 "CryptSums$Corridors" "seenNumbers" "I") (by decide +kernel)
  have c90 : ∀ (n : Nat), ∀ (v3 : Int32) (v5 : Int32) (v6 : Int32) (v7 : Int32) (v8 : Int32), mX0_numbersFor_90 N su n v3 v5 v6 v7 v8 = some o → ∀ (jD' : JT) (H : Heap) (locs : List Loc) (ls : Array Slot), va_P D vwCl (fw a cI cJ st co ro cA cD su jA jD') H → va_D A (fw a cI cJ st co ro cA cD su jA jD') → va_S A s.heap H locs → lv_has ls 10 [(0, .ref (a 3)), (3, .int v3), (5, .int v5), (6, .int v6), (7, .int v7), (8, .int v8)] → W p l e rmX0_numbersFor s m args below meth c H locs 0 0 Q (F0 m 90 ls []) := by
    intro n
    induction n with
    | zero =>
      intro v3 v5 v6 v7 v8 hM
      rw [mX0_numbersFor_90] at hM
      cases hM
    | succ n ih =>
      intro v3 v5 v6 v7 v8 hM jD' H locs ls hP hD hS hl
      rw [mX0_numbersFor_90] at hM
      refine lv_iload hx hb dX0_numbersFor_90 (lv_at hl 5 rfl) ?_
      refine lv_bipush (v := 9) hx hb dX0_numbersFor_92 (by decide) ?_
      refine lv_icmp_gt (tgt := 146) hx hb dX0_numbersFor_94 (by decide) (fun hcc => ?_) (fun hcc => ?_)
      · replace hM := it_p hcc hM
        refine lv_iload hx hb dX0_numbersFor_146 (lv_at hl 4 rfl) ?_
        obtain rfl := Option.some.inj hM
        subst hQ hAe
        exact W.iret (v := v7) hx hb hr (fun t ht hW => ⟨⟨v7, (jA, jD'), rfl, rfl, ⟨by rw [ht]; exact hP, hD⟩⟩, hS.F ht⟩) hS.2.2 dX0_numbersFor_148
      · replace hM := it_n hcc hM
        refine lv_iconst (v := 1) hx hb dX0_numbersFor_97 (by decide) ?_
        refine lv_iload hx hb dX0_numbersFor_98 (lv_at hl 5 rfl) ?_
        refine lv_ishl hx hb dX0_numbersFor_100 ?_
        refine lv_istore (lv' := [(9, .int ((1 : Int32) <<< (v8 &&& 31))), (0, .ref (a 3)), (3, .int v3), (5, .int v5), (6, .int v6), (7, .int v7), (8, .int v8)]) hx hb dX0_numbersFor_101 hl (by decide) rfl (fun ls hl => ?_)
        refine lv_iload_n hx hb dX0_numbersFor_103 rfl (lv_at hl 2 rfl) ?_
        refine lv_iload hx hb dX0_numbersFor_104 (lv_at hl 0 rfl) ?_
        refine lv_iand hx hb dX0_numbersFor_106 ?_
        refine lv_if_eq (tgt := 140) hx hb dX0_numbersFor_107 (by decide) (fun hcc => ?_) (fun hcc => ?_)
        · replace hM := it_p hcc hM
          refine lv_iinc (v := (v8 + 1)) (lv' := [(8, .int (v8 + 1)), (9, .int ((1 : Int32) <<< (v8 &&& 31))), (0, .ref (a 3)), (3, .int v3), (5, .int v5), (6, .int v6), (7, .int v7)]) hx hb dX0_numbersFor_140 hl (k := 6) rfl (by rfl) (by decide) rfl (fun ls hl => ?_)
          refine lv_goto (tgt := 90) hx hb dX0_numbersFor_143 (by decide) ?_
          exact ih v3 v5 v6 v7 (v8 + 1) hM jD' H locs ls hP hD hS (lv_sub hl [2, 3, 4, 5, 6, 0] rfl)
        · replace hM := it_n hcc hM
          refine lv_aload_n hx hb dX0_numbersFor_110 rfl (lv_at hl 1 rfl) ?_
          refine va_get (D := D) (ci := 0) (v := .ref (a 10)) (C := RX0) (T := TX0) (N := 9) hx hb hts iX0 hown hK hP 3 rfl rfl 1 (by decide) f15 (fun _ h9 => h9) rfl dX0_numbersFor_111 ?_
          refine lv_iload_n hx hb dX0_numbersFor_114 rfl (lv_at hl 2 rfl) ?_
          refine lv_iload hx hb dX0_numbersFor_115 (lv_at hl 0 rfl) ?_
          refine lv_iconst (v := -1) hx hb dX0_numbersFor_117 (by decide) ?_
          refine lv_ixor hx hb dX0_numbersFor_118 ?_
          refine lv_iand hx hb dX0_numbersFor_119 ?_
          refine lv_iload hx hb dX0_numbersFor_120 (lv_at hl 3 rfl) ?_
          refine lv_iload hx hb dX0_numbersFor_122 (lv_at hl 4 rfl) ?_
          refine lv_iload hx hb dX0_numbersFor_124 (lv_at hl 6 rfl) ?_
          refine lv_isub hx hb dX0_numbersFor_126 ?_
          obtain ⟨x127, hC, hM⟩ := bd_s hM
          refine cR_i (va_runV (As := [.int (v3 &&& (((1 : Int32) <<< (v8 &&& 31)) ^^^ (-1 : Int32))), .int v5, .int (v6 - v8)]) (rest := []) ⟨hx, hb, hml, hown, hts⟩ (kX2_make (l := l) (D := D) (cI := cI) (cJ := cJ) N a (su := su) (p1 := (v3 &&& (((1 : Int32) <<< (v8 &&& 31)) ^^^ (-1 : Int32)))) (p2 := v5) (p3 := (v6 - v8)) hC H.size) (cwV 3 hts gX0_numbersFor_X2_make rfl rfl rfl (by decide +kernel) ⟨Nat.le_of_ble_eq_true rfl, Nat.le_of_ble_eq_true rfl⟩) (preV [.int (v3 &&& (((1 : Int32) <<< (v8 &&& 31)) ^^^ (-1 : Int32))), .int v5, .int (v6 - v8)] hN hK (hP.sub (ws' := (pw a cI cJ su)) [10, 11] rfl) (hD.sub (ws' := (pw a cI cJ su)) [10, 11] (by decide) rfl) (ci := 2) (q0 := 0) rfl rfl) rfl rfl hl.1 rfl (lv_room (Nat.le_of_ble_eq_true rfl)) dX0_numbersFor_127 ⟨Nat.le_of_ble_eq_true rfl, Nat.le_of_ble_eq_true rfl⟩) hP hS (fun r u H locs hw hP hS => ?_)
          obtain ⟨hw, hz127⟩ := hw
          rw [hw] at hz127
          rw [hw]
          refine lv_if_eq (tgt := 140) hx hb dX0_numbersFor_130 (by decide) (fun hcc => ?_) (fun hcc => ?_)
          · replace hM := it_p hcc hM
            refine lv_iinc (v := (v8 + 1)) (lv' := [(8, .int (v8 + 1)), (9, .int ((1 : Int32) <<< (v8 &&& 31))), (0, .ref (a 3)), (3, .int v3), (5, .int v5), (6, .int v6), (7, .int v7)]) hx hb dX0_numbersFor_140 hl (k := 6) rfl (by rfl) (by decide) rfl (fun ls hl => ?_)
            refine lv_goto (tgt := 90) hx hb dX0_numbersFor_143 (by decide) ?_
            exact ih v3 v5 v6 v7 (v8 + 1) hM jD' H locs ls hP hD hS (lv_sub hl [2, 3, 4, 5, 6, 0] rfl)
          · replace hM := it_n hcc hM
            refine lv_iload hx hb dX0_numbersFor_133 (lv_at hl 5 rfl) ?_
            refine lv_iload hx hb dX0_numbersFor_135 (lv_at hl 0 rfl) ?_
            refine lv_ior hx hb dX0_numbersFor_137 ?_
            refine lv_istore (lv' := [(7, .int (v7 ||| ((1 : Int32) <<< (v8 &&& 31)))), (9, .int ((1 : Int32) <<< (v8 &&& 31))), (0, .ref (a 3)), (3, .int v3), (5, .int v5), (6, .int v6), (8, .int v8)]) hx hb dX0_numbersFor_138 hl (by decide) rfl (fun ls hl => ?_)
            refine lv_iinc (v := (v8 + 1)) (lv' := [(8, .int (v8 + 1)), (7, .int (v7 ||| ((1 : Int32) <<< (v8 &&& 31)))), (9, .int ((1 : Int32) <<< (v8 &&& 31))), (0, .ref (a 3)), (3, .int v3), (5, .int v5), (6, .int v6)]) hx hb dX0_numbersFor_140 hl (k := 6) rfl (by rfl) (by decide) rfl (fun ls hl => ?_)
            refine lv_goto (tgt := 90) hx hb dX0_numbersFor_143 (by decide) ?_
            exact ih v3 v5 v6 (v7 ||| ((1 : Int32) <<< (v8 &&& 31))) (v8 + 1) hM jD' H locs ls hP hD hS (lv_sub hl [3, 4, 5, 6, 1, 0] rfl)
  rw [mX0_numbersFor] at hM
  refine lv_aload_n hx hb dX0_numbersFor_0 rfl (lv_at hl 0 rfl) ?_
  refine va_get (D := D) (ci := 0) (v := .ref (a 8)) (C := RX0) (T := TX0) (N := 9) hx hb hts iX0 hown hK hP 3 rfl rfl 3 (by decide) f22 (fun _ h9 => h9) rfl dX0_numbersFor_1 ?_
  refine lv_iload_n hx hb dX0_numbersFor_4 rfl (lv_at hl 1 rfl) ?_
  refine cR_i (va_runSN (As := [.ref (a 8), .int p1]) (rest := []) ⟨hx, hb, hml, hown, hts⟩ (kX4_read (D := D) (cI := cI) (cJ := cJ) (a 8) cD.2.1 p1 H.size) ⟨va_cnB 2 hts gX0_numbersFor_X4_read_n36 rfl rfl rfl (hN (.methodLinkNest RX0 36 yX4_read "CryptSums") (by decide +kernel)) (hts (.initialized RX4) (by decide +kernel)) (by decide +kernel) ⟨Nat.le_of_ble_eq_true rfl, Nat.le_of_ble_eq_true rfl⟩, hts (.static yX4_read) (by decide +kernel), trivial⟩ (preS [.ref (a 8), .int p1] hN hK (hP.sub (ws' := [((a 8), .inl (cI, 36, .inl cD.2.1))]) [8] rfl) (hD.sub (ws' := [((a 8), .inl (cI, 36, .inl cD.2.1))]) [8] (by decide) rfl)) rfl rfl hl.1 rfl (lv_room (Nat.le_of_ble_eq_true rfl)) dX0_numbersFor_5 ⟨Nat.le_of_ble_eq_true rfl, Nat.le_of_ble_eq_true rfl⟩) hP hS (fun r u H locs hw hP hS => ?_)
  rw [hw]
  refine lv_istore_n (lv' := [(2, .int (rd cD.2.1 p1)), (0, .ref (a 3)), (1, .int p1)]) hx hb dX0_numbersFor_8 rfl hl (by decide) rfl (fun ls hl => ?_)
  refine lv_iload_n hx hb dX0_numbersFor_9 rfl (lv_at hl 0 rfl) ?_
  refine lv_iconst (v := -1) hx hb dX0_numbersFor_10 (by decide) ?_
  refine lv_icmp_ne (tgt := 16) hx hb dX0_numbersFor_11 (by decide) (fun hcc => ?_) (fun hcc => ?_)
  · replace hM := it_n hcc hM
    refine lv_aload_n hx hb dX0_numbersFor_16 rfl (lv_at hl 1 rfl) ?_
    refine lv_iload_n hx hb dX0_numbersFor_17 rfl (lv_at hl 0 rfl) ?_
    obtain ⟨x18, hC, hM⟩ := bd_s hM
    refine cW_v [0, 1, 2, 3, 4, 5, 6, 7, 8, 9, 10, 11] [] (va_runV (As := [.int (rd cD.2.1 p1)]) (rest := []) ⟨hx, hb, hml, hown, hts⟩ (kX0_look_D (l := l) (D := D) (cI := cI) (cJ := cJ) N a (st := st) (co := co) (ro := ro) (cA := cA) (cD := cD) (su := su) (jA := jA) (jD := jD) (p1 := (rd cD.2.1 p1)) hC H.size) (cwV 1 hts gX0_numbersFor_X0_look rfl rfl rfl (by decide +kernel) ⟨Nat.le_of_ble_eq_true rfl, Nat.le_of_ble_eq_true rfl⟩) (preV [.int (rd cD.2.1 p1)] hN hK hP hD (ci := 0) (q0 := 3) rfl rfl) rfl rfl hl.1 rfl (lv_room (Nat.le_of_ble_eq_true rfl)) dX0_numbersFor_18 ⟨Nat.le_of_ble_eq_true rfl, Nat.le_of_ble_eq_true rfl⟩) hP hD hS hA rfl (wr := []) rfl (by decide) (by decide) (fun u18 H locs hw hP hD hS => ?_)
    replace hP : va_P D vwCl (fw a cI cJ st co ro cA cD su jA x18) H := hP
    replace hD : va_D A (fw a cI cJ st co ro cA cD su jA x18) := hD
    refine lv_aload_n hx hb dX0_numbersFor_21 rfl (lv_at hl 1 rfl) ?_
    obtain ⟨x22, hC, hM⟩ := bd_s hM
    refine cR_i (va_runV (As := []) (rest := []) ⟨hx, hb, hml, hown, hts⟩ (kX0_sawAlike_D (l := l) (D := D) (cI := cI) (cJ := cJ) N a (st := st) (co := co) (ro := ro) (cA := cA) (cD := cD) (su := su) (jA := jA) (jD := x18) hC H.size) (cwV 0 hts gX0_numbersFor_X0_sawAlike rfl rfl rfl (by decide +kernel) ⟨Nat.le_of_ble_eq_true rfl, Nat.le_of_ble_eq_true rfl⟩) (preV [] hN hK hP hD (ci := 0) (q0 := 3) rfl rfl) rfl rfl hl.1 rfl (lv_room (Nat.le_of_ble_eq_true rfl)) dX0_numbersFor_22 ⟨Nat.le_of_ble_eq_true rfl, Nat.le_of_ble_eq_true rfl⟩) hP hS (fun r u H locs hw hP hS => ?_)
    obtain ⟨hw, hz22⟩ := hw
    rw [hw] at hz22
    rw [hw]
    refine lv_if_eq (tgt := 30) hx hb dX0_numbersFor_25 (by decide) (fun hcc => ?_) (fun hcc => ?_)
    · replace hM := it_p hcc hM
      refine lv_sipush (v := 1022) hx hb dX0_numbersFor_30 (by decide) ?_
      refine lv_aload_n hx hb dX0_numbersFor_33 rfl (lv_at hl 1 rfl) ?_
      refine va_get (D := D) (ci := 0) (v := .int x18.1) (C := RX0) (T := TX0) (N := 9) hx hb hts iX0 hown hK hP 3 rfl rfl 6 (by decide) f58 (fun _ h9 => h9) rfl dX0_numbersFor_34 ?_
      refine lv_iconst (v := -1) hx hb dX0_numbersFor_37 (by decide) ?_
      refine lv_ixor hx hb dX0_numbersFor_38 ?_
      refine lv_iand hx hb dX0_numbersFor_39 ?_
      refine lv_istore_n (lv' := [(3, .int ((1022 : Int32) &&& (x18.1 ^^^ (-1 : Int32)))), (2, .int (rd cD.2.1 p1)), (0, .ref (a 3)), (1, .int p1)]) hx hb dX0_numbersFor_40 rfl hl (by decide) rfl (fun ls hl => ?_)
      refine lv_aload_n hx hb dX0_numbersFor_41 rfl (lv_at hl 2 rfl) ?_
      refine va_get (D := D) (ci := 0) (v := .ref (a 7)) (C := RX0) (T := TX0) (N := 9) hx hb hts iX0 hown hK hP 3 rfl rfl 2 (by decide) f19 (fun _ h9 => h9) rfl dX0_numbersFor_42 ?_
      refine lv_iload_n hx hb dX0_numbersFor_45 rfl (lv_at hl 1 rfl) ?_
      refine cR_i (va_runSN (As := [.ref (a 7), .int (rd cD.2.1 p1)]) (rest := []) ⟨hx, hb, hml, hown, hts⟩ (kX4_read (D := D) (cI := cI) (cJ := cJ) (a 7) cD.1 (rd cD.2.1 p1) H.size) ⟨va_cnB 2 hts gX0_numbersFor_X4_read_n36 rfl rfl rfl (hN (.methodLinkNest RX0 36 yX4_read "CryptSums") (by decide +kernel)) (hts (.initialized RX4) (by decide +kernel)) (by decide +kernel) ⟨Nat.le_of_ble_eq_true rfl, Nat.le_of_ble_eq_true rfl⟩, hts (.static yX4_read) (by decide +kernel), trivial⟩ (preS [.ref (a 7), .int (rd cD.2.1 p1)] hN hK (hP.sub (ws' := [((a 7), .inl (cI, 36, .inl cD.1))]) [7] rfl) (hD.sub (ws' := [((a 7), .inl (cI, 36, .inl cD.1))]) [7] (by decide) rfl)) rfl rfl hl.1 rfl (lv_room (Nat.le_of_ble_eq_true rfl)) dX0_numbersFor_46 ⟨Nat.le_of_ble_eq_true rfl, Nat.le_of_ble_eq_true rfl⟩) hP hS (fun r u H locs hw hP hS => ?_)
      rw [hw]
      refine lv_istore (lv' := [(4, .int (rd cD.1 (rd cD.2.1 p1))), (3, .int ((1022 : Int32) &&& (x18.1 ^^^ (-1 : Int32)))), (2, .int (rd cD.2.1 p1)), (0, .ref (a 3)), (1, .int p1)]) hx hb dX0_numbersFor_49 hl (by decide) rfl (fun ls hl => ?_)
      refine lv_iload hx hb dX0_numbersFor_51 (lv_at hl 0 rfl) ?_
      refine lv_if_ne (tgt := 58) hx hb dX0_numbersFor_53 (by decide) (fun hcc => ?_) (fun hcc => ?_)
      · replace hM := it_n hcc hM
        refine lv_aload_n hx hb dX0_numbersFor_58 rfl (lv_at hl 3 rfl) ?_
        refine va_get (D := D) (ci := 0) (v := .ref (a 9)) (C := RX0) (T := TX0) (N := 9) hx hb hts iX0 hown hK hP 3 rfl rfl 4 (by decide) f25 (fun _ h9 => h9) rfl dX0_numbersFor_59 ?_
        refine lv_iload_n hx hb dX0_numbersFor_62 rfl (lv_at hl 2 rfl) ?_
        refine cR_i (va_runSN (As := [.ref (a 9), .int (rd cD.2.1 p1)]) (rest := []) ⟨hx, hb, hml, hown, hts⟩ (kX4_read (D := D) (cI := cI) (cJ := cJ) (a 9) cD.2.2.1 (rd cD.2.1 p1) H.size) ⟨va_cnB 2 hts gX0_numbersFor_X4_read_n36 rfl rfl rfl (hN (.methodLinkNest RX0 36 yX4_read "CryptSums") (by decide +kernel)) (hts (.initialized RX4) (by decide +kernel)) (by decide +kernel) ⟨Nat.le_of_ble_eq_true rfl, Nat.le_of_ble_eq_true rfl⟩, hts (.static yX4_read) (by decide +kernel), trivial⟩ (preS [.ref (a 9), .int (rd cD.2.1 p1)] hN hK (hP.sub (ws' := [((a 9), .inl (cI, 36, .inl cD.2.2.1))]) [9] rfl) (hD.sub (ws' := [((a 9), .inl (cI, 36, .inl cD.2.2.1))]) [9] (by decide) rfl)) rfl rfl hl.1 rfl (lv_room (Nat.le_of_ble_eq_true rfl)) dX0_numbersFor_63 ⟨Nat.le_of_ble_eq_true rfl, Nat.le_of_ble_eq_true rfl⟩) hP hS (fun r u H locs hw hP hS => ?_)
        rw [hw]
        refine lv_aload_n hx hb dX0_numbersFor_66 rfl (lv_at hl 3 rfl) ?_
        refine va_get (D := D) (ci := 0) (v := .int x18.2.1) (C := RX0) (T := TX0) (N := 9) hx hb hts iX0 hown hK hP 3 rfl rfl 7 (by decide) f44 (fun _ h9 => h9) rfl dX0_numbersFor_67 ?_
        refine lv_isub hx hb dX0_numbersFor_70 ?_
        refine lv_iconst (v := 1) hx hb dX0_numbersFor_71 (by decide) ?_
        refine lv_isub hx hb dX0_numbersFor_72 ?_
        refine lv_istore (lv' := [(5, .int (((rd cD.2.2.1 (rd cD.2.1 p1)) - x18.2.1) - (1 : Int32))), (4, .int (rd cD.1 (rd cD.2.1 p1))), (3, .int ((1022 : Int32) &&& (x18.1 ^^^ (-1 : Int32)))), (2, .int (rd cD.2.1 p1)), (0, .ref (a 3)), (1, .int p1)]) hx hb dX0_numbersFor_73 hl (by decide) rfl (fun ls hl => ?_)
        refine lv_iload hx hb dX0_numbersFor_75 (lv_at hl 1 rfl) ?_
        refine lv_aload_n hx hb dX0_numbersFor_77 rfl (lv_at hl 4 rfl) ?_
        refine va_get (D := D) (ci := 0) (v := .int x18.2.2) (C := RX0) (T := TX0) (N := 9) hx hb hts iX0 hown hK hP 3 rfl rfl 8 (by decide) f47 (fun _ h9 => h9) rfl dX0_numbersFor_78 ?_
        refine lv_isub hx hb dX0_numbersFor_81 ?_
        refine lv_istore (lv' := [(6, .int ((rd cD.1 (rd cD.2.1 p1)) - x18.2.2)), (5, .int (((rd cD.2.2.1 (rd cD.2.1 p1)) - x18.2.1) - (1 : Int32))), (4, .int (rd cD.1 (rd cD.2.1 p1))), (3, .int ((1022 : Int32) &&& (x18.1 ^^^ (-1 : Int32)))), (2, .int (rd cD.2.1 p1)), (0, .ref (a 3)), (1, .int p1)]) hx hb dX0_numbersFor_82 hl (by decide) rfl (fun ls hl => ?_)
        refine lv_iconst (v := 0) hx hb dX0_numbersFor_84 (by decide) ?_
        refine lv_istore (lv' := [(7, .int (0 : Int32)), (6, .int ((rd cD.1 (rd cD.2.1 p1)) - x18.2.2)), (5, .int (((rd cD.2.2.1 (rd cD.2.1 p1)) - x18.2.1) - (1 : Int32))), (4, .int (rd cD.1 (rd cD.2.1 p1))), (3, .int ((1022 : Int32) &&& (x18.1 ^^^ (-1 : Int32)))), (2, .int (rd cD.2.1 p1)), (0, .ref (a 3)), (1, .int p1)]) hx hb dX0_numbersFor_85 hl (by decide) rfl (fun ls hl => ?_)
        refine lv_iconst (v := 1) hx hb dX0_numbersFor_87 (by decide) ?_
        refine lv_istore (lv' := [(8, .int (1 : Int32)), (7, .int (0 : Int32)), (6, .int ((rd cD.1 (rd cD.2.1 p1)) - x18.2.2)), (5, .int (((rd cD.2.2.1 (rd cD.2.1 p1)) - x18.2.1) - (1 : Int32))), (4, .int (rd cD.1 (rd cD.2.1 p1))), (3, .int ((1022 : Int32) &&& (x18.1 ^^^ (-1 : Int32)))), (2, .int (rd cD.2.1 p1)), (0, .ref (a 3)), (1, .int p1)]) hx hb dX0_numbersFor_88 hl (by decide) rfl (fun ls hl => ?_)
        exact c90 N ((1022 : Int32) &&& (x18.1 ^^^ (-1 : Int32))) (((rd cD.2.2.1 (rd cD.2.1 p1)) - x18.2.1) - (1 : Int32)) ((rd cD.1 (rd cD.2.1 p1)) - x18.2.2) (0 : Int32) (1 : Int32) hM x18 H locs ls hP hD hS (lv_sub hl [7, 5, 3, 2, 1, 0] rfl)
      · replace hM := it_p hcc hM
        refine lv_iload_n hx hb dX0_numbersFor_56 rfl (lv_at hl 1 rfl) ?_
        obtain rfl := Option.some.inj hM
        subst hQ hAe
        exact W.iret (v := ((1022 : Int32) &&& (x18.1 ^^^ (-1 : Int32)))) hx hb hr (fun t ht hW => ⟨⟨((1022 : Int32) &&& (x18.1 ^^^ (-1 : Int32))), (jA, x18), rfl, rfl, ⟨by rw [ht]; exact hP, hD⟩⟩, hS.F ht⟩) hS.2.2 dX0_numbersFor_57
    · replace hM := it_n hcc hM
      refine lv_iconst (v := 0) hx hb dX0_numbersFor_28 (by decide) ?_
      obtain rfl := Option.some.inj hM
      subst hQ hAe
      exact W.iret (v := (0 : Int32)) hx hb hr (fun t ht hW => ⟨⟨(0 : Int32), (jA, x18), rfl, rfl, ⟨by rw [ht]; exact hP, hD⟩⟩, hS.F ht⟩) hS.2.2 dX0_numbersFor_29
  · replace hM := it_p hcc hM
    refine lv_iconst (v := 0) hx hb dX0_numbersFor_14 (by decide) ?_
    obtain rfl := Option.some.inj hM
    subst hQ hAe
    exact W.iret (v := (0 : Int32)) hx hb hr (fun t ht hW => ⟨⟨(0 : Int32), (jA, jD), rfl, rfl, ⟨by rw [ht]; exact hP, hD⟩⟩, hS.F ht⟩) hS.2.2 dX0_numbersFor_15
