def mX2_init_30 (N : Nat) (K22 : Int32 → RowJ → Option RowJ) : Nat → Int32 → Int32 → RowJ → Option RowJ
  | 0 => fun _ _ _ => none
  | n + 1 => fun v1 v2 su' => (if ((1 : Int32) <<< (v1 &&& 31)) ≤ v2 then
  (K22 (v1 + 1) su')
  else
  ((mX2_addHighest N su' v2 v1).bind fun x40 =>
  (mX2_init_30 N K22 n v1 (v2 + 2) x40)))
def mX2_init_22 (N : Nat) : Nat → Int32 → RowJ → Option RowJ
  | 0 => fun _ _ => none
  | n + 1 => fun v1 su' => (if (9 : Int32) < v1 then
  some su'
  else
  (mX2_init_30 N (mX2_init_22 N n) N v1 (0 : Int32) su'))
def mX2_init (N : Nat) (su : RowJ) : Option RowJ :=
  ((mX2_keepSums N su (0 : Int32) (0 : Int32) (1 : Int64)).bind fun x17 =>
  (mX2_init_22 N N (1 : Int32) x17))
abbrev rmX2_init : Room := { frames := 2, cells := 1, slots := 3584, locals := 53 }
set_option maxHeartbeats 4000000 in
set_option maxRecDepth 100000 in
theorem bX2_init {p : Program} {l : Launch} {e : Env} {s : State} {m : MethodId} {args : Array Value} {below : List Frame} {meth : Method} {c : Code} {ls : Array Slot} {Q : State → Prop} {A : Nat → Prop} {H : Heap} {locs : List Loc} {D : va_G} {cI cJ : ClassId} (N : Nat) (a : Nat → Nat) {su : RowJ} {o : RowJ} (hM : mX2_init N su = some o) {Qc : Array Value → State → Outcome → State → Prop} (hQ : Q = MQ below Qc args s 1 3584 A) (hfin : ∀ (t : State) (H : Heap) (locs : List Loc), t.heap = H → va_P D vwCl (pw a cI cJ o) H → va_D A (pw a cI cJ o) → va_S A s.heap H locs → Qc args s (.returned none) t) (hx : p.tables.exec = Jvm.exec) (hb : c.code = cX2_init) (hr : meth.sig.returnType = none) (hml : c.maxLocals = 3) (hown : s.vm.findClass RX2 = some m.cls) (hts : ∀ w ∈ wsX2_init, w.before args s = true) (hlocks : meth.locks = false) (hN : NS s) (hK : va_K D vwCl (tysX cI cJ) s) (hP : va_P D vwCl (pw a cI cJ su) H) (hD : va_D A (pw a cI cJ su)) (hS : va_S A s.heap H locs) (hA : ∀ q : Nat, s.heap.size ≤ q → A q) (hl : lv_has ls 3 [(0, .ref (a 10))]) : W p l e rmX2_init s m args below meth c H locs 1 3584 Q (F0 m 13 ls []) := by
  have c30 : ∀ (K22 : Int32 → RowJ → Option RowJ) (hK22 : ∀ (v1 : Int32) (su' : RowJ), K22 v1 su' = some o → ∀ (H : Heap) (locs : List Loc) (ls : Array Slot), va_P D vwCl (pw a cI cJ su') H → va_D A (pw a cI cJ su') → va_S A s.heap H locs → lv_has ls 3 [(0, .ref (a 10)), (1, .int v1)] → W p l e rmX2_init s m args below meth c H locs 1 3584 Q (F0 m 22 ls [])) (n : Nat), ∀ (v1 : Int32) (v2 : Int32) (su' : RowJ), mX2_init_30 N K22 n v1 v2 su' = some o → ∀ (H : Heap) (locs : List Loc) (ls : Array Slot), va_P D vwCl (pw a cI cJ su') H → va_D A (pw a cI cJ su') → va_S A s.heap H locs → lv_has ls 3 [(0, .ref (a 10)), (1, .int v1), (2, .int v2)] → W p l e rmX2_init s m args below meth c H locs 1 3584 Q (F0 m 30 ls []) := by
    intro K22 hK22 n
    induction n with
    | zero =>
      intro v1 v2 su' hM
      rw [mX2_init_30] at hM
      cases hM
    | succ n ih =>
      intro v1 v2 su' hM H locs ls hP hD hS hl
      rw [mX2_init_30] at hM
      refine lv_iload_n hx hb dX2_init_30 rfl (lv_at hl 2 rfl) ?_
      refine lv_iconst (v := 1) hx hb dX2_init_31 (by decide) ?_
      refine lv_iload_n hx hb dX2_init_32 rfl (lv_at hl 1 rfl) ?_
      refine lv_ishl hx hb dX2_init_33 ?_
      refine lv_icmp_ge (tgt := 49) hx hb dX2_init_34 (by decide) (fun hcc => ?_) (fun hcc => ?_)
      · replace hM := it_p hcc hM
        refine lv_iinc (v := (v1 + 1)) (lv' := [(1, .int (v1 + 1)), (0, .ref (a 10)), (2, .int v2)]) hx hb dX2_init_49 hl (k := 1) rfl (by rfl) (by decide) rfl (fun ls hl => ?_)
        refine lv_goto (tgt := 22) hx hb dX2_init_52 (by decide) ?_
        exact hK22 (v1 + 1) su' hM H locs ls hP hD hS (lv_sub hl [1, 0] rfl)
      · replace hM := it_n hcc hM
        refine lv_aload_n hx hb dX2_init_37 rfl (lv_at hl 0 rfl) ?_
        refine lv_iload_n hx hb dX2_init_38 rfl (lv_at hl 2 rfl) ?_
        refine lv_iload_n hx hb dX2_init_39 rfl (lv_at hl 1 rfl) ?_
        obtain ⟨x40, hC, hM⟩ := bd_s hM
        refine cW_v [0, 1] [] (va_runV (As := [.int v2, .int v1]) (rest := []) ⟨hx, hb, hml, hown, hts⟩ (kX2_addHighest (l := l) (D := D) (cI := cI) (cJ := cJ) N a (su := su') (p1 := v2) (p2 := v1) hC H.size) (cwV 2 hts gX2_init_X2_addHighest rfl rfl rfl (by decide +kernel) ⟨Nat.le_of_ble_eq_true rfl, Nat.le_of_ble_eq_true rfl⟩) (preV [.int v2, .int v1] hN hK hP hD (ci := 2) (q0 := 0) rfl rfl) rfl rfl hl.1 rfl (lv_room (Nat.le_of_ble_eq_true rfl)) dX2_init_40 ⟨Nat.le_of_ble_eq_true rfl, Nat.le_of_ble_eq_true rfl⟩) hP hD hS hA rfl (wr := []) rfl (by decide) (by decide) (fun u40 H locs hw hP hD hS => ?_)
        replace hP : va_P D vwCl (pw a cI cJ x40) H := hP
        replace hD : va_D A (pw a cI cJ x40) := hD
        refine lv_iinc (v := (v2 + 2)) (lv' := [(2, .int (v2 + 2)), (0, .ref (a 10)), (1, .int v1)]) hx hb dX2_init_43 hl (k := 2) rfl (by rfl) (by decide) rfl (fun ls hl => ?_)
        refine lv_goto (tgt := 30) hx hb dX2_init_46 (by decide) ?_
        exact ih v1 (v2 + 2) x40 hM H locs ls hP hD hS (lv_sub hl [1, 2, 0] rfl)
  have c22 : ∀ (n : Nat), ∀ (v1 : Int32) (su' : RowJ), mX2_init_22 N n v1 su' = some o → ∀ (H : Heap) (locs : List Loc) (ls : Array Slot), va_P D vwCl (pw a cI cJ su') H → va_D A (pw a cI cJ su') → va_S A s.heap H locs → lv_has ls 3 [(0, .ref (a 10)), (1, .int v1)] → W p l e rmX2_init s m args below meth c H locs 1 3584 Q (F0 m 22 ls []) := by
    intro n
    induction n with
    | zero =>
      intro v1 su' hM
      rw [mX2_init_22] at hM
      cases hM
    | succ n ih =>
      intro v1 su' hM H locs ls hP hD hS hl
      rw [mX2_init_22] at hM
      refine lv_iload_n hx hb dX2_init_22 rfl (lv_at hl 1 rfl) ?_
      refine lv_bipush (v := 9) hx hb dX2_init_23 (by decide) ?_
      refine lv_icmp_gt (tgt := 55) hx hb dX2_init_25 (by decide) (fun hcc => ?_) (fun hcc => ?_)
      · replace hM := it_p hcc hM
        obtain rfl := Option.some.inj hM
        subst hQ
        exact W.vret hx hb hr (fun t ht hW => hfin t _ _ ht hP hD hS) hS.2.2 dX2_init_55
      · replace hM := it_n hcc hM
        refine lv_iconst (v := 0) hx hb dX2_init_28 (by decide) ?_
        refine lv_istore_n (lv' := [(2, .int (0 : Int32)), (0, .ref (a 10)), (1, .int v1)]) hx hb dX2_init_29 rfl hl (by decide) rfl (fun ls hl => ?_)
        exact c30 (mX2_init_22 N n) ih N v1 (0 : Int32) su' hM H locs ls hP hD hS (lv_sub hl [1, 2, 0] rfl)
  rw [mX2_init] at hM
  refine lv_aload_n hx hb dX2_init_13 rfl (lv_at hl 0 rfl) ?_
  refine lv_iconst (v := 0) hx hb dX2_init_14 (by decide) ?_
  refine lv_iconst (v := 0) hx hb dX2_init_15 (by decide) ?_
  refine lv_lconst (v := 1) hx hb dX2_init_16 (by decide) ?_
  obtain ⟨x17, hC, hM⟩ := bd_s hM
  refine cW_v [0, 1] [] (va_runV (As := [.int (0 : Int32), .int (0 : Int32), .long (1 : Int64)]) (rest := []) ⟨hx, hb, hml, hown, hts⟩ (kX2_keepSums (l := l) (D := D) (cI := cI) (cJ := cJ) N a (su := su) (p1 := (0 : Int32)) (p2 := (0 : Int32)) (p3 := (1 : Int64)) hC H.size) (cwV 3 hts gX2_init_X2_keepSums rfl rfl rfl (by decide +kernel) ⟨Nat.le_of_ble_eq_true rfl, Nat.le_of_ble_eq_true rfl⟩) (preV [.int (0 : Int32), .int (0 : Int32), .long (1 : Int64)] hN hK hP hD (ci := 2) (q0 := 0) rfl rfl) rfl rfl hl.1 rfl (lv_room (Nat.le_of_ble_eq_true rfl)) dX2_init_17 ⟨Nat.le_of_ble_eq_true rfl, Nat.le_of_ble_eq_true rfl⟩) hP hD hS hA rfl (wr := []) rfl (by decide) (by decide) (fun u17 H locs hw hP hD hS => ?_)
  replace hP : va_P D vwCl (pw a cI cJ x17) H := hP
  replace hD : va_D A (pw a cI cJ x17) := hD
  refine lv_iconst (v := 1) hx hb dX2_init_20 (by decide) ?_
  refine lv_istore_n (lv' := [(1, .int (1 : Int32)), (0, .ref (a 10))]) hx hb dX2_init_21 rfl hl (by decide) rfl (fun ls hl => ?_)
  exact c22 N (1 : Int32) x17 hM H locs ls hP hD hS (lv_sub hl [1, 0] rfl)
def mX5_init_84 (N : Nat) (w : Int32) (h : Int32) (ms : RowI) (mb : RowI) (K68 : Int32 → Int32 → RowI → RowI → Option (RowI × RowI × RowI)) : Nat → Int32 → Int32 → Int32 → RowI → RowI → Option (RowI × RowI × RowI)
  | 0 => fun _ _ _ _ _ => none
  | n + 1 => fun v1 v2 v3 me' mf' => (if (1024 : Int32) ≤ v3 then
  (K68 v1 (v2 + 1) me' mf')
  else
  (if (46 : Int32) = 0 then none else
  (if (bc v3) = (v2 / (46 : Int32)) then
  ((mX5_sumOf N v3).bind fun x103 =>
  (if (46 : Int32) = 0 then none else
  (if x103 = (v2 - v2 / (46 : Int32) * (46 : Int32)) then
  (if bad v1 512 then none else
  (mX5_init_84 N w h ms mb K68 n (v1 + 1) v2 (v3 + 2) (upd me' v1.toNatClampNeg v3) mf'))
  else
  (mX5_init_84 N w h ms mb K68 n v1 v2 (v3 + 2) me' mf'))))
  else
  (mX5_init_84 N w h ms mb K68 n v1 v2 (v3 + 2) me' mf'))))
def mX5_init_68 (N : Nat) (w : Int32) (h : Int32) (ms : RowI) (mb : RowI) : Nat → Int32 → Int32 → RowI → RowI → Option (RowI × RowI × RowI)
  | 0 => fun _ _ _ _ => none
  | n + 1 => fun v1 v2 me' mf' => (if (460 : Int32) ≤ v2 then
  (if bad (460 : Int32) 461 then none else
  ((mX5_link N w h ms mb).bind fun x148 =>
  some (x148, me', (upd mf' (460 : Int32).toNatClampNeg v1))))
  else
  (if bad v2 461 then none else
  (mX5_init_84 N w h ms mb (mX5_init_68 N w h ms mb n) N v1 v2 (0 : Int32) me' (upd mf' v2.toNatClampNeg v1))))
def mX5_init (N : Nat) (w : Int32) (h : Int32) (ms : RowI) (mb : RowI) (me : RowI) (mf : RowI) : Option (RowI × RowI × RowI) :=
  (mX5_init_68 N w h ms mb N (0 : Int32) (0 : Int32) me mf)
abbrev rmX5_init : Room := { frames := 1, cells := 6, slots := 1189, locals := 32 }
set_option maxHeartbeats 4000000 in
set_option maxRecDepth 100000 in
theorem bX5_init {p : Program} {l : Launch} {e : Env} {s : State} {m : MethodId} {args : Array Value} {below : List Frame} {meth : Method} {c : Code} {ls : Array Slot} {Q : State → Prop} {A : Nat → Prop} {H : Heap} {locs : List Loc} {D : va_G} {cI cJ : ClassId} (N : Nat) (b : Nat → Nat) {th : Int32} {w : Int32} {h : Int32} {ms : RowI} {mu : RowI} {mb : RowI} {me : RowI} {mf : RowI} {mt : Int32} {mv : Int32} {ml : Int32} {mk : RowI} {o : (RowI × RowI × RowI)} (hM : mX5_init N w h ms mb me mf = some o) {Qc : Array Value → State → Outcome → State → Prop} (hQ : Q = MQ below Qc args s 6 1189 A) (hfin : ∀ (t : State) (H : Heap) (locs : List Loc), t.heap = H → va_P D vwCl (mw b cI th w h ms mu o.1 o.2.1 o.2.2 mt mv ml mk) H → va_D A (mw b cI th w h ms mu o.1 o.2.1 o.2.2 mt mv ml mk) → va_S A s.heap H locs → Qc args s (.returned none) t) (hx : p.tables.exec = Jvm.exec) (hb : c.code = cX5_init) (hr : meth.sig.returnType = none) (hml : c.maxLocals = 4) (hown : s.vm.findClass RX5 = some m.cls) (hts : ∀ w ∈ wsX5_init, w.before args s = true) (hlocks : meth.locks = false) (hN : NS s) (hK : va_K D vwCl (tysX cI cJ) s) (hP : va_P D vwCl (mw b cI th w h ms mu mb me mf mt mv ml mk) H) (hD : va_D A (mw b cI th w h ms mu mb me mf mt mv ml mk)) (hS : va_S A s.heap H locs) (hA : ∀ q : Nat, s.heap.size ≤ q → A q) (hl : lv_has ls 4 [(0, .ref (b 0))]) : W p l e rmX5_init s m args below meth c H locs 6 1189 Q (F0 m 64 ls []) := by
  have iX5 : ∀ w ∈ wsX50, w ∈ wsX5_init := by decide +kernel
  have f26 := hts (.fieldLink RX5 26 "CryptSumsModel" "sets" "[I") (by decide +kernel)
  have f29 := hts (.fieldLink RX5 29 "CryptSumsModel" "first" "[I") (by decide +kernel)
  have c84 : ∀ (K68 : Int32 → Int32 → RowI → RowI → Option (RowI × RowI × RowI)) (hK68 : ∀ (v1 : Int32) (v2 : Int32) (me' : RowI) (mf' : RowI), K68 v1 v2 me' mf' = some o → ∀ (H : Heap) (locs : List Loc) (ls : Array Slot), va_P D vwCl (mw b cI th w h ms mu mb me' mf' mt mv ml mk) H → va_D A (mw b cI th w h ms mu mb me' mf' mt mv ml mk) → va_S A s.heap H locs → lv_has ls 4 [(0, .ref (b 0)), (1, .int v1), (2, .int v2)] → W p l e rmX5_init s m args below meth c H locs 6 1189 Q (F0 m 68 ls [])) (n : Nat), ∀ (v1 : Int32) (v2 : Int32) (v3 : Int32) (me' : RowI) (mf' : RowI), mX5_init_84 N w h ms mb K68 n v1 v2 v3 me' mf' = some o → ∀ (H : Heap) (locs : List Loc) (ls : Array Slot), va_P D vwCl (mw b cI th w h ms mu mb me' mf' mt mv ml mk) H → va_D A (mw b cI th w h ms mu mb me' mf' mt mv ml mk) → va_S A s.heap H locs → lv_has ls 4 [(0, .ref (b 0)), (1, .int v1), (2, .int v2), (3, .int v3)] → W p l e rmX5_init s m args below meth c H locs 6 1189 Q (F0 m 84 ls []) := by
    intro K68 hK68 n
    induction n with
    | zero =>
      intro v1 v2 v3 me' mf' hM
      rw [mX5_init_84] at hM
      cases hM
    | succ n ih =>
      intro v1 v2 v3 me' mf' hM H locs ls hP hD hS hl
      rw [mX5_init_84] at hM
      refine lv_iload_n hx hb dX5_init_84 rfl (lv_at hl 3 rfl) ?_
      refine lv_sipush (v := 1024) hx hb dX5_init_85 (by decide) ?_
      refine lv_icmp_ge (tgt := 132) hx hb dX5_init_88 (by decide) (fun hcc => ?_) (fun hcc => ?_)
      · replace hM := it_p hcc hM
        refine lv_iinc (v := (v2 + 1)) (lv' := [(2, .int (v2 + 1)), (0, .ref (b 0)), (1, .int v1), (3, .int v3)]) hx hb dX5_init_132 hl (k := 2) rfl (by rfl) (by decide) rfl (fun ls hl => ?_)
        refine lv_goto (tgt := 68) hx hb dX5_init_135 (by decide) ?_
        exact hK68 v1 (v2 + 1) me' mf' hM H locs ls hP hD hS (lv_sub hl [1, 2, 0] rfl)
      · replace hM := it_n hcc hM
        refine lv_iload_n hx hb dX5_init_91 rfl (lv_at hl 3 rfl) ?_
        refine cR_i (va_runS (As := [.int v3]) (rest := []) ⟨hx, hb, hml, hown, hts⟩ (kJ6_bitCount (D := D) (cI := cI) (cJ := cJ) v3 H.size) (va_cwS 1 hts gX5_init_J6_bitCount_0f7a4 rfl rfl rfl (by decide +kernel) ⟨Nat.le_of_ble_eq_true rfl, Nat.le_of_ble_eq_true rfl⟩) (preS [.int v3] hN hK (hP.sub (ws' := zw) [] rfl) (hD.sub (ws' := zw) [] (by decide) rfl)) rfl rfl hl.1 rfl (lv_room (Nat.le_of_ble_eq_true rfl)) dX5_init_92 ⟨Nat.le_of_ble_eq_true rfl, Nat.le_of_ble_eq_true rfl⟩) hP hS (fun r u H locs hw hP hS => ?_)
        rw [hw]
        refine lv_iload_n hx hb dX5_init_95 rfl (lv_at hl 2 rfl) ?_
        refine lv_bipush (v := 46) hx hb dX5_init_96 (by decide) ?_
        obtain ⟨hz98, hM⟩ := it_x hM
        refine lv_idiv hx hb dX5_init_98 hz98 ?_
        refine lv_icmp_ne (tgt := 126) hx hb dX5_init_99 (by decide) (fun hcc => ?_) (fun hcc => ?_)
        · replace hM := it_n hcc hM
          refine lv_iinc (v := (v3 + 2)) (lv' := [(3, .int (v3 + 2)), (0, .ref (b 0)), (1, .int v1), (2, .int v2)]) hx hb dX5_init_126 hl (k := 3) rfl (by rfl) (by decide) rfl (fun ls hl => ?_)
          refine lv_goto (tgt := 84) hx hb dX5_init_129 (by decide) ?_
          exact ih v1 v2 (v3 + 2) me' mf' hM H locs ls hP hD hS (lv_sub hl [1, 2, 3, 0] rfl)
        · replace hM := it_p hcc hM
          refine lv_iload_n hx hb dX5_init_102 rfl (lv_at hl 3 rfl) ?_
          obtain ⟨x103, hC, hM⟩ := bd_s hM
          refine cR_i (va_runS (As := [.int v3]) (rest := []) ⟨hx, hb, hml, hown, hts⟩ (kX5_sumOf (l := l) (D := D) (cI := cI) (cJ := cJ) N (p1 := v3) hC H.size) (va_cwS 1 hts gX5_init_X5_sumOf rfl rfl rfl (by decide +kernel) ⟨Nat.le_of_ble_eq_true rfl, Nat.le_of_ble_eq_true rfl⟩) (preS [.int v3] hN hK (hP.sub (ws' := zw) [] rfl) (hD.sub (ws' := zw) [] (by decide) rfl)) rfl rfl hl.1 rfl (lv_room (Nat.le_of_ble_eq_true rfl)) dX5_init_103 ⟨Nat.le_of_ble_eq_true rfl, Nat.le_of_ble_eq_true rfl⟩) hP hS (fun r u H locs hw hP hS => ?_)
          rw [hw]
          refine lv_iload_n hx hb dX5_init_106 rfl (lv_at hl 2 rfl) ?_
          refine lv_bipush (v := 46) hx hb dX5_init_107 (by decide) ?_
          obtain ⟨hz109, hM⟩ := it_x hM
          refine lv_irem hx hb dX5_init_109 hz109 ?_
          refine lv_icmp_eq (tgt := 116) hx hb dX5_init_110 (by decide) (fun hcc => ?_) (fun hcc => ?_)
          · replace hM := it_p hcc hM
            refine lv_aload_n hx hb dX5_init_116 rfl (lv_at hl 0 rfl) ?_
            refine va_get (D := D) (ci := 5) (v := .ref (b 4)) (C := RX5) (T := TX5) (N := 12) hx hb hts iX5 hown hK hP 0 rfl rfl 6 (by decide) f26 (fun _ h9 => h9) rfl dX5_init_117 ?_
            refine lv_iload_n hx hb dX5_init_120 rfl (lv_at hl 1 rfl) ?_
            refine lv_iload_n hx hb dX5_init_121 rfl (lv_at hl 3 rfl) ?_
            obtain ⟨hb122, hM⟩ := it_x hM
            refine va_iast (D := D) hx hb hK hP hD hS 4 0 rfl rfl hb122 dX5_init_122 (fun H locs hP hD hS => ?_)
            replace hP : va_P D vwCl (mw b cI th w h ms mu mb (upd me' v1.toNatClampNeg v3) mf' mt mv ml mk) H := hP
            replace hD : va_D A (mw b cI th w h ms mu mb (upd me' v1.toNatClampNeg v3) mf' mt mv ml mk) := hD
            refine lv_iinc (v := (v1 + 1)) (lv' := [(1, .int (v1 + 1)), (0, .ref (b 0)), (2, .int v2), (3, .int v3)]) hx hb dX5_init_123 hl (k := 1) rfl (by rfl) (by decide) rfl (fun ls hl => ?_)
            refine lv_iinc (v := (v3 + 2)) (lv' := [(3, .int (v3 + 2)), (1, .int (v1 + 1)), (0, .ref (b 0)), (2, .int v2)]) hx hb dX5_init_126 hl (k := 3) rfl (by rfl) (by decide) rfl (fun ls hl => ?_)
            refine lv_goto (tgt := 84) hx hb dX5_init_129 (by decide) ?_
            exact ih (v1 + 1) v2 (v3 + 2) (upd me' v1.toNatClampNeg v3) mf' hM H locs ls hP hD hS (lv_sub hl [2, 1, 3, 0] rfl)
          · replace hM := it_n hcc hM
            refine lv_goto (tgt := 126) hx hb dX5_init_113 (by decide) ?_
            refine lv_iinc (v := (v3 + 2)) (lv' := [(3, .int (v3 + 2)), (0, .ref (b 0)), (1, .int v1), (2, .int v2)]) hx hb dX5_init_126 hl (k := 3) rfl (by rfl) (by decide) rfl (fun ls hl => ?_)
            refine lv_goto (tgt := 84) hx hb dX5_init_129 (by decide) ?_
            exact ih v1 v2 (v3 + 2) me' mf' hM H locs ls hP hD hS (lv_sub hl [1, 2, 3, 0] rfl)
  have c68 : ∀ (n : Nat), ∀ (v1 : Int32) (v2 : Int32) (me' : RowI) (mf' : RowI), mX5_init_68 N w h ms mb n v1 v2 me' mf' = some o → ∀ (H : Heap) (locs : List Loc) (ls : Array Slot), va_P D vwCl (mw b cI th w h ms mu mb me' mf' mt mv ml mk) H → va_D A (mw b cI th w h ms mu mb me' mf' mt mv ml mk) → va_S A s.heap H locs → lv_has ls 4 [(0, .ref (b 0)), (1, .int v1), (2, .int v2)] → W p l e rmX5_init s m args below meth c H locs 6 1189 Q (F0 m 68 ls []) := by
    intro n
    induction n with
    | zero =>
      intro v1 v2 me' mf' hM
      rw [mX5_init_68] at hM
      cases hM
    | succ n ih =>
      intro v1 v2 me' mf' hM H locs ls hP hD hS hl
      rw [mX5_init_68] at hM
      refine lv_iload_n hx hb dX5_init_68 rfl (lv_at hl 2 rfl) ?_
      refine lv_sipush (v := 460) hx hb dX5_init_69 (by decide) ?_
      refine lv_icmp_ge (tgt := 138) hx hb dX5_init_72 (by decide) (fun hcc => ?_) (fun hcc => ?_)
      · replace hM := it_p hcc hM
        refine lv_aload_n hx hb dX5_init_138 rfl (lv_at hl 0 rfl) ?_
        refine va_get (D := D) (ci := 5) (v := .ref (b 5)) (C := RX5) (T := TX5) (N := 12) hx hb hts iX5 hown hK hP 0 rfl rfl 7 (by decide) f29 (fun _ h9 => h9) rfl dX5_init_139 ?_
        refine lv_sipush (v := 460) hx hb dX5_init_142 (by decide) ?_
        refine lv_iload_n hx hb dX5_init_145 rfl (lv_at hl 1 rfl) ?_
        obtain ⟨hb146, hM⟩ := it_x hM
        refine va_iast (D := D) hx hb hK hP hD hS 5 0 rfl rfl hb146 dX5_init_146 (fun H locs hP hD hS => ?_)
        replace hP : va_P D vwCl (mw b cI th w h ms mu mb me' (upd mf' (460 : Int32).toNatClampNeg v1) mt mv ml mk) H := hP
        replace hD : va_D A (mw b cI th w h ms mu mb me' (upd mf' (460 : Int32).toNatClampNeg v1) mt mv ml mk) := hD
        refine lv_aload_n hx hb dX5_init_147 rfl (lv_at hl 0 rfl) ?_
        obtain ⟨x148, hC, hM⟩ := bd_s hM
        refine cW_v [0, 1, 2, 3, 4, 5, 6] [] (va_runV (As := []) (rest := []) ⟨hx, hb, hml, hown, hts⟩ (kX5_link (l := l) (D := D) (cI := cI) (cJ := cJ) N b (th := th) (w := w) (h := h) (ms := ms) (mu := mu) (mb := mb) (me := me') (mf := (upd mf' (460 : Int32).toNatClampNeg v1)) (mt := mt) (mv := mv) (ml := ml) (mk := mk) hC H.size) (cwV 0 hts gX5_init_X5_link rfl rfl rfl (by decide +kernel) ⟨Nat.le_of_ble_eq_true rfl, Nat.le_of_ble_eq_true rfl⟩) (preV [] hN hK hP hD (ci := 5) (q0 := 0) rfl rfl) rfl rfl hl.1 rfl (lv_room (Nat.le_of_ble_eq_true rfl)) dX5_init_148 ⟨Nat.le_of_ble_eq_true rfl, Nat.le_of_ble_eq_true rfl⟩) hP hD hS hA rfl (wr := []) rfl (by decide) (by decide) (fun u148 H locs hw hP hD hS => ?_)
        replace hP : va_P D vwCl (mw b cI th w h ms mu x148 me' (upd mf' (460 : Int32).toNatClampNeg v1) mt mv ml mk) H := hP
        replace hD : va_D A (mw b cI th w h ms mu x148 me' (upd mf' (460 : Int32).toNatClampNeg v1) mt mv ml mk) := hD
        obtain rfl := Option.some.inj hM
        subst hQ
        exact W.vret hx hb hr (fun t ht hW => hfin t _ _ ht hP hD hS) hS.2.2 dX5_init_151
      · replace hM := it_n hcc hM
        refine lv_aload_n hx hb dX5_init_75 rfl (lv_at hl 0 rfl) ?_
        refine va_get (D := D) (ci := 5) (v := .ref (b 5)) (C := RX5) (T := TX5) (N := 12) hx hb hts iX5 hown hK hP 0 rfl rfl 7 (by decide) f29 (fun _ h9 => h9) rfl dX5_init_76 ?_
        refine lv_iload_n hx hb dX5_init_79 rfl (lv_at hl 2 rfl) ?_
        refine lv_iload_n hx hb dX5_init_80 rfl (lv_at hl 1 rfl) ?_
        obtain ⟨hb81, hM⟩ := it_x hM
        refine va_iast (D := D) hx hb hK hP hD hS 5 0 rfl rfl hb81 dX5_init_81 (fun H locs hP hD hS => ?_)
        replace hP : va_P D vwCl (mw b cI th w h ms mu mb me' (upd mf' v2.toNatClampNeg v1) mt mv ml mk) H := hP
        replace hD : va_D A (mw b cI th w h ms mu mb me' (upd mf' v2.toNatClampNeg v1) mt mv ml mk) := hD
        refine lv_iconst (v := 0) hx hb dX5_init_82 (by decide) ?_
        refine lv_istore_n (lv' := [(3, .int (0 : Int32)), (0, .ref (b 0)), (1, .int v1), (2, .int v2)]) hx hb dX5_init_83 rfl hl (by decide) rfl (fun ls hl => ?_)
        exact c84 (mX5_init_68 N w h ms mb n) ih N v1 v2 (0 : Int32) me' (upd mf' v2.toNatClampNeg v1) hM H locs ls hP hD hS (lv_sub hl [1, 2, 3, 0] rfl)
  rw [mX5_init] at hM
  refine lv_iconst (v := 0) hx hb dX5_init_64 (by decide) ?_
  refine lv_istore_n (lv' := [(1, .int (0 : Int32)), (0, .ref (b 0))]) hx hb dX5_init_65 rfl hl (by decide) rfl (fun ls hl => ?_)
  refine lv_iconst (v := 0) hx hb dX5_init_66 (by decide) ?_
  refine lv_istore_n (lv' := [(2, .int (0 : Int32)), (1, .int (0 : Int32)), (0, .ref (b 0))]) hx hb dX5_init_67 rfl hl (by decide) rfl (fun ls hl => ?_)
  exact c68 N (0 : Int32) (0 : Int32) me mf hM H locs ls hP hD hS (lv_sub hl [2, 1, 0] rfl)
