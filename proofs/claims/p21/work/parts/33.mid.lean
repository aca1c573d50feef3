def mX2_init_30 (N : Nat) (K22 : Int32 → RowJ → Option RowJ) : Nat → Int32 → Int32 → RowJ → Option RowJ
  | 0 => fun _ _ _ => none
  | n + 1 => fun v1 v2 su' => (if ((1 : Int32) <<< (v1 &&& 31)) ≤ v2 then
  (K22 (v1 + 1) su')
  else
  ((mX2_addHighest N su' v2 v1).bind fun x40 =>
  (mX2_init_30 N K22 n v1 (v2 + 2) x40)))
def mX2_init_22 (N : Nat) : Nat → Int32 → RowJ → Option RowJ
  | 0 => fun _ _ => none
  | n + 1 => fun v1 su' => (if (9 : Int32) < v1 then
  some su'
  else
  (mX2_init_30 N (mX2_init_22 N n) N v1 (0 : Int32) su'))
def mX2_init (N : Nat) (su : RowJ) : Option RowJ :=
  ((mX2_keepSums N su (0 : Int32) (0 : Int32) (1 : Int64)).bind fun x17 =>
  (mX2_init_22 N N (1 : Int32) x17))
abbrev rmX2_init : Room := { frames := 2, cells := 1, slots := 3584, locals := 53 }
set_option maxHeartbeats 4000000 in
set_option maxRecDepth 100000 in
theorem bX2_init {p : Program} {l : Launch} {e : Env} {s : State} {m : MethodId} {args : Array Value} {below : List Frame} {meth : Method} {c : Code} {ls : Array Slot} {Q : State → Prop} {A : Nat → Prop} {H : Heap} {locs : List Loc} {D : va_G} {cI cJ : ClassId} (N : Nat) (a : Nat → Nat) {su : RowJ} {o : RowJ} (hM : mX2_init N su = some o) {Qc : Array Value → State → Outcome → State → Prop} (hQ : Q = MQ below Qc args s 1 3584 A) (hfin : ∀ (t : State) (H : Heap) (locs : List Loc), t.heap = H → va_P D vwCl (pw a cI cJ o) H → va_D A (pw a cI cJ o) → va_S A s.heap H locs → Qc args s (.returned none) t) (hx : p.tables.exec = Jvm.exec) (hb : c.code = cX2_init) (hr : meth.sig.returnType = none) (hml : c.maxLocals = 3) (hown : s.vm.findClass RX2 = some m.cls) (hts : ∀ w ∈ wsX2_init, w.before args s = true) (hlocks : meth.locks = false) (hN : NS s) (hK : va_K D vwCl (tysX cI cJ) s) (hP : va_P D vwCl (pw a cI cJ su) H) (hD : va_D A (pw a cI cJ su)) (hS : va_S A s.heap H locs) (hA : ∀ q : Nat, s.heap.size ≤ q → A q) (hl : lv_has ls 3 [(0, .ref (a 10))]) : W p l e rmX2_init s m args below meth c H locs 1 3584 Q (F0 m 13 ls []) := by
  have c30 : ∀ (K22 : Int32 → RowJ → Option RowJ) (hK22 : ∀ (v1 : Int32) (su' : RowJ), K22 v1 su' = some o → ∀ (H : Heap) (locs : List Loc) (ls : Array Slot), va_P D vwCl (pw a cI cJ su') H → va_D A (pw a cI cJ su') → va_S A s.heap H locs → lv_has ls 3 [(0, .ref (a 10)), (1, .int v1)] → W p l e rmX2_init s m args below meth c H locs 1 3584 Q (F0 m 22 ls [])) (n : Nat), ∀ (v1 : Int32) (v2 : Int32) (su' : RowJ), mX2_init_30 N K22 n v1 v2 su' = some o → ∀ (H : Heap) (locs : List Loc) (ls : Array Slot), va_P D vwCl (pw a cI cJ su') H → va_D A (pw a cI cJ su') → va_S A s.heap H locs → lv_has ls 3 [(0, .ref (a 10)), (1, .int v1), (2, .int v2)] → W p l e rmX2_init s m args below meth c H locs 1 3584 Q (F0 m 30 ls []) := by
    intro K22 hK22 n
    induction n with
    | zero =>
      intro v1 v2 su' hM
      rw [mX2_init_30] at hM
      cases hM
    | succ n ih =>
      intro v1 v2 su' hM H locs ls hP hD hS hl
      rw [mX2_init_30] at hM
      refine lv_iload_n hx hb dX2_init_30 rfl (lv_at hl 2 rfl) ?_
      refine lv_iconst (v := 1) hx hb dX2_init_31 (by decide) ?_
      refine lv_iload_n hx hb dX2_init_32 rfl (lv_at hl 1 rfl) ?_
      refine lv_ishl hx hb dX2_init_33 ?_
      refine lv_icmp_ge (tgt := 49) hx hb dX2_init_34 (by decide) (fun hcc => ?_) (fun hcc => ?_)
      · replace hM := it_p hcc hM
        refine lv_iinc (v := (v1 + 1)) (lv' := [(1, .int (v1 + 1)), (0, .ref (a 10)), (2, .int v2)]) hx hb dX2_init_49 hl (k := 1) rfl (by rfl) (by decide) rfl (fun ls hl => ?_)
        refine lv_goto (tgt := 22) hx hb dX2_init_52 (by decide) ?_
        exact hK22 (v1 + 1) su' hM H locs ls hP hD hS (lv_sub hl [1, 0] rfl)
      · replace hM := it_n hcc hM
        refine lv_aload_n hx hb dX2_init_37 rfl (lv_at hl 0 rfl) ?_
        refine lv_iload_n hx hb dX2_init_38 rfl (lv_at hl 2 rfl) ?_
        refine lv_iload_n hx hb dX2_init_39 rfl (lv_at hl 1 rfl) ?_
        obtain ⟨x40, hC, hM⟩ := bd_s hM
        refine cW_v [0, 1] [] (va_runV (As := [.int v2, .int v1]) (rest := []) ⟨hx, hb, hml, hown, hts⟩ (kX2_addHighest (l := l) (D := D) (cI := cI) (cJ := cJ) N a (su := su') (p1 := v2) (p2 := v1) hC H.size) (cwV 2 hts gX2_init_X2_addHighest rfl rfl rfl (by decide +kernel) ⟨Nat.le_of_ble_eq_true rfl, Nat.le_of_ble_eq_true rfl⟩) (preV [.int v2, .int v1] hN hK hP hD (ci := 2) (q0 := 0) rfl rfl) rfl rfl hl.1 rfl (lv_room (Nat.le_of_ble_eq_true rfl)) dX2_init_40 ⟨Nat.le_of_ble_eq_true rfl, Nat.le_of_ble_eq_true rfl⟩) hP hD hS hA rfl (wr := []) rfl (by decide) (by decide) (fun u40 H locs hw hP hD hS => ?_)
        replace hP : va_P D vwCl (pw a cI cJ x40) H := hP
        replace hD : va_D A (pw a cI cJ x40) := hD
        refine lv_iinc (v := (v2 + 2)) (lv' := [(2, .int (v2 + 2)), (0, .ref (a 10)), (1, .int v1)]) hx hb dX2_init_43 hl (k := 2) rfl (by rfl) (by decide) rfl (fun ls hl => ?_)
        refine lv_goto (tgt := 30) hx hb dX2_init_46 (by decide) ?_
        exact ih v1 (v2 + 2) x40 hM H locs ls hP hD hS (lv_sub hl [1, 2, 0] rfl)
  have c22 : ∀ (n : Nat), ∀ (v1 : Int32) (su' : RowJ), mX2_init_22 N n v1 su' = some o → ∀ (H : Heap) (locs : List Loc) (ls : Array Slot), va_P D vwCl (pw a cI cJ su') H → va_D A (pw a cI cJ su') → va_S A s.heap H locs → lv_has ls 3 [(0, .ref (a 10)), (1, .int v1)] → W p l e rmX2_init s m args below meth c H locs 1 3584 Q (F0 m 22 ls []) := by
    intro n
    induction n with
    | zero =>
      intro v1 su' hM
      rw [mX2_init_22] at hM
      cases hM
    | succ n ih =>
      intro v1 su' hM H locs ls hP hD hS hl
      rw [mX2_init_22] at hM
      refine lv_iload_n hx hb dX2_init_22 rfl (lv_at hl 1 rfl) ?_
      refine lv_bipush (v := 9) hx hb dX2_init_23 (by decide) ?_
      refine lv_icmp_gt (tgt := 55) hx hb dX2_init_25 (by decide) (fun hcc => ?_) (fun hcc => ?_)
      · replace hM := it_p hcc hM
        obtain rfl := Option.some.inj hM
        subst hQ
        exact W.vret hx hb hr (fun t ht hW => hfin t _ _ ht hP hD hS) hS.2.2 dX2_init_55
      · replace hM := it_n hcc hM
        refine lv_iconst (v := 0) hx hb dX2_init_28 (by decide) ?_
        refine lv_istore_n (lv' := [(2, .int (0 : Int32)), (0, .ref (a 10)), (1, .int v1)]) hx hb dX2_init_29 rfl hl (by decide) rfl (fun ls hl => ?_)
        exact c30 (mX2_init_22 N n) ih N v1 (0 : Int32) su' hM H locs ls hP hD hS (lv_sub hl [1, 2, 0] rfl)
  rw [mX2_init] at hM
  refine lv_aload_n hx hb dX2_init_13 rfl (lv_at hl 0 rfl) ?_
  refine lv_iconst (v := 0) hx hb dX2_init_14 (by decide) ?_
  refine lv_iconst (v := 0) hx hb dX2_init_15 (by decide) ?_
  refine lv_lconst (v := 1) hx hb dX2_init_16 (by decide) ?_
  obtain ⟨x17, hC, hM⟩ := bd_s hM
  refine cW_v [0, 1] [] (va_runV (As := [.int (0 : Int32), .int (0 : Int32), .long (1 : Int64)]) (rest := []) ⟨hx, hb, hml, hown, hts⟩ (kX2_keepSums (l := l) (D := D) (cI := cI) (cJ := cJ) N a (su := su) (p1 := (0 : Int32)) (p2 := (0 : Int32)) (p3 := (1 : Int64)) hC H.size) (cwV 3 hts gX2_init_X2_keepSums rfl rfl rfl (by decide +kernel) ⟨Nat.le_of_ble_eq_true rfl, Nat.le_of_ble_eq_true rfl⟩) (preV [.int (0 : Int32), .int (0 : Int32), .long (1 : Int64)] hN hK hP hD (ci := 2) (q0 := 0) rfl rfl) rfl rfl hl.1 rfl (lv_room (Nat.le_of_ble_eq_true rfl)) dX2_init_17 ⟨Nat.le_of_ble_eq_true rfl, Nat.le_of_ble_eq_true rfl⟩) hP hD hS hA rfl (wr := []) rfl (by decide) (by decide) (fun u17 H locs hw hP hD hS => ?_)
  replace hP : va_P D vwCl (pw a cI cJ x17) H := hP
  replace hD : va_D A (pw a cI cJ x17) := hD
  refine lv_iconst (v := 1) hx hb dX2_init_20 (by decide) ?_
  refine lv_istore_n (lv' := [(1, .int (1 : Int32)), (0, .ref (a 10))]) hx hb dX2_init_21 rfl hl (by decide) rfl (fun ls hl => ?_)
  exact c22 N (1 : Int32) x17 hM H locs ls hP hD hS (lv_sub hl [1, 0] rfl)
