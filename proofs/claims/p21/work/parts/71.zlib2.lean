/-! what the law's larger methods begin with: all that a throw reads; the law's script -/
theorem new_n {k n : Nat} (h : ¬ k ≤ n) (hk : k ≤ 1000) : ¬ (nI n + (1 : Int32)) < 0 ∧ (nI n + (1 : Int32)).toNatClampNeg = n + 1 := by
  rw [nI_1]
  exact ⟨nI_pos (by omega), nI_clamp (by omega)⟩
theorem new_b {k n : Nat} (h : ¬ k ≤ n) (hk : k ≤ 1000) : (n + 1) * componentBytes .int ≤ 536870912 := by
  show (n + 1) * 4 ≤ 536870912
  omega
/-- fixed cells alone -/
theorem subQ {D : va_G} {cl : List vw_C} {X cx pl : va_W} {H : Heap} (h : va_P D cl (X ++ pl) H) (is : List Nat) (hs : is.map (fun i => X[i]?) = cx.map some) : va_P D cl cx H := by
  have h1 := va_P.part (cx := cx) h is hs
  exact fun k q hk => h1 k q (by rw [List.getElem?_append_left (List.getElem?_eq_some_iff.mp hk).1]; exact hk)
theorem subQD {A : Nat → Prop} {X cx pl : va_W} (h : va_D A (X ++ pl)) (is : List Nat) (hn : va_nd is = true) (hs : is.map (fun i => X[i]?) = cx.map some) : va_D A cx := by
  have h1 := va_D.part (cx := cx) h is hn hs
  exact h1.by id (fun k q hk => by show (cx ++ pl)[k]? = some q; rw [List.getElem?_append_left (List.getElem?_eq_some_iff.mp hk).1]; exact hk) (fun i j _ _ e => e)
theorem freeQ {A0 : Nat → Prop} {X cx pl : va_W} {H0 H : Heap} {locs : List Loc} (hD : va_D A0 (X ++ pl)) (hS : va_S A0 H0 H locs) (hA : ∀ q, H0.size ≤ q → A0 q) (isC : List Nat) (hC : isC.map (fun i => X[i]?) = cx.map some) : ∀ q, va_A cx H.size q → A0 q := fun q h =>
  va_freeP (cx := cx) hD hS hA isC hC q (h.elim (fun ⟨k, e, g⟩ => Or.inl ⟨k, e, by rw [List.getElem?_append_left (List.getElem?_eq_some_iff.mp g).1]; exact g⟩) Or.inr)
def PreY (D : va_G) (cI cJ cB cM : ClassId) (ws : va_W) (sz : Nat) (U : State) : Prop := PreZ D cI cJ cB cM ws sz U ∧ TX (va_A ws sz) U U.heap
theorem PreY.blind (D : va_G) (cI cJ cB cM : ClassId) (ws : va_W) (sz : Nat) (av : List Value) : FrameBlind (va_Pc av (PreY D cI cJ cB cM ws sz)) := by
  rintro a U g mk ⟨h1, h2, h3⟩
  exact ⟨h1, ((PreZ.blind D cI cJ cB cM ws sz av) a U g mk ⟨h1, h2⟩).2, TX.same (s := U) (U := U.calling g mk a) rfl h3⟩
def PreB (D : va_G) (cI cJ cB cM : ClassId) (b0 L : Nat) (xs : Nat → Int32) (ws : va_W) (sz : Nat) (U : State) : Prop := PreY D cI cJ cB cM ws sz U ∧ va_X b0 L xs U U.heap ∧ b0 < sz ∧ ¬ va_A ws sz b0
theorem PreB.blind (D : va_G) (cI cJ cB cM : ClassId) (b0 L : Nat) (xs : Nat → Int32) (ws : va_W) (sz : Nat) (av : List Value) : FrameBlind (va_Pc av (PreB D cI cJ cB cM b0 L xs ws sz)) := by
  rintro a U g mk ⟨h1, h2, h3, h4, h5⟩
  exact ⟨h1, ((PreY.blind D cI cJ cB cM ws sz av) a U g mk ⟨h1, h2⟩).2, va_X.moved (u := U) (U := U.calling g mk a) (Vm.Alike.refl U.vm) h3, h4, h5⟩
/-- the script alone -/
def PreC (D : va_G) (cI cJ : ClassId) (b0 L : Nat) (xs : Nat → Int32) (sz : Nat) (U : State) : Prop := Pre D cI cJ zw sz U ∧ va_X b0 L xs U U.heap ∧ b0 < sz
theorem PreC.blind (D : va_G) (cI cJ : ClassId) (b0 L : Nat) (xs : Nat → Int32) (sz : Nat) (av : List Value) : FrameBlind (va_Pc av (PreC D cI cJ b0 L xs sz)) := by
  rintro a U g mk ⟨h1, h2, h3, h4⟩
  exact ⟨h1, ((Pre.blind D cI cJ zw sz av) a U g mk ⟨h1, h2⟩).2, va_X.moved (u := U) (U := U.calling g mk a) (Vm.Alike.refl U.vm) h3, h4⟩
section YP
variable {D : va_G} {cI cJ cB cM : ClassId} {wc : va_W} {s : State} {H : Heap} {locs : List Loc} {A : Nat → Prop} {b0 L : Nat} {xs : Nat → Int32}
theorem preSY (As : List Value) (hT : TX A s s.heap) (hS : va_S A s.heap H locs) (hF : ∀ q, va_A wc H.size q → A q) (hN : NZ s) (hK : va_K D vwCl (tysZ cI cJ cB cM) s) (hP : va_P D vwCl wc H) (hD : va_D A wc) : PreS s H (va_Pc As (PreY D cI cJ cB cM wc H.size)) As :=
  ⟨PreY.blind D cI cJ cB cM wc H.size As, fun _ hU hW => ⟨rfl, (PreZ.ent (av := As) hN hK hP hD hU hW).2, hT.go hS hF hU hW⟩⟩
theorem preVY {b q0 ci : Nat} {q : vw_C} {fs : List Value} (As : List Value) (hT : TX A s s.heap) (hS : va_S A s.heap H locs) (hF : ∀ q, va_A wc H.size q → A q) (hN : NZ s) (hK : va_K D vwCl (tysZ cI cJ cB cM) s) (hP : va_P D vwCl wc H) (hD : va_D A wc) (hc : vwCl[ci]? = some q) (he : wc[q0]? = some (b, .inr (ci, fs))) : PreV s H q.1 b (va_Pc (.ref b :: As) (PreY D cI cJ cB cM wc H.size)) As :=
  ⟨PreY.blind D cI cJ cB cM wc H.size (.ref b :: As), va_recv hK hP hc he, fun _ hU hW => ⟨rfl, (PreZ.ent (av := .ref b :: As) hN hK hP hD hU hW).2, hT.go hS hF hU hW⟩⟩
theorem preSB (As : List Value) (hX : va_X b0 L xs s s.heap) (hbl : b0 < s.heap.size) (hbA : ¬ A b0) (hT : TX A s s.heap) (hS : va_S A s.heap H locs) (hF : ∀ q, va_A wc H.size q → A q) (hN : NZ s) (hK : va_K D vwCl (tysZ cI cJ cB cM) s) (hP : va_P D vwCl wc H) (hD : va_D A wc) : PreS s H (va_Pc As (PreB D cI cJ cB cM b0 L xs wc H.size)) As :=
  ⟨PreB.blind D cI cJ cB cM b0 L xs wc H.size As, fun _ hU hW => ⟨rfl, ⟨(PreZ.ent (av := As) hN hK hP hD hU hW).2, hT.go hS hF hU hW⟩, va_X.moved hW.alike (by rw [hU]; exact hX.kept (hS.2.1 b0 hbl hbA)), Nat.lt_of_lt_of_le hbl hS.1, fun h => hbA (hF b0 h)⟩⟩
theorem preSC (As : List Value) (hX : va_X b0 L xs s s.heap) (hbl : b0 < s.heap.size) (hbA : ¬ A b0) (hS : va_S A s.heap H locs) (hN : NS s) (hK : va_K D vwCl (tysX cI cJ) s) (hP : va_P D vwCl zw H) (hD : va_D A zw) : PreS s H (va_Pc As (PreC D cI cJ b0 L xs H.size)) As :=
  ⟨PreC.blind D cI cJ b0 L xs H.size As, fun _ hU hW => ⟨rfl, (Pre.ent (av := As) hN hK hP hD hU hW).2, va_X.moved hW.alike (by rw [hU]; exact hX.kept (hS.2.1 b0 hbl hbA)), Nat.lt_of_lt_of_le hbl hS.1⟩⟩
end YP
section YH
variable {l : Launch} {y : MethodName} {ws ws' : List Cond} {rm : Room} {av : List Value} {D : va_G} {cI cJ cB cM : ClassId} {w : va_W} {sz : Nat} {Qc : Array Value → State → Outcome → State → Prop} {mc ms : Nat} {cc : ByteArray} {maxL : Nat} {ret : Option FieldType}
theorem xofY (hw : ws = Cond.code y cc maxL ret :: ws') (hy : plainName y.cls = true) (hlen : Nat.ble (lg_sl av).length maxL = true)
    (body : ∀ (p : Program) (e : Env) (s : State) (m : MethodId) (args : Array Value) (below : List Frame) (meth : Method) (c : Code) (ls : Array Slot) (Q : State → Prop) (A : Nat → Prop), Q = MQ below Qc args s mc ms (va_A w sz) → A = va_A w sz → p.tables.exec = Jvm.exec → c.code = cc → meth.sig.returnType = ret → c.maxLocals = maxL → s.vm.findClass y.cls = some m.cls → (∀ w ∈ ws, w.before args s = true) → meth.locks = false → TX A s s.heap → NZ s → va_K D vwCl (tysZ cI cJ cB cM) s → ∀ (H : Heap) (locs : List Loc), va_P D vwCl w H → va_D A w → va_S A s.heap H locs → (∀ q : Nat, s.heap.size ≤ q → A q) → lv_has ls maxL (lv_args 0 av) →
      W p l e rm s m args below meth c H locs 0 0 Q (F0 m 0 ls [])) : Met l y ws rm (va_Pc av (PreY D cI cJ cB cM w sz)) Qc mc ms (va_A w sz) := by
  refine Met.ofW (cc := cc) (maxL := maxL) (ret := ret) hy hw ?_
  intro p e s m args below meth c s₁ B hml hv
  obtain ⟨rfl, ⟨hsz, hP, hK, hD0, hN⟩, hTX⟩ := hv
  subst hsz
  have hl := lv_entry av (n := maxL) (Nat.le_of_ble_eq_true hlen)
  rw [lg_entry_eq]
  exact body p e s m _ below meth c _ _ _ rfl rfl B.exec B.bytes B.returns hml (findClass_of_methodNamed B.named) (atoms_spec (ws := ws) B.pre) B.notSynchronized hTX hN hK _ _ hP hD0.self va_S.rf (fun q h => Or.inr h) hl
theorem xofYD (hw : ws = Cond.code y cc maxL ret :: ws') (hy : plainName y.cls = true) (hlen : Nat.ble (lg_sl av).length maxL = true)
    (body : ∀ (p : Program) (e : Env) (s : State) (m : MethodId) (args : Array Value) (below : List Frame) (meth : Method) (c : Code) (ls : Array Slot) (Q : State → Prop) (A : Nat → Prop), Q = MQD lw_cs below Qc args s mc ms (va_A w sz) → A = va_A w sz → p.tables.exec = Jvm.exec → c.code = cc → meth.sig.returnType = ret → c.maxLocals = maxL → s.vm.findClass y.cls = some m.cls → (∀ w ∈ ws, w.before args s = true) → meth.locks = false → TX A s s.heap → NZ s → va_K D vwCl (tysZ cI cJ cB cM) s → ∀ (H : Heap) (locs : List Loc), va_P D vwCl w H → va_D A w → va_S A s.heap H locs → (∀ q : Nat, s.heap.size ≤ q → A q) → lv_has ls maxL (lv_args 0 av) →
      W p l e rm s m args below meth c H locs 0 0 Q (F0 m 0 ls [])) : MetD lw_cs l y ws rm (va_Pc av (PreY D cI cJ cB cM w sz)) Qc mc ms (va_A w sz) := by
  refine MetD.ofW (cc := cc) (maxL := maxL) (ret := ret) hy hw ?_
  intro p e s m args below meth c s₁ B hml hv hd0
  obtain ⟨rfl, ⟨hsz, hP, hK, hD0, hN⟩, hTX⟩ := hv
  subst hsz
  have hl := lv_entry av (n := maxL) (Nat.le_of_ble_eq_true hlen)
  rw [lg_entry_eq]
  exact body p e s m _ below meth c _ _ _ rfl rfl B.exec B.bytes B.returns hml (findClass_of_methodNamed B.named) (atoms_spec (ws := ws) B.pre) B.notSynchronized hTX hN hK _ _ hP hD0.self va_S.rf (fun q h => Or.inr h) hl
theorem xofYH {hh : List (Nat × Nat × Nat × Nat)} (hw : ws = Cond.codeWith y cc maxL ret hh :: ws') (hy : plainName y.cls = true) (hlen : Nat.ble (lg_sl av).length maxL = true)
    (body : ∀ (p : Program) (e : Env) (s : State) (m : MethodId) (args : Array Value) (below : List Frame) (meth : Method) (c : Code) (ls : Array Slot) (Q : State → Prop) (A : Nat → Prop), Q = MQ below Qc args s mc ms (va_A w sz) → A = va_A w sz → p.tables.exec = Jvm.exec → c.code = cc → meth.sig.returnType = ret → c.maxLocals = maxL → s.vm.findClass y.cls = some m.cls → (∀ w ∈ ws, w.before args s = true) → meth.locks = false → c.exceptionTable.toList = tableOf hh → TX A s s.heap → NZ s → va_K D vwCl (tysZ cI cJ cB cM) s → ∀ (H : Heap) (locs : List Loc), va_P D vwCl w H → va_D A w → va_S A s.heap H locs → (∀ q : Nat, s.heap.size ≤ q → A q) → lv_has ls maxL (lv_args 0 av) →
      W p l e rm s m args below meth c H locs 0 0 Q (F0 m 0 ls [])) : Met l y ws rm (va_Pc av (PreY D cI cJ cB cM w sz)) Qc mc ms (va_A w sz) := by
  refine Met.ofWH (cc := cc) (maxL := maxL) (ret := ret) hy hw ?_
  intro p e s m args below meth c s₁ B hml hv
  have htab := vx_table (x := y) B (atoms_spec (ws := ws) B.pre _ (by rw [hw]; exact List.mem_cons_self))
  obtain ⟨rfl, ⟨hsz, hP, hK, hD0, hN⟩, hTX⟩ := hv
  subst hsz
  have hl := lv_entry av (n := maxL) (Nat.le_of_ble_eq_true hlen)
  rw [lg_entry_eq]
  exact body p e s m _ below meth c _ _ _ rfl rfl B.exec B.bytes B.returns hml (findClass_of_methodNamed B.named) (atoms_spec (ws := ws) B.pre) B.notSynchronized htab hTX hN hK _ _ hP hD0.self va_S.rf (fun q h => Or.inr h) hl
theorem xofB {b0 L : Nat} {xs : Nat → Int32} (hw : ws = Cond.code y cc maxL ret :: ws') (hy : plainName y.cls = true) (hlen : Nat.ble (lg_sl av).length maxL = true)
    (body : ∀ (p : Program) (e : Env) (s : State) (m : MethodId) (args : Array Value) (below : List Frame) (meth : Method) (c : Code) (ls : Array Slot) (Q : State → Prop) (A : Nat → Prop), Q = MQ below Qc args s mc ms (va_A w sz) → A = va_A w sz → p.tables.exec = Jvm.exec → c.code = cc → meth.sig.returnType = ret → c.maxLocals = maxL → s.vm.findClass y.cls = some m.cls → (∀ w ∈ ws, w.before args s = true) → meth.locks = false → TX A s s.heap → va_X b0 L xs s s.heap → b0 < s.heap.size → ¬ A b0 → NZ s → va_K D vwCl (tysZ cI cJ cB cM) s → ∀ (H : Heap) (locs : List Loc), va_P D vwCl w H → va_D A w → va_S A s.heap H locs → (∀ q : Nat, s.heap.size ≤ q → A q) → lv_has ls maxL (lv_args 0 av) →
      W p l e rm s m args below meth c H locs 0 0 Q (F0 m 0 ls [])) : Met l y ws rm (va_Pc av (PreB D cI cJ cB cM b0 L xs w sz)) Qc mc ms (va_A w sz) := by
  refine Met.ofW (cc := cc) (maxL := maxL) (ret := ret) hy hw ?_
  intro p e s m args below meth c s₁ B hml hv
  obtain ⟨rfl, ⟨⟨hsz, hP, hK, hD0, hN⟩, hTX⟩, hX, hbl, hbA⟩ := hv
  subst hsz
  have hl := lv_entry av (n := maxL) (Nat.le_of_ble_eq_true hlen)
  rw [lg_entry_eq]
  exact body p e s m _ below meth c _ _ _ rfl rfl B.exec B.bytes B.returns hml (findClass_of_methodNamed B.named) (atoms_spec (ws := ws) B.pre) B.notSynchronized hTX hX hbl hbA hN hK _ _ hP hD0.self va_S.rf (fun q h => Or.inr h) hl
end YH
/-! the script's cell -/
def mL_cell (L : Nat) (xs : Nat → Int32) (k : Int32) : Option Int32 := if Int32.ofNat L ≤ k then some ((790386105 : Int32) * (k + (3 : Int32))) else if bad k L then none else some (xs k.toNatClampNeg)
abbrev rmL_cell : Room := { frames := 0, cells := 0, slots := 0, locals := 0 }
set_option maxHeartbeats 4000000 in
set_option maxRecDepth 100000 in
theorem kL_cell {l : Launch} {D : va_G} {cI cJ : ClassId} (b0 L : Nat) (xs : Nat → Int32) {k o : Int32} (hM : mL_cell L xs k = some o) (sz : Nat) : Met l yL_cell wsL_cell rmL_cell (va_Pc [.ref b0, .int k] (PreC D cI cJ b0 L xs sz)) (va_Qi (fun (r : Int32) (_ : Unit) => r = o) (fun _ _ => True) (fun _ => False)) 0 0 (fun _ => False) := by
  refine Met.ofW (cc := cL_cell) (maxL := 2) (ret := some .int) (by decide) rfl ?_
  intro p e s m args below meth c s₁ B hml hv
  obtain ⟨rfl, ⟨hsz, hP, hK, hD0, hN⟩, hX, hbl⟩ := hv
  subst hsz
  have hl := lv_entry [.ref b0, .int k] (n := 2) (Nat.le_of_ble_eq_true rfl)
  rw [lg_entry_eq]
  have hx := B.exec
  have hb := B.bytes
  have hr := B.returns
  have hown : s.vm.findClass RL = some m.cls := findClass_of_methodNamed B.named
  have hts := atoms_spec (ws := wsL_cell) B.pre
  have hlocks := B.notSynchronized
  have hS : va_S (fun _ => False) s.heap s.heap [] := va_S.rf
  generalize (lg_sl ([.ref b0, .int k]) ++ List.replicate (2 - (lg_sl ([.ref b0, .int k])).length) Slot.unset).toArray = ls at hl ⊢
  replace hl : lv_has ls 2 [(0, .ref b0), (1, .int k)] := hl
  unfold mL_cell at hM
  refine lv_iload_n hx hb dL_cell_0 rfl (lv_at hl 1 rfl) ?_
  refine lv_aload_n hx hb dL_cell_1 rfl (lv_at hl 0 rfl) ?_
  refine va_slen hx hb hX hbl (fun h => h) hS dL_cell_2 ?_
  refine lv_icmp_ge (tgt := 12) hx hb dL_cell_3 (by decide) (fun hcc => ?_) (fun hcc => ?_)
  · replace hM := it_p hcc hM
    refine lv_ldc (v := 790386105) hx hb hown (hts (.constant RL 8 (790386105)) (by decide +kernel)) dL_cell_12 ?_
    refine lv_iload_n hx hb dL_cell_14 rfl (lv_at hl 1 rfl) ?_
    refine lv_iconst (v := 3) hx hb dL_cell_15 (by decide) ?_
    refine lv_iadd hx hb dL_cell_16 ?_
    refine lv_imul hx hb dL_cell_17 ?_
    obtain rfl := Option.some.inj hM
    exact W.iret hx hb hr (fun t ht hW => ⟨⟨_, (), rfl, rfl, trivial⟩, hS.F ht⟩) hS.2.2 dL_cell_18
  · replace hM := it_n hcc hM
    obtain ⟨hb8, hM⟩ := it_x hM
    refine lv_aload_n hx hb dL_cell_6 rfl (lv_at hl 0 rfl) ?_
    refine lv_iload_n hx hb dL_cell_7 rfl (lv_at hl 1 rfl) ?_
    refine va_sld hx hb hX hbl (fun h => h) hS hb8 dL_cell_8 ?_
    refine lv_goto (tgt := 18) hx hb dL_cell_9 (by decide) ?_
    obtain rfl := Option.some.inj hM
    exact W.iret hx hb hr (fun t ht hW => ⟨⟨_, (), rfl, rfl, trivial⟩, hS.F ht⟩) hS.2.2 dL_cell_18
