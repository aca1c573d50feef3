/-! My own rows over the kit: the shape of every contract here (Pre), its header (xofR, xofW) and its calls (preV, preS, cR_*, cW_*). -/
abbrev RowI : Type := Nat → Int32
abbrev RowJ : Type := Nat → Int64
abbrev CS : Type := RowI × RowI × RowI × Int32
abbrev JT : Type := Int32 × Int32 × Int32
def nst : List Cond := [.methodLinkNest RX0 32 yX4_write "CryptSums", .methodLinkNest RX0 36 yX4_read "CryptSums", .methodLinkNest RX1 41 yX4_write "CryptSums", .methodLinkNest RX1 58 yX4_read "CryptSums", .methodLinkNest RX3 52 yX4_read "CryptSums", .methodLinkNest RX3 64 yX4_write "CryptSums", .methodLinkNest RX3 78 yX4_hasNumber "CryptSums"]
def NS (U : State) : Prop := ∀ w ∈ nst, va_Nw w U
theorem NS.warm {s U : State} (hW : s.WarmedH U.vm) (h : NS s) : NS U := by
  intro w hw
  have h1 := h w hw
  simp only [nst, List.mem_cons, List.not_mem_nil, or_false] at hw
  rcases hw with rfl | rfl | rfl | rfl | rfl | rfl | rfl <;> exact va_Nw.warmM hW h1
theorem NS.same {s U : State} (hv : s.vm = U.vm) (h : NS s) : NS U := by
  intro w hw
  have h1 := h w hw
  simp only [nst, List.mem_cons, List.not_mem_nil, or_false] at hw
  rcases hw with rfl | rfl | rfl | rfl | rfl | rfl | rfl <;> exact va_Nw.same rfl hv h1
abbrev tysX (cI cJ : ClassId) : List (ClassId × FieldType) := [(cI, .int), (cJ, .long)]
/-- what every contract here begins with: the world ws, all its cells apart, the tables, the nest's words -/
def Pre (D : va_G) (cI cJ : ClassId) (ws : va_W) (sz : Nat) (U : State) : Prop := U.heap.size = sz ∧ va_P D vwCl ws U.heap ∧ va_K D vwCl (tysX cI cJ) U ∧ va_D (fun _ => True) ws ∧ NS U
theorem Pre.blind (D : va_G) (cI cJ : ClassId) (ws : va_W) (sz : Nat) (av : List Value) : FrameBlind (va_Pc av (Pre D cI cJ ws sz)) := by
  rintro a U g mk ⟨h1, h2, h3, h4, h5, h6⟩
  exact ⟨h1, h2, h3, va_K.moved (u := U) (U := U.calling g mk a) (Vm.Alike.refl U.vm) h4, h5, NS.same (s := U) (U := U.calling g mk a) rfl h6⟩
theorem Pre.ent {D : va_G} {cI cJ : ClassId} {ws : va_W} {av : List Value} {s U : State} {H : Heap} {A : Nat → Prop} (hN : NS s) (hK : va_K D vwCl (tysX cI cJ) s) (hP : va_P D vwCl ws H) (hD : va_D A ws) (hU : U.heap = H) (hW : s.WarmedH U.vm) : va_Pc av (Pre D cI cJ ws H.size) av.toArray U :=
  ⟨rfl, by rw [hU], by rw [hU]; exact hP, va_K.moved hW.alike hK, hD.weaken (fun _ _ _ _ => trivial), NS.warm hW hN⟩
theorem preS {D : va_G} {cI cJ : ClassId} {ws : va_W} {s : State} {H : Heap} {A : Nat → Prop} (As : List Value) (hN : NS s) (hK : va_K D vwCl (tysX cI cJ) s) (hP : va_P D vwCl ws H) (hD : va_D A ws) : PreS s H (va_Pc As (Pre D cI cJ ws H.size)) As :=
  ⟨Pre.blind D cI cJ ws H.size As, fun _ hU hW => Pre.ent hN hK hP hD hU hW⟩
theorem preV {D : va_G} {cI cJ : ClassId} {ws : va_W} {s : State} {H : Heap} {A : Nat → Prop} {b q0 ci : Nat} {q : vw_C} {fs : List Value} (As : List Value) (hN : NS s) (hK : va_K D vwCl (tysX cI cJ) s) (hP : va_P D vwCl ws H) (hD : va_D A ws) (hc : vwCl[ci]? = some q) (he : ws[q0]? = some (b, .inr (ci, fs))) : PreV s H q.1 b (va_Pc (.ref b :: As) (Pre D cI cJ ws H.size)) As :=
  ⟨Pre.blind D cI cJ ws H.size (.ref b :: As), va_recv hK hP hc he, fun _ hU hW => Pre.ent hN hK hP hD hU hW⟩
/-- the header of a contract that writes nothing -/
theorem xofR {l : Launch} {y : MethodName} {ws ws' : List Cond} {rm : Room} {av : List Value} {D : va_G} {cI cJ : ClassId} {w : va_W} {sz : Nat} {Qc : Array Value → State → Outcome → State → Prop} {mc ms : Nat} {cc : ByteArray} {maxL : Nat} {ret : Option FieldType} (hw : ws = Cond.code y cc maxL ret :: ws') (hy : plainName y.cls = true) (hlen : Nat.ble (lg_sl av).length maxL = true)
    (body : ∀ (p : Program) (e : Env) (s : State) (m : MethodId) (args : Array Value) (below : List Frame) (meth : Method) (c : Code) (ls : Array Slot) (Q : State → Prop) (A : Nat → Prop), Q = MQ below Qc args s mc ms (fun _ => False) → A = (fun _ => False) → p.tables.exec = Jvm.exec → c.code = cc → meth.sig.returnType = ret → c.maxLocals = maxL → s.vm.findClass y.cls = some m.cls → (∀ w ∈ ws, w.before args s = true) → meth.locks = false → NS s → va_K D vwCl (tysX cI cJ) s → ∀ (H : Heap) (locs : List Loc), va_P D vwCl w H → va_D (fun _ => True) w → va_S A s.heap H locs → lv_has ls maxL (lv_args 0 av) →
      W p l e rm s m args below meth c H locs 0 0 Q (F0 m 0 ls [])) : Met l y ws rm (va_Pc av (Pre D cI cJ w sz)) Qc mc ms (fun _ => False) := by
  refine Met.ofW (cc := cc) (maxL := maxL) (ret := ret) hy hw ?_
  intro p e s m args below meth c s₁ B hml hv
  obtain ⟨rfl, hsz, hP, hK, hD0, hN⟩ := hv
  have hl := lv_entry av (n := maxL) (Nat.le_of_ble_eq_true hlen)
  rw [lg_entry_eq]
  exact body p e s m _ below meth c _ _ _ rfl rfl B.exec B.bytes B.returns hml (findClass_of_methodNamed B.named) (atoms_spec (ws := ws) B.pre) B.notSynchronized hN hK _ _ hP hD0 va_S.rf hl
/-- the header of a contract that may write its world, and make -/
theorem xofW {l : Launch} {y : MethodName} {ws ws' : List Cond} {rm : Room} {av : List Value} {D : va_G} {cI cJ : ClassId} {w : va_W} {sz : Nat} {Qc : Array Value → State → Outcome → State → Prop} {mc ms : Nat} {cc : ByteArray} {maxL : Nat} {ret : Option FieldType} (hw : ws = Cond.code y cc maxL ret :: ws') (hy : plainName y.cls = true) (hlen : Nat.ble (lg_sl av).length maxL = true)
    (body : ∀ (p : Program) (e : Env) (s : State) (m : MethodId) (args : Array Value) (below : List Frame) (meth : Method) (c : Code) (ls : Array Slot) (Q : State → Prop) (A : Nat → Prop), Q = MQ below Qc args s mc ms (va_A w sz) → A = va_A w sz → p.tables.exec = Jvm.exec → c.code = cc → meth.sig.returnType = ret → c.maxLocals = maxL → s.vm.findClass y.cls = some m.cls → (∀ w ∈ ws, w.before args s = true) → meth.locks = false → meth.name = y.name → NS s → va_K D vwCl (tysX cI cJ) s → ∀ (H : Heap) (locs : List Loc), va_P D vwCl w H → va_D A w → va_S A s.heap H locs → (∀ q : Nat, s.heap.size ≤ q → A q) → lv_has ls maxL (lv_args 0 av) →
      W p l e rm s m args below meth c H locs 0 0 Q (F0 m 0 ls [])) : Met l y ws rm (va_Pc av (Pre D cI cJ w sz)) Qc mc ms (va_A w sz) := by
  refine Met.ofW (cc := cc) (maxL := maxL) (ret := ret) hy hw ?_
  intro p e s m args below meth c s₁ B hml hv
  obtain ⟨rfl, hsz, hP, hK, hD0, hN⟩ := hv
  subst hsz
  have hl := lv_entry av (n := maxL) (Nat.le_of_ble_eq_true hlen)
  rw [lg_entry_eq]
  exact body p e s m _ below meth c _ _ _ rfl rfl B.exec B.bytes B.returns hml (findClass_of_methodNamed B.named) (atoms_spec (ws := ws) B.pre) B.notSynchronized (name_of_methodNamed B.named B.method).1 hN hK _ _ hP hD0.self va_S.rf (fun q h => Or.inr h) hl
section XC
variable {p : Program} {l : Launch} {e : Env} {R : Room} {s : State} {m : MethodId} {args : Array Value} {below : List Frame} {meth : Method} {c : Code} {H : Heap} {locs : List Loc} {cells slots mc ms pc : Nat} {Q : State → Prop} {ls : Array Slot} {st0 rest : List Value} {free A : Addr → Prop} {D : va_G} {cl : List vw_C} {ws : va_W} {T : Type}
/-- behind a call that writes nothing -/
theorem cR_i {post : Int32 → T → Prop} {B : T → State → Prop} {aa : Array Value} (hr : va_Run p l e R s m args below meth c H locs cells slots mc ms (F0 m pc ls st0) rest (va_Qi post B (fun _ => False) aa) (fun _ => False)) (hP : va_P D cl ws H) (hS : va_S A s.heap H locs)
    (kk : ∀ (r : Int32) (u : T) (H1 : Heap) (locs1 : List Loc), post r u → va_P D cl ws H1 → va_S A s.heap H1 locs1 → W p l e R s m args below meth c H1 locs1 (cells + mc) (slots + ms) Q (F0 m (pc + 3) ls (.int r :: rest))) : W p l e R s m args below meth c H locs cells slots Q (F0 m pc ls st0) := by
  refine va_calli hr hS (fun _ _ h => h.elim) (fun _ h => h.elim) (fun r u t H1 locs1 ht hvm hw hB hz1 hk1 hS1 => ?_)
  exact kk r u H1 locs1 hw (hP.kept (fun k q hk => hk1 q.1 (hP k q hk).lt (fun h => h))) hS1
theorem cR_l {post : Int64 → T → Prop} {B : T → State → Prop} {aa : Array Value} (hr : va_Run p l e R s m args below meth c H locs cells slots mc ms (F0 m pc ls st0) rest (va_Ql post B (fun _ => False) aa) (fun _ => False)) (hP : va_P D cl ws H) (hS : va_S A s.heap H locs)
    (kk : ∀ (r : Int64) (u : T) (H1 : Heap) (locs1 : List Loc), post r u → va_P D cl ws H1 → va_S A s.heap H1 locs1 → W p l e R s m args below meth c H1 locs1 (cells + mc) (slots + ms) Q (F0 m (pc + 3) ls (.long r :: rest))) : W p l e R s m args below meth c H locs cells slots Q (F0 m pc ls st0) := by
  refine va_calll hr hS (fun _ _ h => h.elim) (fun _ h => h.elim) (fun r u t H1 locs1 ht hvm hw hB hz1 hk1 hS1 => ?_)
  exact kk r u H1 locs1 hw (hP.kept (fun k q hk => hk1 q.1 (hP k q hk).lt (fun h => h))) hS1
/-- what a callee that writes leaves: its new world, apart -/
abbrev aft (D : va_G) (wc : va_W) (sz : Nat) (wn : T → va_W) : T → State → Prop := fun u t => va_P D vwCl (wn u) t.heap ∧ va_D (va_A wc sz) (wn u)
variable {wc wr wz : va_W} {wn : T → va_W}
/-- behind a call that writes its world wc (the places isC of the caller's ws): the new world at the end, in the order 'back' -/
theorem cW_i {post : Int32 → T → Prop} {aa : Array Value} (isC isR : List Nat) (hr : va_Run p l e R s m args below meth c H locs cells slots mc ms (F0 m pc ls st0) rest (va_Qi post (aft D wc H.size wn) (va_A wc H.size) aa) (va_A wc H.size)) (hP : va_P D vwCl ws H) (hD : va_D A ws) (hS : va_S A s.heap H locs) (hA : ∀ q : Nat, s.heap.size ≤ q → A q)
    (hC : isC.map (fun i => ws[i]?) = wc.map some) (hR : isR.map (fun i => ws[i]?) = wr.map some) (hn : va_nd isR = true) (hdis : ∀ i ∈ isR, i ∉ isC)
    (kk : ∀ (r : Int32) (u : T) (H1 : Heap) (locs1 : List Loc), post r u → va_P D vwCl (wr ++ wn u) H1 → va_D A (wr ++ wn u) → va_S A s.heap H1 locs1 → W p l e R s m args below meth c H1 locs1 (cells + mc) (slots + ms) Q (F0 m (pc + 3) ls (.int r :: rest))) : W p l e R s m args below meth c H locs cells slots Q (F0 m pc ls st0) := by
  have hF := va_free (wc := wc) hD hS hA isC hC
  refine va_calli hr hS (fun q _ h => hF q h) hF (fun r u t H1 locs1 ht hvm hw hB hz1 hk1 hS1 => ?_)
  obtain ⟨hP1, hD1⟩ := hB
  rw [ht] at hP1
  obtain ⟨hP, hD⟩ := va_join (wr := wr) (w1 := wn u) hP hD isC isR hC hR hn hdis hk1 hF hP1 hD1
  exact kk r u H1 locs1 hw hP hD hS1
theorem cW_l {post : Int64 → T → Prop} {aa : Array Value} (isC isR : List Nat) (hr : va_Run p l e R s m args below meth c H locs cells slots mc ms (F0 m pc ls st0) rest (va_Ql post (aft D wc H.size wn) (va_A wc H.size) aa) (va_A wc H.size)) (hP : va_P D vwCl ws H) (hD : va_D A ws) (hS : va_S A s.heap H locs) (hA : ∀ q : Nat, s.heap.size ≤ q → A q)
    (hC : isC.map (fun i => ws[i]?) = wc.map some) (hR : isR.map (fun i => ws[i]?) = wr.map some) (hn : va_nd isR = true) (hdis : ∀ i ∈ isR, i ∉ isC)
    (kk : ∀ (r : Int64) (u : T) (H1 : Heap) (locs1 : List Loc), post r u → va_P D vwCl (wr ++ wn u) H1 → va_D A (wr ++ wn u) → va_S A s.heap H1 locs1 → W p l e R s m args below meth c H1 locs1 (cells + mc) (slots + ms) Q (F0 m (pc + 3) ls (.long r :: rest))) : W p l e R s m args below meth c H locs cells slots Q (F0 m pc ls st0) := by
  have hF := va_free (wc := wc) hD hS hA isC hC
  refine va_calll hr hS (fun q _ h => hF q h) hF (fun r u t H1 locs1 ht hvm hw hB hz1 hk1 hS1 => ?_)
  obtain ⟨hP1, hD1⟩ := hB
  rw [ht] at hP1
  obtain ⟨hP, hD⟩ := va_join (wr := wr) (w1 := wn u) hP hD isC isR hC hR hn hdis hk1 hF hP1 hD1
  exact kk r u H1 locs1 hw hP hD hS1
theorem cW_v {post : T → Prop} {aa : Array Value} (isC isR : List Nat) (hr : va_Run p l e R s m args below meth c H locs cells slots mc ms (F0 m pc ls st0) rest (va_Qv post (aft D wc H.size wn) (va_A wc H.size) aa) (va_A wc H.size)) (hP : va_P D vwCl ws H) (hD : va_D A ws) (hS : va_S A s.heap H locs) (hA : ∀ q : Nat, s.heap.size ≤ q → A q)
    (hC : isC.map (fun i => ws[i]?) = wc.map some) (hR : isR.map (fun i => ws[i]?) = wr.map some) (hn : va_nd isR = true) (hdis : ∀ i ∈ isR, i ∉ isC)
    (kk : ∀ (u : T) (H1 : Heap) (locs1 : List Loc), post u → va_P D vwCl (wr ++ wn u) H1 → va_D A (wr ++ wn u) → va_S A s.heap H1 locs1 → W p l e R s m args below meth c H1 locs1 (cells + mc) (slots + ms) Q (F0 m (pc + 3) ls rest)) : W p l e R s m args below meth c H locs cells slots Q (F0 m pc ls st0) := by
  have hF := va_free (wc := wc) hD hS hA isC hC
  refine va_callv hr hS (fun q _ h => hF q h) hF (fun u t H1 locs1 ht hvm hw hB hz1 hk1 hS1 => ?_)
  obtain ⟨hP1, hD1⟩ := hB
  rw [ht] at hP1
  obtain ⟨hP, hD⟩ := va_join (wr := wr) (w1 := wn u) hP hD isC isR hC hR hn hdis hk1 hF hP1 hD1
  exact kk u H1 locs1 hw hP hD hS1
/-- behind a call that answers a cell that is known, and writes nothing -/
theorem cR_r {ra : Nat} {aa : Array Value} (hr : va_Run p l e R s m args below meth c H locs cells slots mc ms (F0 m pc ls st0) rest (va_Qr (fun _ : Unit => True) (fun _ b _ => b = ra) (fun _ => False) aa) (fun _ => False)) (hP : va_P D cl ws H) (hS : va_S A s.heap H locs)
    (kk : ∀ (H1 : Heap) (locs1 : List Loc), va_P D cl ws H1 → va_S A s.heap H1 locs1 → W p l e R s m args below meth c H1 locs1 (cells + mc) (slots + ms) Q (F0 m (pc + 3) ls (.ref ra :: rest))) : W p l e R s m args below meth c H locs cells slots Q (F0 m pc ls st0) := by
  refine va_callr hr hS (fun _ _ h => h.elim) (fun _ h => h.elim) (fun u b t H1 locs1 ht hvm hw hB hz1 hk1 hS1 => ?_)
  rw [hB]
  exact kk H1 locs1 (hP.kept (fun k q hk => hk1 q.1 (hP k q hk).lt (fun h => h))) hS1
end XC
/-! what a mirror's equation gives -/
theorem it_p {α : Type} {c : Prop} {i : Decidable c} {a b : Option α} {o : α} (hc : c) (h : @ite _ c i a b = some o) : a = some o := by rw [if_pos hc] at h; exact h
theorem it_n {α : Type} {c : Prop} {i : Decidable c} {a b : Option α} {o : α} (hc : ¬ c) (h : @ite _ c i a b = some o) : b = some o := by rw [if_neg hc] at h; exact h
theorem it_g {α : Type} {c : Prop} {i : Decidable c} {a : Option α} {o : α} (h : @ite _ c i a none = some o) : c ∧ a = some o := by
  by_cases hc : c
  · rw [if_pos hc] at h; exact ⟨hc, h⟩
  · rw [if_neg hc] at h; cases h
theorem bd_s {α β : Type} {a : Option β} {f : β → Option α} {o : α} (h : a.bind f = some o) : ∃ x, a = some x ∧ f x = some o := by
  cases a with
  | none => cases h
  | some x => exact ⟨x, rfl, h⟩
theorem it_x {α : Type} {c : Prop} {i : Decidable c} {a : Option α} {o : α} (h : @ite _ c i none a = some o) : ¬ c ∧ a = some o := by
  by_cases hc : c
  · rw [if_pos hc] at h; cases h
  · rw [if_neg hc] at h; exact ⟨hc, h⟩
/-! words of the mirrors -/
/-- an index that the machine refuses -/
abbrev bad (i : Int32) (n : Nat) : Prop := i < 0 ∨ n ≤ i.toNatClampNeg
abbrev ushr (x y : Int32) : Int32 := (x.toUInt32 >>> (y.toUInt32 &&& Int32.toUInt32 31)).toInt32
/-- CryptSums.read over a row of 36 -/
def rd (f : RowI) (i : Int32) : Int32 := if i < 0 then 0 else if (36 : Int32) ≤ i then 0 else f i.toNatClampNeg
/-- CryptSums.write over a row of 36 -/
def wr (f : RowI) (i v : Int32) : RowI := if i < 0 then f else if (36 : Int32) ≤ i then f else upd f i.toNatClampNeg v
def bc1 (x : Int32) : Int32 := x - (ushr x 1 &&& (1431655765 : Int32))
def bc2 (x : Int32) : Int32 := (x &&& (858993459 : Int32)) + (ushr x 2 &&& (858993459 : Int32))
def bc3 (x : Int32) : Int32 := (x + ushr x 4) &&& (252645135 : Int32)
def bc4 (x : Int32) : Int32 := x + ushr x 8
def bc5 (x : Int32) : Int32 := x + ushr x 16
/-- Integer.bitCount -/
def bc (x : Int32) : Int32 := bc5 (bc4 (bc3 (bc2 (bc1 x)))) &&& 63
def bz (r : Int32) : Prop := r = 0 ∨ r = 1
theorem nb_z {v : Int32} (h : bz v) : narrow .boolean (.int v) = .int v := by rcases h with rfl | rfl <;> rfl
theorem sw_out {x : Int32} (n : Nat) (h : ∀ k : Nat, k ≤ n → ¬ x = Int32.ofNat k) : x.toInt < 0 ∨ (n : Int) < x.toInt := by
  rcases Int.lt_or_le x.toInt 0 with h0 | h0
  · exact Or.inl h0
  · rcases Int.lt_or_le (n : Int) x.toInt with h1 | h1
    · exact Or.inr h1
    · exfalso
      refine h x.toInt.toNat (by omega) ?_
      apply Int32.toInt_inj.mp
      have h2 : x.toInt < 2147483648 := Int32.toInt_lt x
      rw [show Int32.ofNat x.toInt.toNat = nI x.toInt.toNat from rfl, nI_toInt (by omega)]
      omega
/-! the worlds -/
abbrev zw : va_W := []
abbrev pw (a : Nat → Nat) (cI cJ : ClassId) (su : RowJ) : va_W := [(a 10, .inr (2, [.ref (a 11)])), (a 11, .inl (cJ, 3584, .inr (.inl su)))]
abbrev fw (a : Nat → Nat) (cI cJ : ClassId) (st : RowI) (co ro : Int32) (cA cD : CS) (su : RowJ) (jA jD : JT) : va_W :=
  [(a 0, .inr (1, [.ref (a 1), .ref (a 2), .ref (a 3), .int co, .int ro])), (a 1, .inl (cI, 36, .inl st)),
   (a 2, .inr (0, [.ref (a 1), .ref (a 10), .ref (a 4), .ref (a 5), .ref (a 6), .int cA.2.2.2, .int jA.1, .int jA.2.1, .int jA.2.2])),
   (a 3, .inr (0, [.ref (a 1), .ref (a 10), .ref (a 7), .ref (a 8), .ref (a 9), .int cD.2.2.2, .int jD.1, .int jD.2.1, .int jD.2.2])),
   (a 4, .inl (cI, 36, .inl cA.1)), (a 5, .inl (cI, 36, .inl cA.2.1)), (a 6, .inl (cI, 36, .inl cA.2.2.1)),
   (a 7, .inl (cI, 36, .inl cD.1)), (a 8, .inl (cI, 36, .inl cD.2.1)), (a 9, .inl (cI, 36, .inl cD.2.2.1)),
   (a 10, .inr (2, [.ref (a 11)])), (a 11, .inl (cJ, 3584, .inr (.inl su)))]
abbrev xw (a : Nat → Nat) (cI cJ : ClassId) (ho ke : RowI) (hc tr fo fr : Int32) (st : RowI) (co ro : Int32) (cA cD : CS) (su : RowJ) (jA jD : JT) : va_W :=
  (a 12, .inr (3, [.ref (a 0), .ref (a 13), .ref (a 14), .int hc, .int tr, .int fo, .int fr])) :: (a 13, .inl (cI, 36, .inl ho)) :: (a 14, .inl (cI, 36, .inl ke)) :: (a 15, .inr (4, [.ref (a 0), .ref (a 12)])) :: fw a cI cJ st co ro cA cD su jA jD
