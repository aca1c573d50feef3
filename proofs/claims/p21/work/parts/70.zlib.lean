/-! ===== the law's own objects: its floor Sim (three rows of rows, any size), arrays made on the way ===== -/
abbrev RowR : Type := Nat → RowI
abbrev tysZ (cI cJ cB cM : ClassId) : List (ClassId × FieldType) := [(cI, .int), (cJ, .long), (cB, .boolean), (cM, .array .int)]
def updR (g : RowR) (i : Nat) (x : RowI) : RowR := fun j => if j = i then x else g j
/-- one grid's rows -/
def rws (cI : ClassId) (W H : Nat) (r : Nat → Nat) (g : RowR) : va_W := (List.range H).map (fun i => (r i, .inl (cI, W, .inl (g i))))
abbrev zpl (cI : ClassId) (W H : Nat) (r : Nat → Nat → Nat) (gS gA gD : RowR) : va_W := rws cI W H (r 0) gS ++ (rws cI W H (r 1) gA ++ rws cI W H (r 2) gD)
def gq (H : Nat) (r : Nat → Nat) : Nat → Option Nat := fun i => if i < H then some (r i) else none
abbrev z4 (c : Nat → Nat) (cM : ClassId) (wI hI : Int32) (H : Nat) (r : Nat → Nat → Nat) : va_W :=
  [(c 0, .inr (5, [.int wI, .int hI, .ref (c 1), .ref (c 2), .ref (c 3), .int 0, .int 0, .null])), (c 1, .inl (cM, H, .inr (.inr (.inr (.inr (gq H (r 0))))))), (c 2, .inl (cM, H, .inr (.inr (.inr (.inr (gq H (r 1))))))), (c 3, .inl (cM, H, .inr (.inr (.inr (.inr (gq H (r 2)))))))]
theorem rws_len (cI : ClassId) (W H : Nat) (r : Nat → Nat) (g : RowR) : (rws cI W H r g).length = H := by simp [rws]
theorem rws_get {cI : ClassId} {W H : Nat} {r : Nat → Nat} {g : RowR} {i : Nat} (h : i < H) : (rws cI W H r g)[i]? = some (r i, .inl (cI, W, .inl (g i))) := by simp [rws, h]
theorem rws_set {cI : ClassId} {W H : Nat} {r : Nat → Nat} {g : RowR} {i : Nat} (x : RowI) : (rws cI W H r g).set i (r i, .inl (cI, W, .inl x)) = rws cI W H r (updR g i x) := by
  apply List.ext_getElem?
  intro j
  by_cases hj : j < H
  · rw [List.getElem?_set, rws_len]
    by_cases e : i = j
    · subst e; rw [if_pos rfl, if_pos hj, rws_get hj]; simp [updR]
    · rw [if_neg e, rws_get hj, rws_get hj]; simp [updR, show ¬ j = i from fun q => e q.symm]
  · rw [List.getElem?_eq_none (by rw [List.length_set, rws_len]; omega), List.getElem?_eq_none (by rw [rws_len]; omega)]
section ZG
variable {cI : ClassId} {W H : Nat} {r : Nat → Nat → Nat} {gS gA gD : RowR} {i : Nat}
theorem row0 (X : va_W) (h : i < H) : (X ++ zpl cI W H r gS gA gD)[X.length + i]? = some (r 0 i, .inl (cI, W, .inl (gS i))) := by
  rw [List.getElem?_append_right (by omega), Nat.add_sub_cancel_left, List.getElem?_append_left (by rw [rws_len]; exact h), rws_get h]
theorem row1 (X : va_W) (h : i < H) : (X ++ zpl cI W H r gS gA gD)[X.length + (H + i)]? = some (r 1 i, .inl (cI, W, .inl (gA i))) := by
  rw [List.getElem?_append_right (by omega), Nat.add_sub_cancel_left, List.getElem?_append_right (by rw [rws_len]; omega), rws_len, Nat.add_sub_cancel_left, List.getElem?_append_left (by rw [rws_len]; exact h), rws_get h]
theorem row2 (X : va_W) (h : i < H) : (X ++ zpl cI W H r gS gA gD)[X.length + (H + (H + i))]? = some (r 2 i, .inl (cI, W, .inl (gD i))) := by
  rw [List.getElem?_append_right (by omega), Nat.add_sub_cancel_left, List.getElem?_append_right (by rw [rws_len]; omega), rws_len, Nat.add_sub_cancel_left, List.getElem?_append_right (by rw [rws_len]; omega), rws_len, Nat.add_sub_cancel_left, rws_get h]
theorem set0 (X : va_W) (h : i < H) (x : RowI) : (X ++ zpl cI W H r gS gA gD).set (X.length + i) (r 0 i, .inl (cI, W, .inl x)) = X ++ zpl cI W H r (updR gS i x) gA gD := by
  rw [List.set_append_right (X.length + i) _ (by omega), Nat.add_sub_cancel_left, List.set_append_left i _ (by rw [rws_len]; exact h), rws_set]
theorem set1 (X : va_W) (h : i < H) (x : RowI) : (X ++ zpl cI W H r gS gA gD).set (X.length + (H + i)) (r 1 i, .inl (cI, W, .inl x)) = X ++ zpl cI W H r gS (updR gA i x) gD := by
  rw [List.set_append_right _ _ (by omega), Nat.add_sub_cancel_left, List.set_append_right _ _ (by rw [rws_len]; omega), rws_len, Nat.add_sub_cancel_left, List.set_append_left i _ (by rw [rws_len]; exact h), rws_set]
theorem set2 (X : va_W) (h : i < H) (x : RowI) : (X ++ zpl cI W H r gS gA gD).set (X.length + (H + (H + i))) (r 2 i, .inl (cI, W, .inl x)) = X ++ zpl cI W H r gS gA (updR gD i x) := by
  rw [List.set_append_right _ _ (by omega), Nat.add_sub_cancel_left, List.set_append_right _ _ (by rw [rws_len]; omega), rws_len, Nat.add_sub_cancel_left, List.set_append_right _ _ (by rw [rws_len]; omega), rws_len, Nat.add_sub_cancel_left, rws_set]
end ZG
theorem lt_in {i : Int32} {n : Nat} (h : vp_in i n) : i.toNatClampNeg < n := Nat.not_le.mp fun q => h (Or.inr q)
/-- what holds of the tables at any time -/
def NZ (U : State) : Prop := NS U ∧ va_AOA .int U ∧ va_Nw (.methodLinkNest RL 60 yX5_init RL) U
theorem NZ.warm {s U : State} (hW : s.WarmedH U.vm) (h : NZ s) : NZ U := ⟨h.1.warm hW, h.2.1.moved hW.alike, va_Nw.warmM hW h.2.2⟩
theorem NZ.same {s U : State} (hv : s.vm = U.vm) (h : NZ s) : NZ U := ⟨NS.same hv h.1, h.2.1.moved (by rw [hv]; exact Vm.Alike.refl U.vm), va_Nw.same rfl hv h.2.2⟩
def PreZ (D : va_G) (cI cJ cB cM : ClassId) (ws : va_W) (sz : Nat) (U : State) : Prop := U.heap.size = sz ∧ va_P D vwCl ws U.heap ∧ va_K D vwCl (tysZ cI cJ cB cM) U ∧ va_D (fun _ => True) ws ∧ NZ U
theorem PreZ.blind (D : va_G) (cI cJ cB cM : ClassId) (ws : va_W) (sz : Nat) (av : List Value) : FrameBlind (va_Pc av (PreZ D cI cJ cB cM ws sz)) := by
  rintro a U g mk ⟨h1, h2, h3, h4, h5, h6⟩
  exact ⟨h1, h2, h3, va_K.moved (u := U) (U := U.calling g mk a) (Vm.Alike.refl U.vm) h4, h5, NZ.same (s := U) (U := U.calling g mk a) rfl h6⟩
theorem PreZ.ent {D : va_G} {cI cJ cB cM : ClassId} {ws : va_W} {av : List Value} {s U : State} {H : Heap} {A : Nat → Prop} (hN : NZ s) (hK : va_K D vwCl (tysZ cI cJ cB cM) s) (hP : va_P D vwCl ws H) (hD : va_D A ws) (hU : U.heap = H) (hW : s.WarmedH U.vm) : va_Pc av (PreZ D cI cJ cB cM ws H.size) av.toArray U :=
  ⟨rfl, by rw [hU], by rw [hU]; exact hP, va_K.moved hW.alike hK, hD.weaken (fun _ _ _ _ => trivial), NZ.warm hW hN⟩
theorem preSZ {D : va_G} {cI cJ cB cM : ClassId} {ws : va_W} {s : State} {H : Heap} {A : Nat → Prop} (As : List Value) (hN : NZ s) (hK : va_K D vwCl (tysZ cI cJ cB cM) s) (hP : va_P D vwCl ws H) (hD : va_D A ws) : PreS s H (va_Pc As (PreZ D cI cJ cB cM ws H.size)) As :=
  ⟨PreZ.blind D cI cJ cB cM ws H.size As, fun _ hU hW => PreZ.ent hN hK hP hD hU hW⟩
theorem preVZ {D : va_G} {cI cJ cB cM : ClassId} {ws : va_W} {s : State} {H : Heap} {A : Nat → Prop} {b q0 ci : Nat} {q : vw_C} {fs : List Value} (As : List Value) (hN : NZ s) (hK : va_K D vwCl (tysZ cI cJ cB cM) s) (hP : va_P D vwCl ws H) (hD : va_D A ws) (hc : vwCl[ci]? = some q) (he : ws[q0]? = some (b, .inr (ci, fs))) : PreV s H q.1 b (va_Pc (.ref b :: As) (PreZ D cI cJ cB cM ws H.size)) As :=
  ⟨PreZ.blind D cI cJ cB cM ws H.size (.ref b :: As), va_recv hK hP hc he, fun _ hU hW => PreZ.ent hN hK hP hD hU hW⟩
/-- the header of a contract over a floor of the law -/
theorem xofZ {l : Launch} {y : MethodName} {ws ws' : List Cond} {rm : Room} {av : List Value} {D : va_G} {cI cJ cB cM : ClassId} {w : va_W} {sz : Nat} {Qc : Array Value → State → Outcome → State → Prop} {mc ms : Nat} {cc : ByteArray} {maxL : Nat} {ret : Option FieldType} (hw : ws = Cond.code y cc maxL ret :: ws') (hy : plainName y.cls = true) (hlen : Nat.ble (lg_sl av).length maxL = true)
    (body : ∀ (p : Program) (e : Env) (s : State) (m : MethodId) (args : Array Value) (below : List Frame) (meth : Method) (c : Code) (ls : Array Slot) (Q : State → Prop) (A : Nat → Prop), Q = MQ below Qc args s mc ms (va_A w sz) → A = va_A w sz → p.tables.exec = Jvm.exec → c.code = cc → meth.sig.returnType = ret → c.maxLocals = maxL → s.vm.findClass y.cls = some m.cls → (∀ w ∈ ws, w.before args s = true) → meth.locks = false → meth.name = y.name → NZ s → va_K D vwCl (tysZ cI cJ cB cM) s → ∀ (H : Heap) (locs : List Loc), va_P D vwCl w H → va_D A w → va_S A s.heap H locs → (∀ q : Nat, s.heap.size ≤ q → A q) → lv_has ls maxL (lv_args 0 av) →
      W p l e rm s m args below meth c H locs 0 0 Q (F0 m 0 ls [])) : Met l y ws rm (va_Pc av (PreZ D cI cJ cB cM w sz)) Qc mc ms (va_A w sz) := by
  refine Met.ofW (cc := cc) (maxL := maxL) (ret := ret) hy hw ?_
  intro p e s m args below meth c s₁ B hml hv
  obtain ⟨rfl, hsz, hP, hK, hD0, hN⟩ := hv
  subst hsz
  have hl := lv_entry av (n := maxL) (Nat.le_of_ble_eq_true hlen)
  rw [lg_entry_eq]
  exact body p e s m _ below meth c _ _ _ rfl rfl B.exec B.bytes B.returns hml (findClass_of_methodNamed B.named) (atoms_spec (ws := ws) B.pre) B.notSynchronized (name_of_methodNamed B.named B.method).1 hN hK _ _ hP hD0.self va_S.rf (fun q h => Or.inr h) hl
section ZC
variable {p : Program} {l : Launch} {e : Env} {R : Room} {s : State} {m : MethodId} {args : Array Value} {below : List Frame} {meth : Method} {c : Code} {H : Heap} {locs : List Loc} {cells slots mc ms pc : Nat} {Q : State → Prop} {ls : Array Slot} {st0 rest : List Value} {A : Addr → Prop} {D : va_G} {X cx wr pl : va_W} {T : Type} {cI cJ cB cM : ClassId} {cc : ByteArray}
/-- behind a call that had the pool -/
theorem cP_i {rx pl1 : T → va_W} {post : Int32 → T → Prop} {aa : Array Value} (isC isR : List Nat) (hr : va_Run p l e R s m args below meth c H locs cells slots mc ms (F0 m pc ls st0) rest (va_Qi post (aft D (cx ++ pl) H.size (fun u => rx u ++ pl1 u)) (va_A (cx ++ pl) H.size) aa) (va_A (cx ++ pl) H.size)) (hP : va_P D vwCl (X ++ pl) H) (hD : va_D A (X ++ pl)) (hS : va_S A s.heap H locs) (hA : ∀ q : Nat, s.heap.size ≤ q → A q)
    (hC : isC.map (fun i => X[i]?) = cx.map some) (hR : isR.map (fun i => X[i]?) = wr.map some) (hn : va_nd isR = true) (hdis : ∀ i ∈ isR, i ∉ isC)
    (kk : ∀ (r : Int32) (u : T) (H1 : Heap) (locs1 : List Loc), post r u → va_P D vwCl ((wr ++ rx u) ++ pl1 u) H1 → va_D A ((wr ++ rx u) ++ pl1 u) → va_S A s.heap H1 locs1 → W p l e R s m args below meth c H1 locs1 (cells + mc) (slots + ms) Q (F0 m (pc + 3) ls (.int r :: rest))) : W p l e R s m args below meth c H locs cells slots Q (F0 m pc ls st0) := by
  have hF := va_freeP (cx := cx) hD hS hA isC hC
  refine va_calli hr hS (fun q _ h => hF q h) hF (fun r u t H1 locs1 ht hvm hw hB hz1 hk1 hS1 => ?_)
  obtain ⟨hP1, hD1⟩ := hB
  rw [ht] at hP1
  obtain ⟨hP, hD⟩ := va_joinP (wr := wr) hP hD isC isR hC hR hn hdis hk1 hF hP1 hD1
  exact kk r u H1 locs1 hw hP hD hS1
theorem cP_r {rx pl1 : T → Nat → va_W} {post : T → Prop} {aa : Array Value} (isC isR : List Nat) (hr : va_Run p l e R s m args below meth c H locs cells slots mc ms (F0 m pc ls st0) rest (va_Qr post (fun u b t => va_P D vwCl (rx u b ++ pl1 u b) t.heap ∧ va_D (va_A (cx ++ pl) H.size) (rx u b ++ pl1 u b)) (va_A (cx ++ pl) H.size) aa) (va_A (cx ++ pl) H.size)) (hP : va_P D vwCl (X ++ pl) H) (hD : va_D A (X ++ pl)) (hS : va_S A s.heap H locs) (hA : ∀ q : Nat, s.heap.size ≤ q → A q)
    (hC : isC.map (fun i => X[i]?) = cx.map some) (hR : isR.map (fun i => X[i]?) = wr.map some) (hn : va_nd isR = true) (hdis : ∀ i ∈ isR, i ∉ isC)
    (kk : ∀ (u : T) (b : Nat) (H1 : Heap) (locs1 : List Loc), post u → va_P D vwCl ((wr ++ rx u b) ++ pl1 u b) H1 → va_D A ((wr ++ rx u b) ++ pl1 u b) → va_S A s.heap H1 locs1 → W p l e R s m args below meth c H1 locs1 (cells + mc) (slots + ms) Q (F0 m (pc + 3) ls (.ref b :: rest))) : W p l e R s m args below meth c H locs cells slots Q (F0 m pc ls st0) := by
  have hF := va_freeP (cx := cx) hD hS hA isC hC
  refine va_callr hr hS (fun q _ h => hF q h) hF (fun u b t H1 locs1 ht hvm hw hB hz1 hk1 hS1 => ?_)
  obtain ⟨hP1, hD1⟩ := hB
  rw [ht] at hP1
  obtain ⟨hP, hD⟩ := va_joinP (wr := wr) hP hD isC isR hC hR hn hdis hk1 hF hP1 hD1
  exact kk u b H1 locs1 hw hP hD hS1
/-- behind a call that had no pool -/
theorem cQ_i {wn : T → va_W} {post : Int32 → T → Prop} {aa : Array Value} (isC isR : List Nat) (hr : va_Run p l e R s m args below meth c H locs cells slots mc ms (F0 m pc ls st0) rest (va_Qi post (aft D cx H.size wn) (va_A cx H.size) aa) (va_A cx H.size)) (hP : va_P D vwCl (X ++ pl) H) (hD : va_D A (X ++ pl)) (hS : va_S A s.heap H locs) (hA : ∀ q : Nat, s.heap.size ≤ q → A q)
    (hC : isC.map (fun i => X[i]?) = cx.map some) (hR : isR.map (fun i => X[i]?) = wr.map some) (hn : va_nd isR = true) (hdis : ∀ i ∈ isR, i ∉ isC)
    (kk : ∀ (r : Int32) (u : T) (H1 : Heap) (locs1 : List Loc), post r u → va_P D vwCl ((wr ++ wn u) ++ pl) H1 → va_D A ((wr ++ wn u) ++ pl) → va_S A s.heap H1 locs1 → W p l e R s m args below meth c H1 locs1 (cells + mc) (slots + ms) Q (F0 m (pc + 3) ls (.int r :: rest))) : W p l e R s m args below meth c H locs cells slots Q (F0 m pc ls st0) := by
  have hF : ∀ q, va_A cx H.size q → A q := fun q h => va_freeP (cx := cx) hD hS hA isC hC q (h.elim (fun ⟨k, e, g⟩ => Or.inl ⟨k, e, by rw [List.getElem?_append_left (List.getElem?_eq_some_iff.mp g).1]; exact g⟩) Or.inr)
  refine va_calli hr hS (fun q _ h => hF q h) hF (fun r u t H1 locs1 ht hvm hw hB hz1 hk1 hS1 => ?_)
  obtain ⟨hP1, hD1⟩ := hB
  rw [ht] at hP1
  obtain ⟨hP, hD⟩ := va_joinQ (wr := wr) hP hD isC isR hC hR hn hdis hk1 hF hP1 hD1
  exact kk r u H1 locs1 hw hP hD hS1
theorem cQ_l {wn : T → va_W} {post : Int64 → T → Prop} {aa : Array Value} (isC isR : List Nat) (hr : va_Run p l e R s m args below meth c H locs cells slots mc ms (F0 m pc ls st0) rest (va_Ql post (aft D cx H.size wn) (va_A cx H.size) aa) (va_A cx H.size)) (hP : va_P D vwCl (X ++ pl) H) (hD : va_D A (X ++ pl)) (hS : va_S A s.heap H locs) (hA : ∀ q : Nat, s.heap.size ≤ q → A q)
    (hC : isC.map (fun i => X[i]?) = cx.map some) (hR : isR.map (fun i => X[i]?) = wr.map some) (hn : va_nd isR = true) (hdis : ∀ i ∈ isR, i ∉ isC)
    (kk : ∀ (r : Int64) (u : T) (H1 : Heap) (locs1 : List Loc), post r u → va_P D vwCl ((wr ++ wn u) ++ pl) H1 → va_D A ((wr ++ wn u) ++ pl) → va_S A s.heap H1 locs1 → W p l e R s m args below meth c H1 locs1 (cells + mc) (slots + ms) Q (F0 m (pc + 3) ls (.long r :: rest))) : W p l e R s m args below meth c H locs cells slots Q (F0 m pc ls st0) := by
  have hF : ∀ q, va_A cx H.size q → A q := fun q h => va_freeP (cx := cx) hD hS hA isC hC q (h.elim (fun ⟨k, e, g⟩ => Or.inl ⟨k, e, by rw [List.getElem?_append_left (List.getElem?_eq_some_iff.mp g).1]; exact g⟩) Or.inr)
  refine va_calll hr hS (fun q _ h => hF q h) hF (fun r u t H1 locs1 ht hvm hw hB hz1 hk1 hS1 => ?_)
  obtain ⟨hP1, hD1⟩ := hB
  rw [ht] at hP1
  obtain ⟨hP, hD⟩ := va_joinQ (wr := wr) hP hD isC isR hC hR hn hdis hk1 hF hP1 hD1
  exact kk r u H1 locs1 hw hP hD hS1
theorem cQ_d {d0 : Drawn} (hd0 : s.drawn.sameBut d0 lw_cs) {wn : T → va_W} {post : UInt64 → T → Prop} {aa : Array Value} (isC isR : List Nat) (hr : va_RunD lw_cs p l e R (s.setDrawn d0) m args below meth c H locs cells slots mc ms (F0 m pc ls st0) rest (va_Qd post (aft D cx H.size wn) (va_A cx H.size) aa) (va_A cx H.size)) (hP : va_P D vwCl (X ++ pl) H) (hD : va_D A (X ++ pl)) (hS : va_S A s.heap H locs) (hA : ∀ q : Nat, s.heap.size ≤ q → A q)
    (hC : isC.map (fun i => X[i]?) = cx.map some) (hR : isR.map (fun i => X[i]?) = wr.map some) (hn : va_nd isR = true) (hdis : ∀ i ∈ isR, i ∉ isC)
    (kk : ∀ (r : UInt64) (u : T) (H1 : Heap) (locs1 : List Loc), post r u → va_P D vwCl ((wr ++ wn u) ++ pl) H1 → va_D A ((wr ++ wn u) ++ pl) → va_S A s.heap H1 locs1 → ∀ d' : Drawn, s.drawn.sameBut d' lw_cs → W p l e R (s.setDrawn d') m args below meth c H1 locs1 (cells + mc) (slots + ms) Q (F0 m (pc + 3) ls (.double r :: rest))) : W p l e R (s.setDrawn d0) m args below meth c H locs cells slots Q (F0 m pc ls st0) := by
  have hF : ∀ q, va_A cx H.size q → A q := fun q h => va_freeP (cx := cx) hD hS hA isC hC q (h.elim (fun ⟨k, e, g⟩ => Or.inl ⟨k, e, by rw [List.getElem?_append_left (List.getElem?_eq_some_iff.mp g).1]; exact g⟩) Or.inr)
  refine va_calldD hd0 hr hS (fun q _ h => hF q h) hF (fun r u t H1 locs1 ht hvm hw hB hz1 hk1 hS1 d' hd' => ?_)
  obtain ⟨hP1, hD1⟩ := hB
  rw [ht] at hP1
  obtain ⟨hP, hD⟩ := va_joinQ (wr := wr) hP hD isC isR hC hR hn hdis hk1 hF hP1 hD1
  exact kk r u H1 locs1 hw hP hD hS1 d' hd'
/-- behind a call of the class that may throw -/
theorem cTQ_i {wn : T → va_W} {post : Int32 → T → Prop} {px : String → Prop} {aa : Array Value} (isC isR : List Nat) (hr : vx_Run p l e R s m args below meth c H locs cells slots mc ms (F0 m pc ls st0) rest (va_Qi post (aft D cx H.size wn) (va_A cx H.size) aa) (aftX D px cx H.size) (va_A cx H.size)) (hP : va_P D vwCl (X ++ pl) H) (hD : va_D A (X ++ pl)) (hS : va_S A s.heap H locs) (hA : ∀ q : Nat, s.heap.size ≤ q → A q)
    (hC : isC.map (fun i => X[i]?) = cx.map some) (hR : isR.map (fun i => X[i]?) = wr.map some) (hn : va_nd isR = true) (hdis : ∀ i ∈ isR, i ∉ isC)
    (kx : ∀ (E : String) (ce : Cell) (q9 : Addr) (H1 : Heap) (locs1 : List Loc), px E → va_P D vwCl ((wr ++ cx) ++ pl) H1 → va_D A ((wr ++ cx) ++ pl) → va_S A s.heap H1 locs1 → H1[q9]? = some ce → ce.vm = .none → s.vm.findClass E = some ce.cls → vx_W p l e R s m args below meth c H1 locs1 (cells + mc) (slots + ms) Q (F0 m pc ls rest) q9)
    (kk : ∀ (r : Int32) (u : T) (H1 : Heap) (locs1 : List Loc), post r u → va_P D vwCl ((wr ++ wn u) ++ pl) H1 → va_D A ((wr ++ wn u) ++ pl) → va_S A s.heap H1 locs1 → W p l e R s m args below meth c H1 locs1 (cells + mc) (slots + ms) Q (F0 m (pc + 3) ls (.int r :: rest))) : W p l e R s m args below meth c H locs cells slots Q (F0 m pc ls st0) := by
  have hF : ∀ q, va_A cx H.size q → A q := fun q h => va_freeP (cx := cx) hD hS hA isC hC q (h.elim (fun ⟨k, e, g⟩ => Or.inl ⟨k, e, by rw [List.getElem?_append_left (List.getElem?_eq_some_iff.mp g).1]; exact g⟩) Or.inr)
  refine vx_calli hr hS (fun q _ h => hF q h) hF (fun q _ h => hF q h) (fun E ce q9 u t H1 locs1 ht hvm hp hB hz1 hk1 hS1 h1 h2 h3 => ?_) (fun r u t H1 locs1 ht hvm hw hB hz1 hk1 hS1 => ?_)
  · obtain ⟨hE, hP1, hD1⟩ := hB
    rw [ht] at hP1
    obtain ⟨hP2, hD2⟩ := va_joinQ (wr := wr) hP hD isC isR hC hR hn hdis hk1 hF hP1 hD1
    exact kx E ce q9 H1 locs1 hE hP2 hD2 hS1 h1 h2 h3
  · obtain ⟨hP1, hD1⟩ := hB
    rw [ht] at hP1
    obtain ⟨hP, hD⟩ := va_joinQ (wr := wr) hP hD isC isR hC hR hn hdis hk1 hF hP1 hD1
    exact kk r u H1 locs1 hw hP hD hS1
/-- a row of rows is read -/
theorem z_aald (hx : p.tables.exec = Jvm.exec) (hb : c.code = cc) {ws : va_W} {a : Nat} (hK : va_K D vwCl (tysZ cI cJ cB cM) s) (hP : va_P D vwCl ws H) (q0 : Nat) {n : Nat} {r : Nat → Nat} (ha : ws[q0]? = some (a, .inl (cM, n, .inr (.inr (.inr (.inr (gq n r))))))) {i : Int32} (hin : vp_in i n) (hdg : decode cc pc = .ok (.aaload, 1))
    (kk : W p l e R s m args below meth c H locs cells slots Q (F0 m (pc + 1) ls (.ref (r i.toNatClampNeg) :: rest))) : W p l e R s m args below meth c H locs cells slots Q (F0 m pc ls (.int i :: .ref a :: rest)) := by
  have hlt : i.toNatClampNeg < n := Nat.not_le.mp fun q => hin (Or.inr q)
  have hv : va_rf (gq n r i.toNatClampNeg) = .ref (r i.toNatClampNeg) := by unfold gq; rw [if_pos hlt]; rfl
  exact W.aald (v := .ref (r i.toNatClampNeg)) (ty := .array .int) hx hb (hP q0 _ ha) ((hK.2 3 _ rfl).1 n (fun j => va_rf (gq n r j))) rfl (fun q => by cases q) (by show ¬ (i < 0 ∨ (arrV _ _ _).slots.size ≤ _); rw [arrV_size]; exact hin) (by show (arrV _ _ _).slots[_]? = _; rw [arrV_read _ _ hlt, hv]) rfl rfl hdg kk
/-- makings -/
theorem newIZ (hx : p.tables.exec = Jvm.exec) (hb : c.code = cc) {ws : va_W} (harr : (Cond.arrayClass .int).before args s = true) (hK : va_K D vwCl (tysZ cI cJ cB cM) s) (hP : va_P D vwCl ws H) (hD : va_D A ws) (hS : va_S A s.heap H locs) (hA : ∀ q : Nat, s.heap.size ≤ q → A q) {n : Int32} (N' : Nat) (hn : ¬ n < 0) (hN : n.toNatClampNeg = N') (hbytes : N' * componentBytes .int ≤ 536870912) (hcells : cells + 1 ≤ R.cells) (hslots : slots + N' ≤ R.slots) (hdg : decode cc pc = .ok (.newarray .int, 2))
    (kk : ∀ (q : Nat) (H1 : Heap), va_P D vwCl (ws ++ [(q, .inl (cI, N', .inl (fun _ => 0)))]) H1 → va_D A (ws ++ [(q, .inl (cI, N', .inl (fun _ => 0)))]) → va_S A s.heap H1 locs → W p l e R s m args below meth c H1 locs (cells + 1) (slots + N') Q (F0 m (pc + 2) ls (.ref q :: rest))) : W p l e R s m args below meth c H locs cells slots Q (F0 m pc ls (.int n :: rest)) := by
  refine va_newa (atype := .int) hx hb harr rfl hK hP hD hS hA (a0 := (N', .inl (fun _ => 0))) (fun _ => rfl) hn hN hbytes hcells hslots hdg (fun q cA H1 hK1 hP1 hD1 hS1 => ?_)
  have h1 := (hK.2 0 (cI, .int) rfl).2
  have h2 := (hK1.2 4 (cA, .int) rfl).2
  have he : cA = cI := Option.some.inj (h2.symm.trans h1)
  subst he
  exact kk q H1 hP1 hD1 hS1
theorem newBZ (hx : p.tables.exec = Jvm.exec) (hb : c.code = cc) {ws : va_W} (harr : (Cond.arrayClass .boolean).before args s = true) (hK : va_K D vwCl (tysZ cI cJ cB cM) s) (hP : va_P D vwCl ws H) (hD : va_D A ws) (hS : va_S A s.heap H locs) (hA : ∀ q : Nat, s.heap.size ≤ q → A q) {n : Int32} (N' : Nat) (hn : ¬ n < 0) (hN : n.toNatClampNeg = N') (hbytes : N' * componentBytes .boolean ≤ 536870912) (hcells : cells + 1 ≤ R.cells) (hslots : slots + N' ≤ R.slots) (hdg : decode cc pc = .ok (.newarray .boolean, 2))
    (kk : ∀ (q : Nat) (H1 : Heap), va_P D vwCl (ws ++ [(q, .inl (cB, N', .inl (fun _ => 0)))]) H1 → va_D A (ws ++ [(q, .inl (cB, N', .inl (fun _ => 0)))]) → va_S A s.heap H1 locs → W p l e R s m args below meth c H1 locs (cells + 1) (slots + N') Q (F0 m (pc + 2) ls (.ref q :: rest))) : W p l e R s m args below meth c H locs cells slots Q (F0 m pc ls (.int n :: rest)) := by
  refine va_newa (atype := .boolean) hx hb harr rfl hK hP hD hS hA (a0 := (N', .inl (fun _ => 0))) (fun _ => rfl) hn hN hbytes hcells hslots hdg (fun q cA H1 hK1 hP1 hD1 hS1 => ?_)
  have h1 := (hK.2 2 (cB, .boolean) rfl).2
  have h2 := (hK1.2 4 (cA, .boolean) rfl).2
  have he : cA = cB := Option.some.inj (h2.symm.trans h1)
  subst he
  exact kk q H1 hP1 hD1 hS1
end ZC
theorem KX {D : va_G} {cI cJ cB cM : ClassId} {s : State} (h : va_K D vwCl (tysZ cI cJ cB cM) s) : va_K D vwCl (tysX cI cJ) s := h.sub [0, 1] rfl
