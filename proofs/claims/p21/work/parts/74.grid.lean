/-! ===== new rows of rows: Sim's constructor, and a new floor of the law ===== -/
theorem str_II : "[" ++ (FieldType.array FieldType.int).toString = "[[I" := by decide
theorem inner_0 (c : ClassId) (K : Nat) : Jvm.Free.Multi.innerC c K (defaultValue FieldType.int) = vp_cell c (K, .inl (fun _ => 0)) := by
  show ({ cls := c, slots := Array.replicate K (.int 0), vm := .none } : Cell) = _
  rw [arrV_new]
  rfl
theorem pool3 {cI : ClassId} {K n : Nat} {f : Nat → va_E} (r1 r2 r3 : Nat → Nat) :
    va_pl ((([] ++ (List.range n).map r1) ++ (List.range n).map r2) ++ (List.range n).map r3) (vr_up (vr_up (vr_up f ((List.range n).map r1) (.inl (cI, K, .inl (fun _ => 0)))) ((List.range n).map r2) (.inl (cI, K, .inl (fun _ => 0)))) ((List.range n).map r3) (.inl (cI, K, .inl (fun _ => 0)))) = zpl cI K n (fun k => match k with | 0 => r1 | 1 => r2 | _ => r3) (fun _ _ => 0) (fun _ _ => 0) (fun _ _ => 0) := by
  have h : ∀ a, a ∈ (([] ++ (List.range n).map r1) ++ (List.range n).map r2) ++ (List.range n).map r3 → (vr_up (vr_up (vr_up f ((List.range n).map r1) (.inl (cI, K, .inl (fun _ => 0)))) ((List.range n).map r2) (.inl (cI, K, .inl (fun _ => 0)))) ((List.range n).map r3) (.inl (cI, K, .inl (fun _ => 0)))) a = .inl (cI, K, .inl (fun _ => 0)) := by
    intro a ha
    by_cases h3 : a ∈ (List.range n).map r3
    · exact vr_up_in h3
    · rw [vr_up_ne h3]
      by_cases h2 : a ∈ (List.range n).map r2
      · exact vr_up_in h2
      · rw [vr_up_ne h2]
        by_cases h1 : a ∈ (List.range n).map r1
        · exact vr_up_in h1
        · exfalso
          rcases List.mem_append.mp ha with q | q
          · rcases List.mem_append.mp q with q | q
            · exact h1 (by simpa using q)
            · exact h2 q
          · exact h3 q
  unfold va_pl
  rw [List.map_congr_left (g := fun a => (a, (.inl (cI, K, .inl (fun _ => 0)) : va_E))) (fun a ha => by rw [h a ha])]
  rw [List.map_append, List.map_append, List.nil_append, List.map_map, List.map_map, List.map_map, List.append_assoc]
  rfl
section GR
variable {p : Program} {l : Launch} {e : Env} {R : Room} {s : State} {m : MethodId} {args : Array Value} {below : List Frame} {meth : Method} {c0 : Code} {H : Heap} {locs : List Loc} {cells slots pc : Nat} {Q : State → Prop} {ls : Array Slot} {rest : List Value} {A : Addr → Prop} {D : va_G} {cI cJ cB cM : ClassId} {cc : ByteArray}
theorem mnaZ {X : va_W} {L : List Nat} {f : Nat → va_E} {own : String} {ix : Nat} (hx : p.tables.exec = Jvm.exec) (hb : c0.code = cc) (hown : s.vm.findClass own = some m.cls) (hcl : (Cond.classLink own ix "[[I").before args s = true) (harr : (Cond.arrayClass .int).before args s = true) (hN : NZ s) (hK : va_K D vwCl (tysZ cI cJ cB cM) s) (hP : va_P D vwCl (X ++ va_pl L f) H) (hD : va_D A (X ++ va_pl L f)) (hS : va_S A s.heap H locs) (hA : ∀ q : Nat, s.heap.size ≤ q → A q) {n k : Int32} (hn : ¬ n < 0) (hk : ¬ k < 0) (hn6 : n.toNatClampNeg ≤ 6) (hk6 : k.toNatClampNeg ≤ 6) (hcells : cells + 7 ≤ R.cells) (hslots : slots + 42 ≤ R.slots) (hdg : decode cc pc = .ok (.multianewarray ix 2, 4))
    (kk : ∀ (q : Nat) (r : Nat → Nat) (H1 : Heap), va_P D vwCl ((X ++ [(q, .inl (cM, n.toNatClampNeg, .inr (.inr (.inr (.inr (gq n.toNatClampNeg r))))))]) ++ va_pl (L ++ (List.range n.toNatClampNeg).map r) (vr_up f ((List.range n.toNatClampNeg).map r) (.inl (cI, k.toNatClampNeg, .inl (fun _ => 0))))) H1 → va_D A ((X ++ [(q, .inl (cM, n.toNatClampNeg, .inr (.inr (.inr (.inr (gq n.toNatClampNeg r))))))]) ++ va_pl (L ++ (List.range n.toNatClampNeg).map r) (vr_up f ((List.range n.toNatClampNeg).map r) (.inl (cI, k.toNatClampNeg, .inl (fun _ => 0))))) → va_S A s.heap H1 locs →
      W p l e R s m args below meth c0 H1 locs (cells + 7) (slots + 42) Q (F0 m (pc + 4) ls (.ref q :: rest))) : W p l e R s m args below meth c0 H locs cells slots Q (F0 m pc ls (.int k :: .int n :: rest)) := by
  have hmul : n.toNatClampNeg * k.toNatClampNeg ≤ 6 * 6 := Nat.mul_le_mul hn6 hk6
  refine va_mna (ty := .int) (cy := cI) (z := (k.toNatClampNeg, .inl (fun _ => 0))) hx hb hown (by rw [str_II]; exact hcl) hN.2.1 harr (hK.2 0 (cI, .int) rfl).2 hK hP hD hS hA hn hk rfl rfl (by omega) (by show k.toNatClampNeg * 4 ≤ _; omega) (by omega) rfl rfl (by omega) (by omega) (fun c => inner_0 c _) hdg (fun q r cA H1 _ _ hK1 hP1 hD1 hS1 => ?_)
  have h1 := (hK.2 3 (cM, .array .int) rfl).2
  have h2 := (hK1.2 4 (cA, .array .int) rfl).2
  have he : cA = cM := Option.some.inj (h2.symm.trans h1)
  subst he
  exact W.widen (by omega) (by omega) (kk q r H1 hP1 hD1 hS1)
end GR
abbrev rmX5_init : Room := { frames := 1, cells := 21, slots := 126, locals := 32 }
abbrev nZ0 (h0 : Nat) : va_W := [(h0, .inr (5, [.int 0, .int 0, .null, .null, .null, .int 0, .int 0, .null]))]
abbrev nZ (cI cM : ClassId) (c : Nat → Nat) (r : Nat → Nat → Nat) : va_W := z4 c cM 4 4 4 r ++ zpl cI 4 4 r (fun _ _ => 0) (fun _ _ => 0) (fun _ _ => 0)
set_option maxHeartbeats 4000000 in
set_option maxRecDepth 100000 in
theorem kX5_init {l : Launch} {D : va_G} {cI cJ cB cM : ClassId} (h0 : Nat) (sz : Nat) : Met l yX5_init wsX5_init rmX5_init (va_Pc [.ref h0] (PreZ D cI cJ cB cM (nZ0 h0) sz)) (va_Qv (fun (u : (Nat → Nat) × (Nat → Nat → Nat)) => u.1 0 = h0) (aft D (nZ0 h0) sz (fun u => nZ cI cM u.1 u.2)) (va_A (nZ0 h0) sz)) 21 126 (va_A (nZ0 h0) sz) := by
  refine xofZ (cc := cX5_init) (maxL := 1) (ret := none) rfl (by decide) rfl ?_
  intro p e s m args below meth c0 ls Q A hQ hAe hx hb hr hml hown hts hlocks hnm hN hK H locs hP hD hS hA hl
  replace hown : s.vm.findClass RX5 = some m.cls := hown
  replace hl : lv_has ls 1 [(0, .ref h0)] := hl
  have iX5 : ∀ w ∈ wsX50, w ∈ wsX5_init := by decide +kernel
  have ha := hts (.arrayClass .int) (by decide +kernel)
  have hc16 := hts (.classLink RX5 16 "[[I") (by decide +kernel)
  have f7 := hts (.fieldLink RX5 7 "CryptSumsLaw$Sim" "w" "I") (by decide +kernel)
  have f13 := hts (.fieldLink RX5 13 "CryptSumsLaw$Sim" "h" "I") (by decide +kernel)
  have f18 := hts (.fieldLink RX5 18 "CryptSumsLaw$Sim" "stones" "[[I") (by decide +kernel)
  have f21 := hts (.fieldLink RX5 21 "CryptSumsLaw$Sim" "across" "[[I") (by decide +kernel)
  have f24 := hts (.fieldLink RX5 24 "CryptSumsLaw$Sim" "down" "[[I") (by decide +kernel)
  refine lv_aload_n hx hb dX5_init_0 rfl (lv_at hl 0 rfl) ?_
  refine W.objInit hx hb hown (hts (.methodLink RX5 1 objectInit) (by decide +kernel)) (hts (.instanceMethod objectInit) (by decide +kernel)) (hts (.code objectInit ⟨#[0xb1]⟩ 1 none) (by decide +kernel)) rfl (by rw [hml]; exact hl.1) rfl dX5_init_1 (Nat.le_of_ble_eq_true rfl) (Nat.le_of_ble_eq_true rfl) ?_
  refine W.eq (g2 := F0 m 4 ls []) rfl ?_
  refine lv_aload_n hx hb dX5_init_4 rfl (lv_at hl 0 rfl) ?_
  refine lv_iconst (v := 4) hx hb dX5_init_5 (by decide) ?_
  refine va_put (D := D) (ci := 5) (v := .int 4) (ty := .int) (C := RX5) (T := TX5) (N := 8) hx hb hts iX5 tyX5 tyX5_ok nmX5 hown hK hP hD hS 0 rfl rfl 0 (by decide) f7 (fun _ h9 => h9) rfl (by decide +kernel) rfl rfl (Nat.le_of_ble_eq_true rfl) dX5_init_6 (fun H locs hP hD hS => ?_)
  refine lv_aload_n hx hb dX5_init_9 rfl (lv_at hl 0 rfl) ?_
  refine lv_iconst (v := 4) hx hb dX5_init_10 (by decide) ?_
  refine va_put (D := D) (ci := 5) (v := .int 4) (ty := .int) (C := RX5) (T := TX5) (N := 8) hx hb hts iX5 tyX5 tyX5_ok nmX5 hown hK hP hD hS 0 rfl rfl 1 (by decide) f13 (fun _ h9 => h9) rfl (by decide +kernel) rfl rfl (Nat.le_of_ble_eq_true rfl) dX5_init_11 (fun H locs hP hD hS => ?_)
  replace hP : va_P D vwCl ([(h0, .inr (5, [.int 4, .int 4, .null, .null, .null, .int 0, .int 0, .null]))] ++ va_pl [] (fun _ => .inr (0, []))) H := hP
  replace hD : va_D A ([(h0, .inr (5, [.int 4, .int 4, .null, .null, .null, .int 0, .int 0, .null]))] ++ va_pl [] (fun _ => .inr (0, []))) := hD
  refine lv_aload_n hx hb dX5_init_14 rfl (lv_at hl 0 rfl) ?_
  refine lv_iconst (v := 4) hx hb dX5_init_15 (by decide) ?_
  refine lv_iconst (v := 4) hx hb dX5_init_16 (by decide) ?_
  refine mnaZ (cI := cI) (cJ := cJ) (cB := cB) (cM := cM) hx hb hown hc16 ha hN hK hP hD hS hA (by decide) (by decide) (by decide) (by decide) (Nat.le_of_ble_eq_true rfl) (Nat.le_of_ble_eq_true rfl) dX5_init_17 (fun q1 r1 H hP hD hS => ?_)
  refine va_put (D := D) (ci := 5) (v := .ref q1) (ty := .array (.array .int)) (C := RX5) (T := TX5) (N := 8) hx hb hts iX5 tyX5 tyX5_ok nmX5 hown hK hP hD hS 0 rfl rfl 2 (by decide) f18 (fun _ h9 => h9) rfl (by decide +kernel) rfl rfl (Nat.le_of_ble_eq_true rfl) dX5_init_21 (fun H locs hP hD hS => ?_)
  replace hP : va_P D vwCl ([(h0, .inr (5, [.int 4, .int 4, .ref q1, .null, .null, .int 0, .int 0, .null])), (q1, .inl (cM, 4, .inr (.inr (.inr (.inr (gq 4 r1))))))] ++ va_pl ([] ++ (List.range 4).map r1) (vr_up (fun _ => .inr (0, [])) ((List.range 4).map r1) (.inl (cI, 4, .inl (fun _ => 0))))) H := hP
  replace hD : va_D A ([(h0, .inr (5, [.int 4, .int 4, .ref q1, .null, .null, .int 0, .int 0, .null])), (q1, .inl (cM, 4, .inr (.inr (.inr (.inr (gq 4 r1))))))] ++ va_pl ([] ++ (List.range 4).map r1) (vr_up (fun _ => .inr (0, [])) ((List.range 4).map r1) (.inl (cI, 4, .inl (fun _ => 0))))) := hD
  refine lv_aload_n hx hb dX5_init_24 rfl (lv_at hl 0 rfl) ?_
  refine lv_iconst (v := 4) hx hb dX5_init_25 (by decide) ?_
  refine lv_iconst (v := 4) hx hb dX5_init_26 (by decide) ?_
  refine mnaZ (cI := cI) (cJ := cJ) (cB := cB) (cM := cM) hx hb hown hc16 ha hN hK hP hD hS hA (by decide) (by decide) (by decide) (by decide) (Nat.le_of_ble_eq_true rfl) (Nat.le_of_ble_eq_true rfl) dX5_init_27 (fun q2 r2 H hP hD hS => ?_)
  refine va_put (D := D) (ci := 5) (v := .ref q2) (ty := .array (.array .int)) (C := RX5) (T := TX5) (N := 8) hx hb hts iX5 tyX5 tyX5_ok nmX5 hown hK hP hD hS 0 rfl rfl 3 (by decide) f21 (fun _ h9 => h9) rfl (by decide +kernel) rfl rfl (Nat.le_of_ble_eq_true rfl) dX5_init_31 (fun H locs hP hD hS => ?_)
  replace hP : va_P D vwCl ([(h0, .inr (5, [.int 4, .int 4, .ref q1, .ref q2, .null, .int 0, .int 0, .null])), (q1, .inl (cM, 4, .inr (.inr (.inr (.inr (gq 4 r1)))))), (q2, .inl (cM, 4, .inr (.inr (.inr (.inr (gq 4 r2))))))] ++ va_pl (([] ++ (List.range 4).map r1) ++ (List.range 4).map r2) (vr_up (vr_up (fun _ => .inr (0, [])) ((List.range 4).map r1) (.inl (cI, 4, .inl (fun _ => 0)))) ((List.range 4).map r2) (.inl (cI, 4, .inl (fun _ => 0))))) H := hP
  replace hD : va_D A ([(h0, .inr (5, [.int 4, .int 4, .ref q1, .ref q2, .null, .int 0, .int 0, .null])), (q1, .inl (cM, 4, .inr (.inr (.inr (.inr (gq 4 r1)))))), (q2, .inl (cM, 4, .inr (.inr (.inr (.inr (gq 4 r2))))))] ++ va_pl (([] ++ (List.range 4).map r1) ++ (List.range 4).map r2) (vr_up (vr_up (fun _ => .inr (0, [])) ((List.range 4).map r1) (.inl (cI, 4, .inl (fun _ => 0)))) ((List.range 4).map r2) (.inl (cI, 4, .inl (fun _ => 0))))) := hD
  refine lv_aload_n hx hb dX5_init_34 rfl (lv_at hl 0 rfl) ?_
  refine lv_iconst (v := 4) hx hb dX5_init_35 (by decide) ?_
  refine lv_iconst (v := 4) hx hb dX5_init_36 (by decide) ?_
  refine mnaZ (cI := cI) (cJ := cJ) (cB := cB) (cM := cM) hx hb hown hc16 ha hN hK hP hD hS hA (by decide) (by decide) (by decide) (by decide) (Nat.le_of_ble_eq_true rfl) (Nat.le_of_ble_eq_true rfl) dX5_init_37 (fun q3 r3 H hP hD hS => ?_)
  refine va_put (D := D) (ci := 5) (v := .ref q3) (ty := .array (.array .int)) (C := RX5) (T := TX5) (N := 8) hx hb hts iX5 tyX5 tyX5_ok nmX5 hown hK hP hD hS 0 rfl rfl 4 (by decide) f24 (fun _ h9 => h9) rfl (by decide +kernel) rfl rfl (Nat.le_of_ble_eq_true rfl) dX5_init_41 (fun H locs hP hD hS => ?_)
  have hpl := pool3 (cI := cI) (K := 4) (n := 4) (f := (fun _ => .inr (0, []))) r1 r2 r3
  replace hP : va_P D vwCl ([(h0, .inr (5, [.int 4, .int 4, .ref q1, .ref q2, .ref q3, .int 0, .int 0, .null])), (q1, .inl (cM, 4, .inr (.inr (.inr (.inr (gq 4 r1)))))), (q2, .inl (cM, 4, .inr (.inr (.inr (.inr (gq 4 r2)))))), (q3, .inl (cM, 4, .inr (.inr (.inr (.inr (gq 4 r3))))))] ++ va_pl ((([] ++ (List.range 4).map r1) ++ (List.range 4).map r2) ++ (List.range 4).map r3) (vr_up (vr_up (vr_up (fun _ => .inr (0, [])) ((List.range 4).map r1) (.inl (cI, 4, .inl (fun _ => 0)))) ((List.range 4).map r2) (.inl (cI, 4, .inl (fun _ => 0)))) ((List.range 4).map r3) (.inl (cI, 4, .inl (fun _ => 0))))) H := hP
  replace hD : va_D A ([(h0, .inr (5, [.int 4, .int 4, .ref q1, .ref q2, .ref q3, .int 0, .int 0, .null])), (q1, .inl (cM, 4, .inr (.inr (.inr (.inr (gq 4 r1)))))), (q2, .inl (cM, 4, .inr (.inr (.inr (.inr (gq 4 r2)))))), (q3, .inl (cM, 4, .inr (.inr (.inr (.inr (gq 4 r3))))))] ++ va_pl ((([] ++ (List.range 4).map r1) ++ (List.range 4).map r2) ++ (List.range 4).map r3) (vr_up (vr_up (vr_up (fun _ => .inr (0, [])) ((List.range 4).map r1) (.inl (cI, 4, .inl (fun _ => 0)))) ((List.range 4).map r2) (.inl (cI, 4, .inl (fun _ => 0)))) ((List.range 4).map r3) (.inl (cI, 4, .inl (fun _ => 0))))) := hD
  rw [hpl] at hP hD
  subst hQ hAe
  exact W.vret hx hb hr (fun t ht hW => ⟨⟨(fun k => match k with | 0 => h0 | 1 => q1 | 2 => q2 | _ => q3, fun k => match k with | 0 => r1 | 1 => r2 | _ => r3), rfl, rfl, ⟨by rw [ht]; exact hP, hD⟩⟩, hS.F ht⟩) hS.2.2 dX5_init_44
section RG
variable {p : Program} {l : Launch} {e : Env} {R : Room} {s : State} {m : MethodId} {args : Array Value} {below : List Frame} {meth : Method} {c0 : Code} {H : Heap} {locs : List Loc} {cells slots : Nat} {Q : State → Prop} {ls : Array Slot} {A : Addr → Prop} {D : va_G} {cI cJ cB cM : ClassId}
set_option maxHeartbeats 4000000 in
set_option maxRecDepth 100000 in
/-- act's new floor: pc 128 to 176 -/
theorem regrid {a : Nat → Nat} {ho ke : RowI} {hc tr fo fr : Int32} {st : RowI} {co ro : Int32} {cA cD : CS} {su : RowJ} {jA jD : JT} {c : Nat → Nat} {r : Nat → Nat → Nat} {wI hI : Int32} {W0 H0 : Nat} {gS gA gD : RowR} (hx : p.tables.exec = Jvm.exec) (hb : c0.code = cL_act) (hown : s.vm.findClass RL = some m.cls) (hts : ∀ w ∈ wsL_act, w.before args s = true) (hN : NZ s) (hK : va_K D vwCl (tysZ cI cJ cB cM) s)
    (hP : va_P D vwCl ((xw a cI cJ ho ke hc tr fo fr st co ro cA cD su jA jD ++ (z4 c cM wI hI H0 r)) ++ zpl cI W0 H0 r gS gA gD) H) (hD : va_D A ((xw a cI cJ ho ke hc tr fo fr st co ro cA cD su jA jD ++ (z4 c cM wI hI H0 r)) ++ zpl cI W0 H0 r gS gA gD)) (hS : va_S A s.heap H locs) (hA : ∀ q : Nat, s.heap.size ≤ q → A q) (hl : lv_has ls 12 [(1, .ref (c 0))]) (hg : ¬ wI < 0 ∧ ¬ hI < 0 ∧ wI.toNatClampNeg ≤ 6 ∧ hI.toNatClampNeg ≤ 6) (hcells : cells + 21 ≤ R.cells) (hslots : slots + 126 ≤ R.slots)
    (kk : ∀ (c' : Nat → Nat) (r' : Nat → Nat → Nat), c' 0 = c 0 → ∀ (H1 : Heap) (locs1 : List Loc), va_P D vwCl ((xw a cI cJ ho ke hc tr fo fr st co ro cA cD su jA jD ++ (z4 c' cM wI hI hI.toNatClampNeg r')) ++ zpl cI wI.toNatClampNeg hI.toNatClampNeg r' (fun _ _ => 0) (fun _ _ => 0) (fun _ _ => 0)) H1 → va_D A ((xw a cI cJ ho ke hc tr fo fr st co ro cA cD su jA jD ++ (z4 c' cM wI hI hI.toNatClampNeg r')) ++ zpl cI wI.toNatClampNeg hI.toNatClampNeg r' (fun _ _ => 0) (fun _ _ => 0) (fun _ _ => 0)) → va_S A s.heap H1 locs1 → W p l e R s m args below meth c0 H1 locs1 (cells + 21) (slots + 126) Q (F0 m 176 ls [])) : W p l e R s m args below meth c0 H locs cells slots Q (F0 m 128 ls []) := by
  have iX5 : ∀ w ∈ wsX50, w ∈ wsL_act := by decide +kernel
  have ha := hts (.arrayClass .int) (by decide +kernel)
  have hc28 := hts (.classLink RL 28 "[[I") (by decide +kernel)
  have f9 := hts (.fieldLink RL 9 "CryptSumsLaw$Sim" "w" "I") (by decide +kernel)
  have f15 := hts (.fieldLink RL 15 "CryptSumsLaw$Sim" "h" "I") (by decide +kernel)
  have f24 := hts (.fieldLink RL 24 "CryptSumsLaw$Sim" "stones" "[[I") (by decide +kernel)
  have f29 := hts (.fieldLink RL 29 "CryptSumsLaw$Sim" "across" "[[I") (by decide +kernel)
  have f32 := hts (.fieldLink RL 32 "CryptSumsLaw$Sim" "down" "[[I") (by decide +kernel)
  obtain ⟨g1, g2, g3, g4⟩ := hg
  replace hP : va_P D vwCl ((xw a cI cJ ho ke hc tr fo fr st co ro cA cD su jA jD ++ [(c 0, .inr (5, [.int wI, .int hI, .ref (c 1), .ref (c 2), .ref (c 3), .int 0, .int 0, .null]))]) ++ va_pl [] (fun _ => .inr (0, []))) H := by
    rw [show va_pl [] (fun _ => (.inr (0, []) : va_E)) = [] from rfl, List.append_nil]
    exact subQ hP [0, 1, 2, 3, 4, 5, 6, 7, 8, 9, 10, 11, 12, 13, 14, 15, 16] rfl
  replace hD : va_D A ((xw a cI cJ ho ke hc tr fo fr st co ro cA cD su jA jD ++ [(c 0, .inr (5, [.int wI, .int hI, .ref (c 1), .ref (c 2), .ref (c 3), .int 0, .int 0, .null]))]) ++ va_pl [] (fun _ => .inr (0, []))) := by
    rw [show va_pl [] (fun _ => (.inr (0, []) : va_E)) = [] from rfl, List.append_nil]
    exact subQD hD [0, 1, 2, 3, 4, 5, 6, 7, 8, 9, 10, 11, 12, 13, 14, 15, 16] (by decide) rfl
  refine lv_aload_n hx hb dL_act_128 rfl (lv_at hl 0 rfl) ?_
  refine lv_aload_n hx hb dL_act_129 rfl (lv_at hl 0 rfl) ?_
  refine va_get (D := D) (ci := 5) (v := .int hI) (C := RX5) (T := TX5) (N := 8) hx hb hts iX5 hown hK hP 16 rfl rfl 1 (by decide) f15 (fun _ h9 => h9) rfl dL_act_130 ?_
  refine lv_aload_n hx hb dL_act_133 rfl (lv_at hl 0 rfl) ?_
  refine va_get (D := D) (ci := 5) (v := .int wI) (C := RX5) (T := TX5) (N := 8) hx hb hts iX5 hown hK hP 16 rfl rfl 0 (by decide) f9 (fun _ h9 => h9) rfl dL_act_134 ?_
  refine mnaZ (cI := cI) (cJ := cJ) (cB := cB) (cM := cM) hx hb hown hc28 ha hN hK hP hD hS hA g2 g1 g4 g3 (by omega) (by omega) dL_act_137 (fun q1 r1 H hP hD hS => ?_)
  refine va_put (D := D) (ci := 5) (v := .ref q1) (ty := .array (.array .int)) (C := RX5) (T := TX5) (N := 8) hx hb hts iX5 tyX5 tyX5_ok nmX5 hown hK hP hD hS 16 rfl rfl 2 (by decide) f24 (fun _ h9 => h9) rfl (by decide +kernel) rfl rfl (Nat.le_of_ble_eq_true rfl) dL_act_141 (fun H locs hP hD hS => ?_)
  generalize hn : hI.toNatClampNeg = n at *
  generalize hk : wI.toNatClampNeg = k at *
  replace hP : va_P D vwCl ((xw a cI cJ ho ke hc tr fo fr st co ro cA cD su jA jD ++ [(c 0, .inr (5, [.int wI, .int hI, .ref q1, .ref (c 2), .ref (c 3), .int 0, .int 0, .null])), (q1, .inl (cM, n, .inr (.inr (.inr (.inr (gq n r1))))))]) ++ va_pl ([] ++ (List.range n).map r1) (vr_up (fun _ => .inr (0, [])) ((List.range n).map r1) (.inl (cI, k, .inl (fun _ => 0))))) H := hP
  replace hD : va_D A ((xw a cI cJ ho ke hc tr fo fr st co ro cA cD su jA jD ++ [(c 0, .inr (5, [.int wI, .int hI, .ref q1, .ref (c 2), .ref (c 3), .int 0, .int 0, .null])), (q1, .inl (cM, n, .inr (.inr (.inr (.inr (gq n r1))))))]) ++ va_pl ([] ++ (List.range n).map r1) (vr_up (fun _ => .inr (0, [])) ((List.range n).map r1) (.inl (cI, k, .inl (fun _ => 0))))) := hD
  refine lv_aload_n hx hb dL_act_144 rfl (lv_at hl 0 rfl) ?_
  refine lv_aload_n hx hb dL_act_145 rfl (lv_at hl 0 rfl) ?_
  refine va_get (D := D) (ci := 5) (v := .int hI) (C := RX5) (T := TX5) (N := 8) hx hb hts iX5 hown hK hP 16 rfl rfl 1 (by decide) f15 (fun _ h9 => h9) rfl dL_act_146 ?_
  refine lv_aload_n hx hb dL_act_149 rfl (lv_at hl 0 rfl) ?_
  refine va_get (D := D) (ci := 5) (v := .int wI) (C := RX5) (T := TX5) (N := 8) hx hb hts iX5 hown hK hP 16 rfl rfl 0 (by decide) f9 (fun _ h9 => h9) rfl dL_act_150 ?_
  refine mnaZ (cI := cI) (cJ := cJ) (cB := cB) (cM := cM) hx hb hown hc28 ha hN hK hP hD hS hA g2 g1 (by omega) (by omega) (by omega) (by omega) dL_act_153 (fun q2 r2 H hP hD hS => ?_)
  rw [hn, hk] at hP hD
  refine va_put (D := D) (ci := 5) (v := .ref q2) (ty := .array (.array .int)) (C := RX5) (T := TX5) (N := 8) hx hb hts iX5 tyX5 tyX5_ok nmX5 hown hK hP hD hS 16 rfl rfl 3 (by decide) f29 (fun _ h9 => h9) rfl (by decide +kernel) rfl rfl (Nat.le_of_ble_eq_true rfl) dL_act_157 (fun H locs hP hD hS => ?_)
  replace hP : va_P D vwCl ((xw a cI cJ ho ke hc tr fo fr st co ro cA cD su jA jD ++ [(c 0, .inr (5, [.int wI, .int hI, .ref q1, .ref q2, .ref (c 3), .int 0, .int 0, .null])), (q1, .inl (cM, n, .inr (.inr (.inr (.inr (gq n r1)))))), (q2, .inl (cM, n, .inr (.inr (.inr (.inr (gq n r2))))))]) ++ va_pl (([] ++ (List.range n).map r1) ++ (List.range n).map r2) (vr_up (vr_up (fun _ => .inr (0, [])) ((List.range n).map r1) (.inl (cI, k, .inl (fun _ => 0)))) ((List.range n).map r2) (.inl (cI, k, .inl (fun _ => 0))))) H := hP
  replace hD : va_D A ((xw a cI cJ ho ke hc tr fo fr st co ro cA cD su jA jD ++ [(c 0, .inr (5, [.int wI, .int hI, .ref q1, .ref q2, .ref (c 3), .int 0, .int 0, .null])), (q1, .inl (cM, n, .inr (.inr (.inr (.inr (gq n r1)))))), (q2, .inl (cM, n, .inr (.inr (.inr (.inr (gq n r2))))))]) ++ va_pl (([] ++ (List.range n).map r1) ++ (List.range n).map r2) (vr_up (vr_up (fun _ => .inr (0, [])) ((List.range n).map r1) (.inl (cI, k, .inl (fun _ => 0)))) ((List.range n).map r2) (.inl (cI, k, .inl (fun _ => 0))))) := hD
  refine lv_aload_n hx hb dL_act_160 rfl (lv_at hl 0 rfl) ?_
  refine lv_aload_n hx hb dL_act_161 rfl (lv_at hl 0 rfl) ?_
  refine va_get (D := D) (ci := 5) (v := .int hI) (C := RX5) (T := TX5) (N := 8) hx hb hts iX5 hown hK hP 16 rfl rfl 1 (by decide) f15 (fun _ h9 => h9) rfl dL_act_162 ?_
  refine lv_aload_n hx hb dL_act_165 rfl (lv_at hl 0 rfl) ?_
  refine va_get (D := D) (ci := 5) (v := .int wI) (C := RX5) (T := TX5) (N := 8) hx hb hts iX5 hown hK hP 16 rfl rfl 0 (by decide) f9 (fun _ h9 => h9) rfl dL_act_166 ?_
  refine mnaZ (cI := cI) (cJ := cJ) (cB := cB) (cM := cM) hx hb hown hc28 ha hN hK hP hD hS hA g2 g1 (by omega) (by omega) (by omega) (by omega) dL_act_169 (fun q3 r3 H hP hD hS => ?_)
  rw [hn, hk] at hP hD
  refine va_put (D := D) (ci := 5) (v := .ref q3) (ty := .array (.array .int)) (C := RX5) (T := TX5) (N := 8) hx hb hts iX5 tyX5 tyX5_ok nmX5 hown hK hP hD hS 16 rfl rfl 4 (by decide) f32 (fun _ h9 => h9) rfl (by decide +kernel) rfl rfl (Nat.le_of_ble_eq_true rfl) dL_act_173 (fun H locs hP hD hS => ?_)
  have hpl := pool3 (cI := cI) (K := k) (n := n) (f := (fun _ => .inr (0, []))) r1 r2 r3
  replace hP : va_P D vwCl ((xw a cI cJ ho ke hc tr fo fr st co ro cA cD su jA jD ++ [(c 0, .inr (5, [.int wI, .int hI, .ref q1, .ref q2, .ref q3, .int 0, .int 0, .null])), (q1, .inl (cM, n, .inr (.inr (.inr (.inr (gq n r1)))))), (q2, .inl (cM, n, .inr (.inr (.inr (.inr (gq n r2)))))), (q3, .inl (cM, n, .inr (.inr (.inr (.inr (gq n r3))))))]) ++ va_pl ((([] ++ (List.range n).map r1) ++ (List.range n).map r2) ++ (List.range n).map r3) (vr_up (vr_up (vr_up (fun _ => .inr (0, [])) ((List.range n).map r1) (.inl (cI, k, .inl (fun _ => 0)))) ((List.range n).map r2) (.inl (cI, k, .inl (fun _ => 0)))) ((List.range n).map r3) (.inl (cI, k, .inl (fun _ => 0))))) H := hP
  replace hD : va_D A ((xw a cI cJ ho ke hc tr fo fr st co ro cA cD su jA jD ++ [(c 0, .inr (5, [.int wI, .int hI, .ref q1, .ref q2, .ref q3, .int 0, .int 0, .null])), (q1, .inl (cM, n, .inr (.inr (.inr (.inr (gq n r1)))))), (q2, .inl (cM, n, .inr (.inr (.inr (.inr (gq n r2)))))), (q3, .inl (cM, n, .inr (.inr (.inr (.inr (gq n r3))))))]) ++ va_pl ((([] ++ (List.range n).map r1) ++ (List.range n).map r2) ++ (List.range n).map r3) (vr_up (vr_up (vr_up (fun _ => .inr (0, [])) ((List.range n).map r1) (.inl (cI, k, .inl (fun _ => 0)))) ((List.range n).map r2) (.inl (cI, k, .inl (fun _ => 0)))) ((List.range n).map r3) (.inl (cI, k, .inl (fun _ => 0))))) := hD
  rw [hpl] at hP hD
  exact kk (fun k => match k with | 0 => c 0 | 1 => q1 | 2 => q2 | _ => q3) (fun k => match k with | 0 => r1 | 1 => r2 | _ => r3) rfl H locs hP hD hS
end RG
