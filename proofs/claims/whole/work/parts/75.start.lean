/-! ===== the law, from its entry ===== -/
set_option maxHeartbeats 4000000 in
set_option maxRecDepth 100000 in
theorem whole_start {p : Program} {e : Env} {s : State} {m : MethodId} {below : List Frame} {meth : Method} {c : Code} (l : Launch) (hflags : l.flags = flags0) {b L : Nat} {xs : Nat → Int32} (hL : L ≤ 2048) (C0 : lw_At p s m meth c b L xs) : W p l e room_1 s m #[Value.ref b] below meth c s.heap [] 0 0 (lw_Z below #[Value.ref b] s) (entryFrame m ([Value.ref b] : List Value).toArray 9) := by
  obtain ⟨hx, hb, hr, hml, hown, hts0, hX, hbl, hlocks, hgv⟩ := id C0
  have hown : s.vm.findClass RL = some m.cls := hown
  have hts : ∀ w ∈ wsL_law, w.before #[Value.ref b] s = true := fun w h => hts0 w (wsL_law_in w h)
  have hA : ∀ q : Nat, s.heap.size ≤ q → (fun q : Nat => s.heap.size ≤ q) q := fun _ h => h
  obtain ⟨D, cI, cJ, hK⟩ := known hts0
  have hN := nests hts0
  have hTX := throws hts0 (hK.1 4 _ rfl).2.1 hgv
  have hlt : l.stackTraces = false := by
    unfold Launch.stackTraces
    rw [hflags]
    decide
  have C1 : LA p l s m meth c b L xs D cI cJ := ⟨hx, hb, hr, hml, hown, hts, hX, hbl, hlocks, hlt, hN, hTX, hK⟩
  obtain ⟨su, o1, o2, hM1, hM2, hM3, hR⟩ := t_start (N := 600) (Nat.le_refl _)
  have hS : va_S (fun q : Nat => s.heap.size ≤ q) s.heap s.heap [] := va_S.rf
  have hP : va_P D vwCl [] s.heap := fun k q h => by simp at h
  have hD : va_D (fun q : Nat => s.heap.size ≤ q) [] := ⟨fun i j p q h => by simp at h, fun k q h => by simp at h⟩
  have hl := lv_entry ([.ref b]) (n := 9) (Nat.le_of_ble_eq_true rfl)
  rw [lg_entry_eq]
  generalize (lg_sl ([.ref b]) ++ List.replicate (9 - (lg_sl ([.ref b])).length) Slot.unset).toArray = ls at hl ⊢
  have hl : lv_has ls 9 [(0, .ref b)] := hl
  refine va_new (D := D) (ci := 4) (fs := [.null, .null]) (C := RX4) (T := TX4) (N := 2) hx hb hts inlX4 tyX4 tyX4_ok hown (hts (.classLink RL 8 RX4) (by decide +kernel)) (hts (.instantiable RX4 2) (by decide +kernel)) (hts (.initialized RX4) (by decide +kernel)) hK hP hD hS hA rfl (by decide +kernel) (Nat.le_of_ble_eq_true rfl) (Nat.le_of_ble_eq_true rfl) dL_law_0 (fun q0 H hP hD hS => ?_)
  replace hP : va_P D vwCl (nX0 q0) H := hP
  replace hD : va_D (fun q : Nat => s.heap.size ≤ q) (nX0 q0) := hD
  refine lv_dup hx hb dL_law_3 rfl ?_
  refine cW_v [0] [] (va_runI (As := []) (rest := [.ref q0]) ⟨hx, hb, hml, hown, hts⟩ (kX4_init (l := l) (D := D) (cI := cI) (cJ := cJ) 600 q0 hM1 hM2 H.size) (cwI 0 hts gL_law_X4_init rfl rfl rfl (hts (.initialized RX4) (by decide +kernel)) (hts (.methodLink RL 55 yX4_init) (by decide +kernel)) (hts (.instanceMethod yX4_init) (by decide +kernel)) rfl (by decide +kernel) ⟨Nat.le_of_ble_eq_true rfl, Nat.le_of_ble_eq_true rfl⟩) (preS (.ref q0 :: []) hN hK hP hD) rfl rfl hl.1 rfl (lv_room (Nat.le_of_ble_eq_true rfl)) dL_law_4 ⟨Nat.le_of_ble_eq_true rfl, Nat.le_of_ble_eq_true rfl⟩) hP hD hS hA rfl (wr := []) rfl (by decide) (by decide) (fun a H locs hw hP hD hS => ?_)
  rw [← hw]
  replace hP : va_P D vwCl (xw a cI cJ z0 z0 0 0 0 0 o1.1 o1.2.1 o1.2.2.1 o1.2.2.2.1 o1.2.2.2.2 su j0 j0) H := hP
  replace hD : va_D (fun q : Nat => s.heap.size ≤ q) (xw a cI cJ z0 z0 0 0 0 0 o1.1 o1.2.1 o1.2.2.1 o1.2.2.2.1 o1.2.2.2.2 su j0 j0) := hD
  refine lv_astore_n (lv' := [(1, .ref (a 15)), (0, .ref b)]) hx hb dL_law_7 rfl hl (by decide) rfl (fun ls hl => ?_)
  refine va_new (D := D) (ci := 5) (fs := [.int 0, .int 0, .int 0, .null, .null, .null, .null, .null, .int 0, .int 0, .int 0, .null]) (C := RX5) (T := TX5) (N := 12) hx hb hts inlX5 tyX5 tyX5_ok hown (hts (.classLink RL 56 RX5) (by decide +kernel)) (hts (.instantiable RX5 12) (by decide +kernel)) (hts (.initialized RX5) (by decide +kernel)) hK hP hD hS hA rfl (by decide +kernel) (Nat.le_of_ble_eq_true rfl) (Nat.le_of_ble_eq_true rfl) dL_law_8 (fun q1 H hP hD hS => ?_)
  replace hP : va_P D vwCl (xw a cI cJ z0 z0 0 0 0 0 o1.1 o1.2.1 o1.2.2.1 o1.2.2.2.1 o1.2.2.2.2 su j0 j0 ++ nM0 q1) H := hP
  replace hD : va_D (fun q : Nat => s.heap.size ≤ q) (xw a cI cJ z0 z0 0 0 0 0 o1.1 o1.2.1 o1.2.2.1 o1.2.2.2.1 o1.2.2.2.2 su j0 j0 ++ nM0 q1) := hD
  refine lv_dup hx hb dL_law_11 rfl ?_
  refine cW_v [16] [0, 1, 2, 3, 4, 5, 6, 7, 8, 9, 10, 11, 12, 13, 14, 15] (va_runI (As := []) (rest := [.ref q1]) ⟨hx, hb, hml, hown, hts⟩ (kX5_init (l := l) (D := D) (cI := cI) (cJ := cJ) 600 q1 hM3 H.size) (cwI 0 hts gL_law_X5_init rfl rfl rfl (hts (.initialized RX5) (by decide +kernel)) (hts (.methodLink RL 58 yX5_init) (by decide +kernel)) (hts (.instanceMethod yX5_init) (by decide +kernel)) rfl (by decide +kernel) ⟨Nat.le_of_ble_eq_true rfl, Nat.le_of_ble_eq_true rfl⟩) (preS (.ref q1 :: []) hN hK (hP.sub (ws' := (nM0 q1)) [16] rfl) (hD.sub (ws' := (nM0 q1)) [16] (by decide) rfl)) rfl rfl hl.1 rfl (lv_room (Nat.le_of_ble_eq_true rfl)) dL_law_12 ⟨Nat.le_of_ble_eq_true rfl, Nat.le_of_ble_eq_true rfl⟩) hP hD hS hA rfl (wr := (xw a cI cJ z0 z0 0 0 0 0 o1.1 o1.2.1 o1.2.2.1 o1.2.2.2.1 o1.2.2.2.2 su j0 j0)) rfl (by decide) (by decide) (fun b' H locs hw hP hD hS => ?_)
  rw [← hw]
  refine lv_astore_n (lv' := [(2, .ref (b' 0)), (1, .ref (a 15)), (0, .ref b)]) hx hb dL_law_15 rfl hl (by decide) rfl (fun ls hl => ?_)
  refine lv_iconst (v := 1) hx hb dL_law_16 (by decide) ?_
  refine newJ (D := D) (cI := cI) hx hb (hts (.arrayClass .long) (by decide +kernel)) hK hP hD hS hA 1 (by decide) (by decide) (by decide) (Nat.le_of_ble_eq_true rfl) (Nat.le_of_ble_eq_true rfl) dL_law_17 (fun q2 H hP hD hS => ?_)
  obtain ⟨a', ha'⟩ : ∃ a' : Nat → Nat, a' = fun k => if k = 16 then q2 else a k := ⟨_, rfl⟩
  have e15 : a 15 = a' 15 := by rw [ha']; rfl
  have e16 : q2 = a' 16 := by rw [ha']; rfl
  replace hP := hP.sub (ws' := (lawW a' b' cI cJ 0 4 4 z0 z0 o2.1 o2.2.1 o2.2.2 0 0 0 z0 (fun _ => 0) z0 z0 0 0 0 0 o1.1 o1.2.1 o1.2.2.1 o1.2.2.2.1 o1.2.2.2.2 su j0 j0)) [16, 17, 18, 19, 20, 21, 22, 23, 0, 1, 2, 3, 4, 5, 6, 7, 8, 9, 10, 11, 12, 13, 14, 15] (by rw [ha']; rfl)
  replace hD := hD.sub (ws' := (lawW a' b' cI cJ 0 4 4 z0 z0 o2.1 o2.2.1 o2.2.2 0 0 0 z0 (fun _ => 0) z0 z0 0 0 0 0 o1.1 o1.2.1 o1.2.2.1 o1.2.2.2.1 o1.2.2.2.2 su j0 j0)) [16, 17, 18, 19, 20, 21, 22, 23, 0, 1, 2, 3, 4, 5, 6, 7, 8, 9, 10, 11, 12, 13, 14, 15] (by decide) (by rw [ha']; rfl)
  rw [e16]
  rw [e15] at hl
  refine lv_astore_n (lv' := [(3, .ref (a' 16)), (2, .ref (b' 0)), (1, .ref (a' 15)), (0, .ref b)]) hx hb dL_law_19 rfl hl (by decide) rfl (fun ls hl => ?_)
  refine lv_iconst (v := 0) hx hb dL_law_20 (by decide) ?_
  refine lv_istore (lv' := [(4, .int 0), (3, .ref (a' 16)), (2, .ref (b' 0)), (1, .ref (a' 15)), (0, .ref b)]) hx hb dL_law_21 hl (by decide) rfl (fun ls hl => ?_)
  refine W.widen (k := 24) (n := 5143) (by decide) (by decide) ?_
  refine W.base ?_
  exact law_loop (N := 600) (Nat.le_refl _) C1 a' b' hL 513 0 24 5143 (by omega) (by omega) (by omega) (by omega) _ _ _ _ _ _ _ _ _ _ _ _ _ _ _ _ _ _ _ _ _ _ _ _ hR H locs ls s.drawn (Drawn.sameBut.refl s.drawn lw_cs) hP hD hS (lv_sub hl [4, 3, 2, 1, 0] rfl)
