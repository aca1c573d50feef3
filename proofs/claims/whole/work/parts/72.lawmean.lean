/-! ===== the law: a turn over any record of draws; the mean ===== -/
theorem LA.draw {p : Program} {l : Launch} {s : State} {m : MethodId} {meth : Method} {c : Code} {b0 L : Nat} {xs : Nat → Int32} {D : va_G} {cI cJ : ClassId} (h : LA p l s m meth c b0 L xs D cI cJ) (d : Drawn) : LA p l (s.setDrawn d) m meth c b0 L xs D cI cJ := by
  obtain ⟨h1, h2, h3, h4, h5, h6, h7, h8, h9, h10, h11, h12, h13⟩ := h
  exact ⟨h1, h2, h3, h4, h5, dr_words h6 d, h7, h8, h9, h10, NS.same (s := s) (U := s.setDrawn d) rfl h11, TX.same (s := s) (U := s.setDrawn d) (H := s.heap) rfl h12, va_K.moved (u := s) (U := s.setDrawn d) (Vm.Alike.refl s.vm) h13⟩
theorem nan_none {r : UInt64} (h : isNaN64 r = true) : FP.dcmp r r = none := by
  have h1 : 9218868437227405312 < r.toNat % 2 ^ 63 := by
    have h2 := of_decide_eq_true h
    have h3 : (9218868437227405312 : UInt64).toNat < (r &&& 9223372036854775807).toNat := UInt64.lt_iff_toNat_lt.mp h2
    rw [UInt64.toNat_and] at h3
    have h4 : r.toNat &&& (9223372036854775807 : UInt64).toNat = r.toNat % 2 ^ 63 := Nat.and_two_pow_sub_one_eq_mod r.toNat 63
    rw [h4] at h3
    exact h3
  have hd : FP.Core.decode FP.Core.b64 r.toNat = .nan := by
    have e1 : FP.Core.fieldE FP.Core.b64 r.toNat = FP.Core.b64.exps - 1 := by
      show r.toNat / 2 ^ 52 % 2 ^ 11 = 2 ^ 11 - 1
      omega
    have e2 : FP.Core.fieldT FP.Core.b64 r.toNat ≠ 0 := by
      show r.toNat % 2 ^ 52 ≠ 0
      omega
    rw [FP.Core.decode, if_pos e1, if_neg e2]
  show FP.Core.order (FP.Core.decode FP.Core.b64 r.toNat) (FP.Core.decode FP.Core.b64 r.toNat) = none
  rw [hd]
  rfl
theorem mean_ok {r1 r2 o : UInt64} (h1 : alike64 r1 o = true) (h2 : alike64 r2 o = true) : Op.cmpValue (FP.dcmp r1 r2) CmpOp.l = 0 ∨ (Op.cmpValue (FP.dcmp r1 r1) CmpOp.l ≠ 0 ∧ Op.cmpValue (FP.dcmp r2 r2) CmpOp.l ≠ 0) := by
  have hn : ∀ r, isNaN64 r = true → Op.cmpValue (FP.dcmp r r) CmpOp.l ≠ 0 := fun r hr => by
    rw [nan_none hr]
    decide
  unfold alike64 at h1 h2
  rw [Bool.or_eq_true, decide_eq_true_iff, Bool.and_eq_true] at h1 h2
  rcases h1 with h1 | h1
  · rcases h2 with h2 | h2
    · rw [h1, h2]
      by_cases c : Op.cmpValue (FP.dcmp o o) CmpOp.l = 0
      · exact Or.inl c
      · exact Or.inr ⟨c, c⟩
    · rw [h1]
      exact Or.inr ⟨hn _ h2.2, hn _ h2.1⟩
  · rcases h2 with h2 | h2
    · rw [h2]
      exact Or.inr ⟨hn _ h1.1, hn _ h1.2⟩
    · exact Or.inr ⟨hn _ h1.1, hn _ h2.1⟩
set_option maxHeartbeats 4000000 in
set_option maxRecDepth 100000 in
/-- mean -/
theorem law_16 {p : Program} {l : Launch} {e : Env} {s : State} {m : MethodId} {below : List Frame} {meth : Method} {c : Code} {b0 L : Nat} {xs : Nat → Int32} {D : va_G} {cI cJ : ClassId} {Q : State → Prop} {N : Nat} (hN6 : 600 ≤ N) (C0 : LA p l s m meth c b0 L xs D cI cJ) (a b : Nat → Nat) {i : Nat}
    {st ho ke ms mu mb me mf mk : RowI} {hc tr fo fr co ro th w h mt mv ml : Int32} {ou su : RowJ} {cA cD : CS} {jA jD : JT} (hr : Rel ke tr fo fr st co ro cA cD su w h ms mu mb me mf)
    {H : Heap} {locs : List Loc} {ls : Array Slot} {cells slots : Nat} (hcl : cells + 2 ≤ 601024) (hsl : slots + 12 ≤ 7293034) (hP : va_P D vwCl (lawW a b cI cJ th w h ms mu mb me mf mt mv ml mk ou ho ke hc tr fo fr st co ro cA cD su jA jD) H) (hD : va_D (fun q : Nat => s.heap.size ≤ q) (lawW a b cI cJ th w h ms mu mb me mf mt mv ml mk ou ho ke hc tr fo fr st co ro cA cD su jA jD)) (hS : va_S (fun q : Nat => s.heap.size ≤ q) s.heap H locs) (hl : lv_has ls 9 (lv5 a b b0 i)) {d0 : Drawn} (hd0 : s.drawn.sameBut d0 lw_cs)
    (kk : ∀ d' : Drawn, s.drawn.sameBut d' lw_cs → KK p l e (s.setDrawn d') m below meth c b0 D cI cJ Q a b i su me mf (cells + 2) (slots + 12)) : W p l e room_1 (s.setDrawn d0) m #[Value.ref b0] below meth c H locs cells slots Q (F0 m 995 ls []) := by
  have hA : ∀ q : Nat, s.heap.size ≤ q → (fun q : Nat => s.heap.size ≤ q) q := fun _ h => h
  replace hP : va_P D vwCl (mw b cI th w h ms mu mb me mf mt mv ml mk ++ ow a cI cJ ou ho ke hc tr fo fr st co ro cA cD su jA jD) H := hP
  replace hD : va_D (fun q : Nat => s.heap.size ≤ q) (mw b cI th w h ms mu mb me mf mt mv ml mk ++ ow a cI cJ ou ho ke hc tr fo fr st co ro cA cD su jA jD) := hD
  replace hl : lv_has ls 9 [(0, .ref b0), (1, .ref (a 15)), (2, .ref (b 0)), (3, .ref (a 16)), (4, .int (nI i))] := hl
  obtain ⟨o1, o2, hC1, hC2, heq, hms⟩ := t_mean hN6 hr th
  obtain ⟨hx, hb, hr9, hml, hown, hts, hX, hbl, hlocks, hlt, hN, hTX, hK⟩ := C0.draw d0
  refine lv_aload_n hx hb dL_law_995 rfl (lv_at hl 1 rfl) ?_
  refine cD_d hd0 [8, 9, 10, 11, 12, 13, 14, 15, 16, 17, 18, 19, 20, 21, 22, 23] [0, 1, 2, 3, 4, 5, 6, 7] (va_runV_D (As := []) (rest := []) ⟨hx, hb, hml, hown, hts⟩ (kX4_mean (l := l) (D := D) (cI := cI) (cJ := cJ) N a (ho := ho) (ke := ke) (hc := hc) (tr := tr) (fo := fo) (fr := fr) (st := st) (co := co) (ro := ro) (cA := cA) (cD := cD) (su := su) (jA := jA) (jD := jD) hC1 H.size) (cwV 0 hts gL_law_X4_mean rfl rfl rfl (by decide +kernel) ⟨Nat.le_of_ble_eq_true rfl, Nat.le_of_ble_eq_true rfl⟩) (preV [] hN hK (hP.sub (ws' := (xw a cI cJ ho ke hc tr fo fr st co ro cA cD su jA jD)) [8, 9, 10, 11, 12, 13, 14, 15, 16, 17, 18, 19, 20, 21, 22, 23] rfl) (hD.sub (ws' := (xw a cI cJ ho ke hc tr fo fr st co ro cA cD su jA jD)) [8, 9, 10, 11, 12, 13, 14, 15, 16, 17, 18, 19, 20, 21, 22, 23] (by decide) rfl) (ci := 4) (q0 := 3) rfl rfl) rfl rfl hl.1 rfl (lv_room (Nat.le_of_ble_eq_true rfl)) dL_law_996 ⟨by dsimp only [room_1]; omega, by dsimp only [room_1]; omega⟩) hP hD hS hA rfl (wr := (mw b cI th w h ms mu mb me mf mt mv ml mk ++ [(a 16, .inl (cJ, 1, .inr (.inl ou)))])) rfl (by decide) (by decide) (fun r1 u H locs hal1 hP hD hS d1 hd1 => ?_)
  obtain ⟨uA9, uD9⟩ := u
  replace hP : va_P D vwCl (mw b cI th w h ms mu mb me mf mt mv ml mk ++ ow a cI cJ ou ho ke hc tr fo fr st co ro cA cD su uA9 uD9) H := hP
  replace hD : va_D (fun q : Nat => s.heap.size ≤ q) (mw b cI th w h ms mu mb me mf mt mv ml mk ++ ow a cI cJ ou ho ke hc tr fo fr st co ro cA cD su uA9 uD9) := hD
  obtain ⟨hx, hb, hr9, hml, hown, hts, hX, hbl, hlocks, hlt, hN, hTX, hK⟩ := C0.draw d1
  refine lv_dstore (lv' := [(5, .double r1), (0, .ref b0), (1, .ref (a 15)), (2, .ref (b 0)), (3, .ref (a 16)), (4, .int (nI i))]) hx hb dL_law_999 hl (by decide) rfl (fun ls hl => ?_)
  refine lv_aload_n hx hb dL_law_1001 rfl (lv_at hl 3 rfl) ?_
  refine cD_d hd1 [0, 1, 2, 3, 4, 5, 6] [7, 8, 9, 10, 11, 12, 13, 14, 15, 16, 17, 18, 19, 20, 21, 22, 23] (va_runV_D (As := []) (rest := []) ⟨hx, hb, hml, hown, hts⟩ (kX5_mean (l := l) (D := D) (cI := cI) (cJ := cJ) N b (th := th) (w := w) (h := h) (ms := ms) (mu := mu) (mb := mb) (me := me) (mf := mf) (mt := mt) (mv := mv) (ml := ml) (mk := mk) hC2 H.size) (cwV 0 hts gL_law_X5_mean rfl rfl rfl (by decide +kernel) ⟨Nat.le_of_ble_eq_true rfl, Nat.le_of_ble_eq_true rfl⟩) (preV [] hN hK (hP.sub (ws' := (mw b cI th w h ms mu mb me mf mt mv ml mk)) [0, 1, 2, 3, 4, 5, 6] rfl) (hD.sub (ws' := (mw b cI th w h ms mu mb me mf mt mv ml mk)) [0, 1, 2, 3, 4, 5, 6] (by decide) rfl) (ci := 5) (q0 := 0) rfl rfl) rfl rfl hl.1 rfl (lv_room (Nat.le_of_ble_eq_true rfl)) dL_law_1002 ⟨by dsimp only [room_1]; omega, by dsimp only [room_1]; omega⟩) hP hD hS hA rfl (wr := (ow a cI cJ ou ho ke hc tr fo fr st co ro cA cD su uA9 uD9)) rfl (by decide) (by decide) (fun r2 u H locs hal2 hP hD hS d2 hd2 => ?_)
  replace hP := hP.sub (ws' := mw b cI o2.2.1 w h o2.2.2 mu mb me mf mt mv ml mk ++ ow a cI cJ ou ho ke hc tr fo fr st co ro cA cD su uA9 uD9) [17, 18, 19, 20, 21, 22, 23, 0, 1, 2, 3, 4, 5, 6, 7, 8, 9, 10, 11, 12, 13, 14, 15, 16] rfl
  replace hD := hD.sub (ws' := mw b cI o2.2.1 w h o2.2.2 mu mb me mf mt mv ml mk ++ ow a cI cJ ou ho ke hc tr fo fr st co ro cA cD su uA9 uD9) [17, 18, 19, 20, 21, 22, 23, 0, 1, 2, 3, 4, 5, 6, 7, 8, 9, 10, 11, 12, 13, 14, 15, 16] (by decide) rfl
  rw [hms] at hP hD
  rw [heq] at hal1
  have hok := mean_ok hal1 hal2
  obtain ⟨hx, hb, hr9, hml, hown, hts, hX, hbl, hlocks, hlt, hN, hTX, hK⟩ := C0.draw d2
  refine lv_dstore (lv' := [(7, .double r2), (5, .double r1), (0, .ref b0), (1, .ref (a 15)), (2, .ref (b 0)), (3, .ref (a 16)), (4, .int (nI i))]) hx hb dL_law_1005 hl (by decide) rfl (fun ls hl => ?_)
  refine lv_dload hx hb dL_law_1007 (lv_at hl 1 rfl) ?_
  refine lv_dload hx hb dL_law_1009 (lv_at hl 0 rfl) ?_
  refine lv_dcmp hx hb dL_law_1011 ?_
  have fin : W p l e room_1 (s.setDrawn d2) m #[Value.ref b0] below meth c H locs (cells + 0 + 0) (slots + 0 + 0) Q (F0 m 1033 ls []) := by
    refine lv_goto (tgt := 1050) hx hb dL_law_1033 (by decide) ?_
    refine W.widen (k := cells + 2) (n := slots + 12) (by omega) (by omega) ?_
    exact kk d2 hd2 _ _ _ _ _ _ _ _ _ _ _ _ _ _ _ _ _ _ _ _ _ _ _ _ hr _ _ _ hP hD hS (lv_sub hl [2, 3, 4, 5, 6] rfl)
  refine lv_if_eq (tgt := 1033) hx hb dL_law_1012 (by decide) (fun _ => fin) (fun h9 => ?_)
  rcases hok with hok | ⟨k1, k2⟩
  · exact absurd hok h9
  · refine lv_dload hx hb dL_law_1015 (lv_at hl 1 rfl) ?_
    refine lv_dload hx hb dL_law_1017 (lv_at hl 1 rfl) ?_
    refine lv_dcmp hx hb dL_law_1019 ?_
    refine lv_if_eq (tgt := 1031) hx hb dL_law_1020 (by decide) (fun h8 => absurd h8 k1) (fun _ => ?_)
    refine lv_dload hx hb dL_law_1023 (lv_at hl 0 rfl) ?_
    refine lv_dload hx hb dL_law_1025 (lv_at hl 0 rfl) ?_
    refine lv_dcmp hx hb dL_law_1027 ?_
    exact lv_if_ne (tgt := 1033) hx hb dL_law_1028 (by decide) (fun _ => fin) (fun h8 => absurd h8 k2)
