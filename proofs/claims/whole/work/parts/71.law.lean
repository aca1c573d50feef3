set_option maxHeartbeats 4000000 in
set_option maxRecDepth 100000 in
/-- setFloor -/
theorem law_0 {p : Program} {l : Launch} {e : Env} {s : State} {m : MethodId} {below : List Frame} {meth : Method} {c : Code} {b0 L : Nat} {xs : Nat → Int32} {D : va_G} {cI cJ : ClassId} {Q : State → Prop} {N : Nat} (hN6 : 600 ≤ N) (C0 : LA p l s m meth c b0 L xs D cI cJ) (a b : Nat → Nat) {i : Nat} (hi : i + 4 ≤ L) (hL : L ≤ 2048)
    {st ho ke ms mu mb me mf mk : RowI} {hc tr fo fr co ro th w h mt mv ml : Int32} {ou su : RowJ} {cA cD : CS} {jA jD : JT} (hr : Rel ke tr fo fr st co ro cA cD su w h ms mu mb me mf)
    {H : Heap} {locs : List Loc} {ls : Array Slot} {cells slots : Nat} (hcl : cells + 2 ≤ 601024) (hsl : slots + 12 ≤ 7293034) (hP : va_P D vwCl (lawW a b cI cJ th w h ms mu mb me mf mt mv ml mk ou ho ke hc tr fo fr st co ro cA cD su jA jD) H) (hD : va_D (fun q : Nat => s.heap.size ≤ q) (lawW a b cI cJ th w h ms mu mb me mf mt mv ml mk ou ho ke hc tr fo fr st co ro cA cD su jA jD)) (hS : va_S (fun q : Nat => s.heap.size ≤ q) s.heap H locs) (hl : lv_has ls 9 (lv5 a b b0 i))
    (kk : KK p l e s m below meth c b0 D cI cJ Q a b i su me mf (cells + 2) (slots + 12)) : W p l e room_1 s m #[Value.ref b0] below meth c H locs cells slots Q (F0 m 124 ls []) := by
  obtain ⟨hx, hb, hr9, hml, hown, hts, hX, hbl, hlocks, hlt, hN, hTX, hK⟩ := C0
  have hA : ∀ q : Nat, s.heap.size ≤ q → (fun q : Nat => s.heap.size ≤ q) q := fun _ h => h
  have hbA : ¬ (fun q : Nat => s.heap.size ≤ q) b0 := Nat.not_le.mpr hbl
  have hi1 : vp_in (nI i + 1) L := by rw [show (1 : Int32) = nI 1 from rfl, nI_add]; exact vp_in_nI (by omega) (by omega)
  have hi2 : vp_in (nI i + 2) L := by rw [show (2 : Int32) = nI 2 from rfl, nI_add]; exact vp_in_nI (by omega) (by omega)
  replace hP : va_P D vwCl (mw b cI th w h ms mu mb me mf mt mv ml mk ++ ow a cI cJ ou ho ke hc tr fo fr st co ro cA cD su jA jD) H := hP
  replace hD : va_D (fun q : Nat => s.heap.size ≤ q) (mw b cI th w h ms mu mb me mf mt mv ml mk ++ ow a cI cJ ou ho ke hc tr fo fr st co ro cA cD su jA jD) := hD
  replace hl : lv_has ls 9 [(0, .ref b0), (1, .ref (a 15)), (2, .ref (b 0)), (3, .ref (a 16)), (4, .int (nI i))] := hl
  obtain ⟨o1, o2, hC1, hC2, hth, hou, hR⟩ := t_setFloor hN6 hr ou th (xs (nI i + 1).toNatClampNeg) (xs (nI i + 2).toNatClampNeg)
  refine lv_aload_n hx hb dL_law_124 rfl (lv_at hl 1 rfl) ?_
  refine lv_aload_n hx hb dL_law_125 rfl (lv_at hl 0 rfl) ?_
  refine lv_iload hx hb dL_law_126 (lv_at hl 4 rfl) ?_
  refine lv_iconst (v := 1) hx hb dL_law_128 (by decide) ?_
  refine lv_iadd hx hb dL_law_129 ?_
  refine va_sld hx hb hX hbl hbA hS hi1 dL_law_130 ?_
  refine lv_aload_n hx hb dL_law_131 rfl (lv_at hl 0 rfl) ?_
  refine lv_iload hx hb dL_law_132 (lv_at hl 4 rfl) ?_
  refine lv_iconst (v := 2) hx hb dL_law_134 (by decide) ?_
  refine lv_iadd hx hb dL_law_135 ?_
  refine va_sld hx hb hX hbl hbA hS hi2 dL_law_136 ?_
  refine lv_aload_n hx hb dL_law_137 rfl (lv_at hl 3 rfl) ?_
  have hF := va_free (wc := (ow a cI cJ ou ho ke hc tr fo fr st co ro cA cD su jA jD)) hD hS hA [7, 8, 9, 10, 11, 12, 13, 14, 15, 16, 17, 18, 19, 20, 21, 22, 23] rfl
  refine cW_i [7, 8, 9, 10, 11, 12, 13, 14, 15, 16, 17, 18, 19, 20, 21, 22, 23] [0, 1, 2, 3, 4, 5, 6] (vx_runSW (As := [.ref (a 15), .int (xs (nI i + 1).toNatClampNeg), .int (xs (nI i + 2).toNatClampNeg), .ref (a 16)]) (rest := []) ⟨hx, hb, hml, hown, hts⟩ (kL_setFloor (l := l) (D := D) (cI := cI) (cJ := cJ) hlt N a (ou := ou) (ho := ho) (ke := ke) (hc := hc) (tr := tr) (fo := fo) (fr := fr) (st := st) (co := co) (ro := ro) (cA := cA) (cD := cD) (su := su) (jA := jA) (jD := jD) hC1 H.size) (vx_cwSW 4 hts gL_law_L_setFloor rfl rfl rfl (by decide +kernel) ⟨Nat.le_of_ble_eq_true rfl, Nat.le_of_ble_eq_true rfl⟩) (preST [.ref (a 15), .int (xs (nI i + 1).toNatClampNeg), .int (xs (nI i + 2).toNatClampNeg), .ref (a 16)] hTX hS (fun q h => hF q h) hN hK (hP.sub (ws' := (ow a cI cJ ou ho ke hc tr fo fr st co ro cA cD su jA jD)) [7, 8, 9, 10, 11, 12, 13, 14, 15, 16, 17, 18, 19, 20, 21, 22, 23] rfl) (hD.sub (ws' := (ow a cI cJ ou ho ke hc tr fo fr st co ro cA cD su jA jD)) [7, 8, 9, 10, 11, 12, 13, 14, 15, 16, 17, 18, 19, 20, 21, 22, 23] (by decide) rfl)) rfl rfl hl.1 rfl (lv_room (Nat.le_of_ble_eq_true rfl)) dL_law_138 ⟨by dsimp only [room_1]; omega, by dsimp only [room_1]; omega⟩) hP hD hS hA rfl (wr := (mw b cI th w h ms mu mb me mf mt mv ml mk)) rfl (by decide) (by decide) (fun r u H locs hw hP hD hS => ?_)
  obtain ⟨u1, hu1⟩ : ∃ z, z = u := ⟨_, rfl⟩
  rw [hw]
  replace hP : va_P D vwCl (mw b cI th w h ms mu mb me mf mt mv ml mk ++ ow a cI cJ o1.2.1 ho ke hc tr fo o1.2.2.1 o1.2.2.2.1 o1.2.2.2.2.1 o1.2.2.2.2.2.1 o1.2.2.2.2.2.2.1 o1.2.2.2.2.2.2.2 su jA jD) H := hP
  replace hD : va_D (fun q : Nat => s.heap.size ≤ q) (mw b cI th w h ms mu mb me mf mt mv ml mk ++ ow a cI cJ o1.2.1 ho ke hc tr fo o1.2.2.1 o1.2.2.2.1 o1.2.2.2.2.1 o1.2.2.2.2.2.1 o1.2.2.2.2.2.2.1 o1.2.2.2.2.2.2.2 su jA jD) := hD
  refine lv_istore (lv' := [(5, .int o1.1), (0, .ref b0), (1, .ref (a 15)), (2, .ref (b 0)), (3, .ref (a 16)), (4, .int (nI i))]) hx hb dL_law_141 hl (by decide) rfl (fun ls hl => ?_)
  refine lv_aload_n hx hb dL_law_143 rfl (lv_at hl 3 rfl) ?_
  refine lv_aload_n hx hb dL_law_144 rfl (lv_at hl 1 rfl) ?_
  refine lv_iload hx hb dL_law_145 (lv_at hl 5 rfl) ?_
  refine lv_iconst (v := 1) hx hb dL_law_147 (by decide) ?_
  refine lv_iadd hx hb dL_law_148 ?_
  refine va_sld hx hb hX hbl hbA hS hi1 dL_law_149 ?_
  refine lv_aload_n hx hb dL_law_150 rfl (lv_at hl 1 rfl) ?_
  refine lv_iload hx hb dL_law_151 (lv_at hl 5 rfl) ?_
  refine lv_iconst (v := 2) hx hb dL_law_153 (by decide) ?_
  refine lv_iadd hx hb dL_law_154 ?_
  refine va_sld hx hb hX hbl hbA hS hi2 dL_law_155 ?_
  refine cW_i [0, 1, 2, 3, 4, 5, 6] [7, 8, 9, 10, 11, 12, 13, 14, 15, 16, 17, 18, 19, 20, 21, 22, 23] (va_runV (As := [.int (xs (nI i + 1).toNatClampNeg), .int (xs (nI i + 2).toNatClampNeg)]) (rest := []) ⟨hx, hb, hml, hown, hts⟩ (kX5_setFloor (l := l) (D := D) (cI := cI) (cJ := cJ) N b (th := th) (w := w) (h := h) (ms := ms) (mu := mu) (mb := mb) (me := me) (mf := mf) (mt := mt) (mv := mv) (ml := ml) (mk := mk) hC2 H.size) (cwV 2 hts gL_law_X5_setFloor rfl rfl rfl (by decide +kernel) ⟨Nat.le_of_ble_eq_true rfl, Nat.le_of_ble_eq_true rfl⟩) (preV [.int (xs (nI i + 1).toNatClampNeg), .int (xs (nI i + 2).toNatClampNeg)] hN hK (hP.sub (ws' := (mw b cI th w h ms mu mb me mf mt mv ml mk)) [0, 1, 2, 3, 4, 5, 6] rfl) (hD.sub (ws' := (mw b cI th w h ms mu mb me mf mt mv ml mk)) [0, 1, 2, 3, 4, 5, 6] (by decide) rfl) (ci := 5) (q0 := 0) rfl rfl) rfl rfl hl.1 rfl (lv_room (Nat.le_of_ble_eq_true rfl)) dL_law_156 ⟨by dsimp only [room_1]; omega, by dsimp only [room_1]; omega⟩) hP hD hS hA rfl (wr := (ow a cI cJ o1.2.1 ho ke hc tr fo o1.2.2.1 o1.2.2.2.1 o1.2.2.2.2.1 o1.2.2.2.2.2.1 o1.2.2.2.2.2.2.1 o1.2.2.2.2.2.2.2 su jA jD)) rfl (by decide) (by decide) (fun r u H locs hw hP hD hS => ?_)
  rw [hw]
  replace hP := hP.sub (ws' := mw b cI o2.2.1 o2.2.2.1 o2.2.2.2.1 o2.2.2.2.2.1 o2.2.2.2.2.2.1 o2.2.2.2.2.2.2 me mf mt mv ml mk ++ ow a cI cJ o1.2.1 ho ke hc tr fo o1.2.2.1 o1.2.2.2.1 o1.2.2.2.2.1 o1.2.2.2.2.2.1 o1.2.2.2.2.2.2.1 o1.2.2.2.2.2.2.2 su jA jD) [17, 18, 19, 20, 21, 22, 23, 0, 1, 2, 3, 4, 5, 6, 7, 8, 9, 10, 11, 12, 13, 14, 15, 16] rfl
  replace hD := hD.sub (ws' := mw b cI o2.2.1 o2.2.2.1 o2.2.2.2.1 o2.2.2.2.2.1 o2.2.2.2.2.2.1 o2.2.2.2.2.2.2 me mf mt mv ml mk ++ ow a cI cJ o1.2.1 ho ke hc tr fo o1.2.2.1 o1.2.2.2.1 o1.2.2.2.2.1 o1.2.2.2.2.2.1 o1.2.2.2.2.2.2.1 o1.2.2.2.2.2.2.2 su jA jD) [17, 18, 19, 20, 21, 22, 23, 0, 1, 2, 3, 4, 5, 6, 7, 8, 9, 10, 11, 12, 13, 14, 15, 16] (by decide) rfl
  refine lv_istore (lv' := [(6, .int o2.1), (5, .int o1.1), (0, .ref b0), (1, .ref (a 15)), (2, .ref (b 0)), (3, .ref (a 16)), (4, .int (nI i))]) hx hb dL_law_159 hl (by decide) rfl (fun ls hl => ?_)
  refine lv_aload_n hx hb dL_law_161 rfl (lv_at hl 4 rfl) ?_
  refine cR_i (va_runV (As := []) (rest := []) ⟨hx, hb, hml, hown, hts⟩ (kX5_thrown (l := l) (D := D) (cI := cI) (cJ := cJ) N b (th := o2.2.1) (w := o2.2.2.1) (h := o2.2.2.2.1) (ms := o2.2.2.2.2.1) (mu := o2.2.2.2.2.2.1) (mb := o2.2.2.2.2.2.2) (me := me) (mf := mf) (mt := mt) (mv := mv) (ml := ml) (mk := mk) (o := o2.2.1) rfl H.size) (cwV 0 hts gL_law_X5_thrown rfl rfl rfl (by decide +kernel) ⟨Nat.le_of_ble_eq_true rfl, Nat.le_of_ble_eq_true rfl⟩) (preV [] hN hK (hP.sub (ws' := (mw b cI o2.2.1 o2.2.2.1 o2.2.2.2.1 o2.2.2.2.2.1 o2.2.2.2.2.2.1 o2.2.2.2.2.2.2 me mf mt mv ml mk)) [0, 1, 2, 3, 4, 5, 6] rfl) (hD.sub (ws' := (mw b cI o2.2.1 o2.2.2.1 o2.2.2.2.1 o2.2.2.2.2.1 o2.2.2.2.2.2.1 o2.2.2.2.2.2.2 me mf mt mv ml mk)) [0, 1, 2, 3, 4, 5, 6] (by decide) rfl) (ci := 5) (q0 := 0) rfl rfl) rfl rfl hl.1 rfl (lv_room (Nat.le_of_ble_eq_true rfl)) dL_law_162 ⟨by dsimp only [room_1]; omega, by dsimp only [room_1]; omega⟩) hP hS (fun r u H locs hw hP hS => ?_)
  rw [hw]
  refine lv_iload hx hb dL_law_165 (lv_at hl 1 rfl) ?_
  refine lv_icmp_eq (tgt := 172) hx hb dL_law_167 (by decide) (fun _ => ?_) (fun h9 => absurd hth h9)
  refine lv_iload hx hb dL_law_172 (lv_at hl 1 rfl) ?_
  refine lv_if_ne (tgt := 189) hx hb dL_law_174 (by decide) (fun hk => ?_) (fun hk => ?_)
  · skip
    refine lv_goto (tgt := 1050) hx hb dL_law_189 (by decide) ?_
    refine W.widen (k := cells + 2) (n := slots + 12) (by omega) (by omega) ?_
    exact kk _ _ _ _ _ _ _ _ _ _ _ _ _ _ _ _ _ _ _ _ _ _ _ _ hR _ _ _ hP hD hS (lv_sub hl [2, 3, 4, 5, 6] rfl)
  · skip
    refine lv_aload_n hx hb dL_law_177 rfl (lv_at hl 5 rfl) ?_
    refine lv_iconst (v := 0) hx hb dL_law_178 (by decide) ?_
    refine va_lald (D := D) hx hb hK hP 7 1 rfl rfl (show vp_in (0 : Int32) 1 from vp_in_nI (n := 0) (by omega) (by omega)) dL_law_179 ?_
    refine lv_iload hx hb dL_law_180 (lv_at hl 0 rfl) ?_
    refine lv_i2l hx hb dL_law_182 rfl ?_
    refine W.lcmp hx hb dL_law_183 ?_
    refine lv_if_eq (tgt := 189) hx hb dL_law_184 (by decide) (fun _ => ?_) (fun h9 => absurd ((lg_cmp_eq _ _).mpr (hou hk)) h9)
    refine lv_goto (tgt := 1050) hx hb dL_law_189 (by decide) ?_
    refine W.widen (k := cells + 2) (n := slots + 12) (by omega) (by omega) ?_
    exact kk _ _ _ _ _ _ _ _ _ _ _ _ _ _ _ _ _ _ _ _ _ _ _ _ hR _ _ _ hP hD hS (lv_sub hl [2, 3, 4, 5, 6] rfl)
set_option maxHeartbeats 4000000 in
set_option maxRecDepth 100000 in
/-- pillar -/
theorem law_1 {p : Program} {l : Launch} {e : Env} {s : State} {m : MethodId} {below : List Frame} {meth : Method} {c : Code} {b0 L : Nat} {xs : Nat → Int32} {D : va_G} {cI cJ : ClassId} {Q : State → Prop} {N : Nat} (hN6 : 600 ≤ N) (C0 : LA p l s m meth c b0 L xs D cI cJ) (a b : Nat → Nat) {i : Nat} (hi : i + 4 ≤ L) (hL : L ≤ 2048)
    {st ho ke ms mu mb me mf mk : RowI} {hc tr fo fr co ro th w h mt mv ml : Int32} {ou su : RowJ} {cA cD : CS} {jA jD : JT} (hr : Rel ke tr fo fr st co ro cA cD su w h ms mu mb me mf)
    {H : Heap} {locs : List Loc} {ls : Array Slot} {cells slots : Nat} (hcl : cells + 2 ≤ 601024) (hsl : slots + 12 ≤ 7293034) (hP : va_P D vwCl (lawW a b cI cJ th w h ms mu mb me mf mt mv ml mk ou ho ke hc tr fo fr st co ro cA cD su jA jD) H) (hD : va_D (fun q : Nat => s.heap.size ≤ q) (lawW a b cI cJ th w h ms mu mb me mf mt mv ml mk ou ho ke hc tr fo fr st co ro cA cD su jA jD)) (hS : va_S (fun q : Nat => s.heap.size ≤ q) s.heap H locs) (hl : lv_has ls 9 (lv5 a b b0 i))
    (kk : KK p l e s m below meth c b0 D cI cJ Q a b i su me mf (cells + 2) (slots + 12)) : W p l e room_1 s m #[Value.ref b0] below meth c H locs cells slots Q (F0 m 192 ls []) := by
  obtain ⟨hx, hb, hr9, hml, hown, hts, hX, hbl, hlocks, hlt, hN, hTX, hK⟩ := C0
  have hA : ∀ q : Nat, s.heap.size ≤ q → (fun q : Nat => s.heap.size ≤ q) q := fun _ h => h
  have hbA : ¬ (fun q : Nat => s.heap.size ≤ q) b0 := Nat.not_le.mpr hbl
  have hi1 : vp_in (nI i + 1) L := by rw [show (1 : Int32) = nI 1 from rfl, nI_add]; exact vp_in_nI (by omega) (by omega)
  replace hP : va_P D vwCl (mw b cI th w h ms mu mb me mf mt mv ml mk ++ ow a cI cJ ou ho ke hc tr fo fr st co ro cA cD su jA jD) H := hP
  replace hD : va_D (fun q : Nat => s.heap.size ≤ q) (mw b cI th w h ms mu mb me mf mt mv ml mk ++ ow a cI cJ ou ho ke hc tr fo fr st co ro cA cD su jA jD) := hD
  replace hl : lv_has ls 9 [(0, .ref b0), (1, .ref (a 15)), (2, .ref (b 0)), (3, .ref (a 16)), (4, .int (nI i))] := hl
  obtain ⟨o1, o2, hC1, hC2, hth, hou, hR⟩ := t_pillar hN6 hr ou th (xs (nI i + 1).toNatClampNeg)
  refine lv_aload_n hx hb dL_law_192 rfl (lv_at hl 1 rfl) ?_
  refine lv_aload_n hx hb dL_law_193 rfl (lv_at hl 0 rfl) ?_
  refine lv_iload hx hb dL_law_194 (lv_at hl 4 rfl) ?_
  refine lv_iconst (v := 1) hx hb dL_law_196 (by decide) ?_
  refine lv_iadd hx hb dL_law_197 ?_
  refine va_sld hx hb hX hbl hbA hS hi1 dL_law_198 ?_
  refine lv_aload_n hx hb dL_law_199 rfl (lv_at hl 3 rfl) ?_
  have hF := va_free (wc := (ow a cI cJ ou ho ke hc tr fo fr st co ro cA cD su jA jD)) hD hS hA [7, 8, 9, 10, 11, 12, 13, 14, 15, 16, 17, 18, 19, 20, 21, 22, 23] rfl
  refine cW_i [7, 8, 9, 10, 11, 12, 13, 14, 15, 16, 17, 18, 19, 20, 21, 22, 23] [0, 1, 2, 3, 4, 5, 6] (vx_runSW (As := [.ref (a 15), .int (xs (nI i + 1).toNatClampNeg), .ref (a 16)]) (rest := []) ⟨hx, hb, hml, hown, hts⟩ (kL_pillar (l := l) (D := D) (cI := cI) (cJ := cJ) hlt N a (ou := ou) (ho := ho) (ke := ke) (hc := hc) (tr := tr) (fo := fo) (fr := fr) (st := st) (co := co) (ro := ro) (cA := cA) (cD := cD) (su := su) (jA := jA) (jD := jD) hC1 H.size) (vx_cwSW 3 hts gL_law_L_pillar rfl rfl rfl (by decide +kernel) ⟨Nat.le_of_ble_eq_true rfl, Nat.le_of_ble_eq_true rfl⟩) (preST [.ref (a 15), .int (xs (nI i + 1).toNatClampNeg), .ref (a 16)] hTX hS (fun q h => hF q h) hN hK (hP.sub (ws' := (ow a cI cJ ou ho ke hc tr fo fr st co ro cA cD su jA jD)) [7, 8, 9, 10, 11, 12, 13, 14, 15, 16, 17, 18, 19, 20, 21, 22, 23] rfl) (hD.sub (ws' := (ow a cI cJ ou ho ke hc tr fo fr st co ro cA cD su jA jD)) [7, 8, 9, 10, 11, 12, 13, 14, 15, 16, 17, 18, 19, 20, 21, 22, 23] (by decide) rfl)) rfl rfl hl.1 rfl (lv_room (Nat.le_of_ble_eq_true rfl)) dL_law_200 ⟨by dsimp only [room_1]; omega, by dsimp only [room_1]; omega⟩) hP hD hS hA rfl (wr := (mw b cI th w h ms mu mb me mf mt mv ml mk)) rfl (by decide) (by decide) (fun r u H locs hw hP hD hS => ?_)
  obtain ⟨u1, hu1⟩ : ∃ z, z = u := ⟨_, rfl⟩
  rw [hw]
  replace hP : va_P D vwCl (mw b cI th w h ms mu mb me mf mt mv ml mk ++ ow a cI cJ o1.2.1 ho ke hc tr fo o1.2.2.1 o1.2.2.2.1 co ro o1.2.2.2.2.1 o1.2.2.2.2.2 su jA jD) H := hP
  replace hD : va_D (fun q : Nat => s.heap.size ≤ q) (mw b cI th w h ms mu mb me mf mt mv ml mk ++ ow a cI cJ o1.2.1 ho ke hc tr fo o1.2.2.1 o1.2.2.2.1 co ro o1.2.2.2.2.1 o1.2.2.2.2.2 su jA jD) := hD
  refine lv_istore (lv' := [(5, .int o1.1), (0, .ref b0), (1, .ref (a 15)), (2, .ref (b 0)), (3, .ref (a 16)), (4, .int (nI i))]) hx hb dL_law_203 hl (by decide) rfl (fun ls hl => ?_)
  refine lv_aload_n hx hb dL_law_205 rfl (lv_at hl 3 rfl) ?_
  refine lv_aload_n hx hb dL_law_206 rfl (lv_at hl 1 rfl) ?_
  refine lv_iload hx hb dL_law_207 (lv_at hl 5 rfl) ?_
  refine lv_iconst (v := 1) hx hb dL_law_209 (by decide) ?_
  refine lv_iadd hx hb dL_law_210 ?_
  refine va_sld hx hb hX hbl hbA hS hi1 dL_law_211 ?_
  refine cW_i [0, 1, 2, 3, 4, 5, 6] [7, 8, 9, 10, 11, 12, 13, 14, 15, 16, 17, 18, 19, 20, 21, 22, 23] (va_runV (As := [.int (xs (nI i + 1).toNatClampNeg)]) (rest := []) ⟨hx, hb, hml, hown, hts⟩ (kX5_pillar (l := l) (D := D) (cI := cI) (cJ := cJ) N b (th := th) (w := w) (h := h) (ms := ms) (mu := mu) (mb := mb) (me := me) (mf := mf) (mt := mt) (mv := mv) (ml := ml) (mk := mk) hC2 H.size) (cwV 1 hts gL_law_X5_pillar rfl rfl rfl (by decide +kernel) ⟨Nat.le_of_ble_eq_true rfl, Nat.le_of_ble_eq_true rfl⟩) (preV [.int (xs (nI i + 1).toNatClampNeg)] hN hK (hP.sub (ws' := (mw b cI th w h ms mu mb me mf mt mv ml mk)) [0, 1, 2, 3, 4, 5, 6] rfl) (hD.sub (ws' := (mw b cI th w h ms mu mb me mf mt mv ml mk)) [0, 1, 2, 3, 4, 5, 6] (by decide) rfl) (ci := 5) (q0 := 0) rfl rfl) rfl rfl hl.1 rfl (lv_room (Nat.le_of_ble_eq_true rfl)) dL_law_212 ⟨by dsimp only [room_1]; omega, by dsimp only [room_1]; omega⟩) hP hD hS hA rfl (wr := (ow a cI cJ o1.2.1 ho ke hc tr fo o1.2.2.1 o1.2.2.2.1 co ro o1.2.2.2.2.1 o1.2.2.2.2.2 su jA jD)) rfl (by decide) (by decide) (fun r u H locs hw hP hD hS => ?_)
  obtain ⟨hw, _⟩ := hw
  rw [hw]
  replace hP := hP.sub (ws' := mw b cI o2.2.1 w h o2.2.2.1 mu o2.2.2.2 me mf mt mv ml mk ++ ow a cI cJ o1.2.1 ho ke hc tr fo o1.2.2.1 o1.2.2.2.1 co ro o1.2.2.2.2.1 o1.2.2.2.2.2 su jA jD) [17, 18, 19, 20, 21, 22, 23, 0, 1, 2, 3, 4, 5, 6, 7, 8, 9, 10, 11, 12, 13, 14, 15, 16] rfl
  replace hD := hD.sub (ws' := mw b cI o2.2.1 w h o2.2.2.1 mu o2.2.2.2 me mf mt mv ml mk ++ ow a cI cJ o1.2.1 ho ke hc tr fo o1.2.2.1 o1.2.2.2.1 co ro o1.2.2.2.2.1 o1.2.2.2.2.2 su jA jD) [17, 18, 19, 20, 21, 22, 23, 0, 1, 2, 3, 4, 5, 6, 7, 8, 9, 10, 11, 12, 13, 14, 15, 16] (by decide) rfl
  refine lv_istore (lv' := [(6, .int o2.1), (5, .int o1.1), (0, .ref b0), (1, .ref (a 15)), (2, .ref (b 0)), (3, .ref (a 16)), (4, .int (nI i))]) hx hb dL_law_215 hl (by decide) rfl (fun ls hl => ?_)
  refine lv_aload_n hx hb dL_law_217 rfl (lv_at hl 4 rfl) ?_
  refine cR_i (va_runV (As := []) (rest := []) ⟨hx, hb, hml, hown, hts⟩ (kX5_thrown (l := l) (D := D) (cI := cI) (cJ := cJ) N b (th := o2.2.1) (w := w) (h := h) (ms := o2.2.2.1) (mu := mu) (mb := o2.2.2.2) (me := me) (mf := mf) (mt := mt) (mv := mv) (ml := ml) (mk := mk) (o := o2.2.1) rfl H.size) (cwV 0 hts gL_law_X5_thrown rfl rfl rfl (by decide +kernel) ⟨Nat.le_of_ble_eq_true rfl, Nat.le_of_ble_eq_true rfl⟩) (preV [] hN hK (hP.sub (ws' := (mw b cI o2.2.1 w h o2.2.2.1 mu o2.2.2.2 me mf mt mv ml mk)) [0, 1, 2, 3, 4, 5, 6] rfl) (hD.sub (ws' := (mw b cI o2.2.1 w h o2.2.2.1 mu o2.2.2.2 me mf mt mv ml mk)) [0, 1, 2, 3, 4, 5, 6] (by decide) rfl) (ci := 5) (q0 := 0) rfl rfl) rfl rfl hl.1 rfl (lv_room (Nat.le_of_ble_eq_true rfl)) dL_law_218 ⟨by dsimp only [room_1]; omega, by dsimp only [room_1]; omega⟩) hP hS (fun r u H locs hw hP hS => ?_)
  rw [hw]
  refine lv_iload hx hb dL_law_221 (lv_at hl 1 rfl) ?_
  refine lv_icmp_eq (tgt := 228) hx hb dL_law_223 (by decide) (fun _ => ?_) (fun h9 => absurd hth h9)
  refine lv_iload hx hb dL_law_228 (lv_at hl 1 rfl) ?_
  refine lv_if_ne (tgt := 252) hx hb dL_law_230 (by decide) (fun hk => ?_) (fun hk => ?_)
  · skip
    refine lv_goto (tgt := 1050) hx hb dL_law_252 (by decide) ?_
    refine W.widen (k := cells + 2) (n := slots + 12) (by omega) (by omega) ?_
    exact kk _ _ _ _ _ _ _ _ _ _ _ _ _ _ _ _ _ _ _ _ _ _ _ _ hR _ _ _ hP hD hS (lv_sub hl [2, 3, 4, 5, 6] rfl)
  · skip
    refine lv_aload_n hx hb dL_law_233 rfl (lv_at hl 5 rfl) ?_
    refine lv_iconst (v := 0) hx hb dL_law_234 (by decide) ?_
    refine va_lald (D := D) hx hb hK hP 7 1 rfl rfl (show vp_in (0 : Int32) 1 from vp_in_nI (n := 0) (by omega) (by omega)) dL_law_235 ?_
    refine lv_iload hx hb dL_law_236 (lv_at hl 0 rfl) ?_
    refine lv_if_eq (tgt := 245) hx hb dL_law_238 (by decide) (fun h9 => ?_) (fun h9 => ?_)
    · have hpl : _ := (by have h8 := hou hk; rw [if_pos h9] at h8; exact h8)
      refine lv_lconst (v := 0) hx hb dL_law_245 rfl ?_
      refine W.lcmp hx hb dL_law_246 ?_
      refine lv_if_eq (tgt := 252) hx hb dL_law_247 (by decide) (fun _ => ?_) (fun h9 => absurd ((lg_cmp_eq _ _).mpr (hpl)) h9)
      refine lv_goto (tgt := 1050) hx hb dL_law_252 (by decide) ?_
      refine W.widen (k := cells + 2) (n := slots + 12) (by omega) (by omega) ?_
      exact kk _ _ _ _ _ _ _ _ _ _ _ _ _ _ _ _ _ _ _ _ _ _ _ _ hR _ _ _ hP hD hS (lv_sub hl [2, 3, 4, 5, 6] rfl)
    · have hpl : _ := (by have h8 := hou hk; rw [if_neg h9] at h8; exact h8)
      refine lv_lconst (v := 1) hx hb dL_law_241 rfl ?_
      refine lv_goto (tgt := 246) hx hb dL_law_242 (by decide) ?_
      refine W.lcmp hx hb dL_law_246 ?_
      refine lv_if_eq (tgt := 252) hx hb dL_law_247 (by decide) (fun _ => ?_) (fun h9 => absurd ((lg_cmp_eq _ _).mpr (hpl)) h9)
      refine lv_goto (tgt := 1050) hx hb dL_law_252 (by decide) ?_
      refine W.widen (k := cells + 2) (n := slots + 12) (by omega) (by omega) ?_
      exact kk _ _ _ _ _ _ _ _ _ _ _ _ _ _ _ _ _ _ _ _ _ _ _ _ hR _ _ _ hP hD hS (lv_sub hl [2, 3, 4, 5, 6] rfl)
set_option maxHeartbeats 4000000 in
set_option maxRecDepth 100000 in
/-- setSum -/
theorem law_2 {p : Program} {l : Launch} {e : Env} {s : State} {m : MethodId} {below : List Frame} {meth : Method} {c : Code} {b0 L : Nat} {xs : Nat → Int32} {D : va_G} {cI cJ : ClassId} {Q : State → Prop} {N : Nat} (hN6 : 600 ≤ N) (C0 : LA p l s m meth c b0 L xs D cI cJ) (a b : Nat → Nat) {i : Nat} (hi : i + 4 ≤ L) (hL : L ≤ 2048)
    {st ho ke ms mu mb me mf mk : RowI} {hc tr fo fr co ro th w h mt mv ml : Int32} {ou su : RowJ} {cA cD : CS} {jA jD : JT} (hr : Rel ke tr fo fr st co ro cA cD su w h ms mu mb me mf)
    {H : Heap} {locs : List Loc} {ls : Array Slot} {cells slots : Nat} (hcl : cells + 2 ≤ 601024) (hsl : slots + 12 ≤ 7293034) (hP : va_P D vwCl (lawW a b cI cJ th w h ms mu mb me mf mt mv ml mk ou ho ke hc tr fo fr st co ro cA cD su jA jD) H) (hD : va_D (fun q : Nat => s.heap.size ≤ q) (lawW a b cI cJ th w h ms mu mb me mf mt mv ml mk ou ho ke hc tr fo fr st co ro cA cD su jA jD)) (hS : va_S (fun q : Nat => s.heap.size ≤ q) s.heap H locs) (hl : lv_has ls 9 (lv5 a b b0 i))
    (kk : KK p l e s m below meth c b0 D cI cJ Q a b i su me mf (cells + 2) (slots + 12)) : W p l e room_1 s m #[Value.ref b0] below meth c H locs cells slots Q (F0 m 255 ls []) := by
  obtain ⟨hx, hb, hr9, hml, hown, hts, hX, hbl, hlocks, hlt, hN, hTX, hK⟩ := C0
  have hA : ∀ q : Nat, s.heap.size ≤ q → (fun q : Nat => s.heap.size ≤ q) q := fun _ h => h
  have hbA : ¬ (fun q : Nat => s.heap.size ≤ q) b0 := Nat.not_le.mpr hbl
  have hi1 : vp_in (nI i + 1) L := by rw [show (1 : Int32) = nI 1 from rfl, nI_add]; exact vp_in_nI (by omega) (by omega)
  have hi2 : vp_in (nI i + 2) L := by rw [show (2 : Int32) = nI 2 from rfl, nI_add]; exact vp_in_nI (by omega) (by omega)
  have hi3 : vp_in (nI i + 3) L := by rw [show (3 : Int32) = nI 3 from rfl, nI_add]; exact vp_in_nI (by omega) (by omega)
  replace hP : va_P D vwCl (mw b cI th w h ms mu mb me mf mt mv ml mk ++ ow a cI cJ ou ho ke hc tr fo fr st co ro cA cD su jA jD) H := hP
  replace hD : va_D (fun q : Nat => s.heap.size ≤ q) (mw b cI th w h ms mu mb me mf mt mv ml mk ++ ow a cI cJ ou ho ke hc tr fo fr st co ro cA cD su jA jD) := hD
  replace hl : lv_has ls 9 [(0, .ref b0), (1, .ref (a 15)), (2, .ref (b 0)), (3, .ref (a 16)), (4, .int (nI i))] := hl
  by_cases hz : (xs (nI i + 2).toNatClampNeg) = 0
  · skip
    obtain ⟨o1, o2, hC1, hC2, hth, hou, hR⟩ := t_setSum hN6 hr ou th (xs (nI i + 1).toNatClampNeg) 0 (xs (nI i + 3).toNatClampNeg)
    refine lv_aload_n hx hb dL_law_255 rfl (lv_at hl 1 rfl) ?_
    refine lv_aload_n hx hb dL_law_256 rfl (lv_at hl 0 rfl) ?_
    refine lv_iload hx hb dL_law_257 (lv_at hl 4 rfl) ?_
    refine lv_iconst (v := 1) hx hb dL_law_259 (by decide) ?_
    refine lv_iadd hx hb dL_law_260 ?_
    refine va_sld hx hb hX hbl hbA hS hi1 dL_law_261 ?_
    refine lv_aload_n hx hb dL_law_262 rfl (lv_at hl 0 rfl) ?_
    refine lv_iload hx hb dL_law_263 (lv_at hl 4 rfl) ?_
    refine lv_iconst (v := 2) hx hb dL_law_265 (by decide) ?_
    refine lv_iadd hx hb dL_law_266 ?_
    refine va_sld hx hb hX hbl hbA hS hi2 dL_law_267 ?_
    refine lv_if_eq (tgt := 275) hx hb dL_law_268 (by decide) (fun _ => ?_) (fun h9 => absurd hz h9)
    refine lv_iconst (v := 0) hx hb dL_law_275 (by decide) ?_
    refine lv_aload_n hx hb dL_law_276 rfl (lv_at hl 0 rfl) ?_
    refine lv_iload hx hb dL_law_277 (lv_at hl 4 rfl) ?_
    refine lv_iconst (v := 3) hx hb dL_law_279 (by decide) ?_
    refine lv_iadd hx hb dL_law_280 ?_
    refine va_sld hx hb hX hbl hbA hS hi3 dL_law_281 ?_
    refine lv_aload_n hx hb dL_law_282 rfl (lv_at hl 3 rfl) ?_
    have hF := va_free (wc := (ow a cI cJ ou ho ke hc tr fo fr st co ro cA cD su jA jD)) hD hS hA [7, 8, 9, 10, 11, 12, 13, 14, 15, 16, 17, 18, 19, 20, 21, 22, 23] rfl
    refine cW_i [7, 8, 9, 10, 11, 12, 13, 14, 15, 16, 17, 18, 19, 20, 21, 22, 23] [0, 1, 2, 3, 4, 5, 6] (vx_runSW (As := [.ref (a 15), .int (xs (nI i + 1).toNatClampNeg), .int 0, .int (xs (nI i + 3).toNatClampNeg), .ref (a 16)]) (rest := []) ⟨hx, hb, hml, hown, hts⟩ (kL_setSum (l := l) (D := D) (cI := cI) (cJ := cJ) hlt N a (ou := ou) (ho := ho) (ke := ke) (hc := hc) (tr := tr) (fo := fo) (fr := fr) (st := st) (co := co) (ro := ro) (cA := cA) (cD := cD) (su := su) (jA := jA) (jD := jD) hC1 H.size) (vx_cwSW 5 hts gL_law_L_setSum rfl rfl rfl (by decide +kernel) ⟨Nat.le_of_ble_eq_true rfl, Nat.le_of_ble_eq_true rfl⟩) (preST [.ref (a 15), .int (xs (nI i + 1).toNatClampNeg), .int 0, .int (xs (nI i + 3).toNatClampNeg), .ref (a 16)] hTX hS (fun q h => hF q h) hN hK (hP.sub (ws' := (ow a cI cJ ou ho ke hc tr fo fr st co ro cA cD su jA jD)) [7, 8, 9, 10, 11, 12, 13, 14, 15, 16, 17, 18, 19, 20, 21, 22, 23] rfl) (hD.sub (ws' := (ow a cI cJ ou ho ke hc tr fo fr st co ro cA cD su jA jD)) [7, 8, 9, 10, 11, 12, 13, 14, 15, 16, 17, 18, 19, 20, 21, 22, 23] (by decide) rfl)) rfl rfl hl.1 rfl (lv_room (Nat.le_of_ble_eq_true rfl)) dL_law_283 ⟨by dsimp only [room_1]; omega, by dsimp only [room_1]; omega⟩) hP hD hS hA rfl (wr := (mw b cI th w h ms mu mb me mf mt mv ml mk)) rfl (by decide) (by decide) (fun r u H locs hw hP hD hS => ?_)
    obtain ⟨u1, hu1⟩ : ∃ z, z = u := ⟨_, rfl⟩
    rw [hw]
    replace hP : va_P D vwCl (mw b cI th w h ms mu mb me mf mt mv ml mk ++ ow a cI cJ o1.2.1 ho ke hc tr fo o1.2.2.1 st co ro o1.2.2.2.1 o1.2.2.2.2 su jA jD) H := hP
    replace hD : va_D (fun q : Nat => s.heap.size ≤ q) (mw b cI th w h ms mu mb me mf mt mv ml mk ++ ow a cI cJ o1.2.1 ho ke hc tr fo o1.2.2.1 st co ro o1.2.2.2.1 o1.2.2.2.2 su jA jD) := hD
    refine lv_istore (lv' := [(5, .int o1.1), (0, .ref b0), (1, .ref (a 15)), (2, .ref (b 0)), (3, .ref (a 16)), (4, .int (nI i))]) hx hb dL_law_286 hl (by decide) rfl (fun ls hl => ?_)
    refine lv_aload_n hx hb dL_law_288 rfl (lv_at hl 3 rfl) ?_
    refine lv_aload_n hx hb dL_law_289 rfl (lv_at hl 1 rfl) ?_
    refine lv_iload hx hb dL_law_290 (lv_at hl 5 rfl) ?_
    refine lv_iconst (v := 1) hx hb dL_law_292 (by decide) ?_
    refine lv_iadd hx hb dL_law_293 ?_
    refine va_sld hx hb hX hbl hbA hS hi1 dL_law_294 ?_
    refine lv_aload_n hx hb dL_law_295 rfl (lv_at hl 1 rfl) ?_
    refine lv_iload hx hb dL_law_296 (lv_at hl 5 rfl) ?_
    refine lv_iconst (v := 2) hx hb dL_law_298 (by decide) ?_
    refine lv_iadd hx hb dL_law_299 ?_
    refine va_sld hx hb hX hbl hbA hS hi2 dL_law_300 ?_
    refine lv_if_eq (tgt := 308) hx hb dL_law_301 (by decide) (fun _ => ?_) (fun h9 => absurd hz h9)
    refine lv_iconst (v := 0) hx hb dL_law_308 (by decide) ?_
    refine lv_aload_n hx hb dL_law_309 rfl (lv_at hl 1 rfl) ?_
    refine lv_iload hx hb dL_law_310 (lv_at hl 5 rfl) ?_
    refine lv_iconst (v := 3) hx hb dL_law_312 (by decide) ?_
    refine lv_iadd hx hb dL_law_313 ?_
    refine va_sld hx hb hX hbl hbA hS hi3 dL_law_314 ?_
    refine cW_i [0, 1, 2, 3, 4, 5, 6] [7, 8, 9, 10, 11, 12, 13, 14, 15, 16, 17, 18, 19, 20, 21, 22, 23] (va_runV (As := [.int (xs (nI i + 1).toNatClampNeg), .int 0, .int (xs (nI i + 3).toNatClampNeg)]) (rest := []) ⟨hx, hb, hml, hown, hts⟩ (kX5_setSum (l := l) (D := D) (cI := cI) (cJ := cJ) N b (th := th) (w := w) (h := h) (ms := ms) (mu := mu) (mb := mb) (me := me) (mf := mf) (mt := mt) (mv := mv) (ml := ml) (mk := mk) hC2 H.size) (cwV 3 hts gL_law_X5_setSum rfl rfl rfl (by decide +kernel) ⟨Nat.le_of_ble_eq_true rfl, Nat.le_of_ble_eq_true rfl⟩) (preV [.int (xs (nI i + 1).toNatClampNeg), .int 0, .int (xs (nI i + 3).toNatClampNeg)] hN hK (hP.sub (ws' := (mw b cI th w h ms mu mb me mf mt mv ml mk)) [0, 1, 2, 3, 4, 5, 6] rfl) (hD.sub (ws' := (mw b cI th w h ms mu mb me mf mt mv ml mk)) [0, 1, 2, 3, 4, 5, 6] (by decide) rfl) (ci := 5) (q0 := 0) rfl rfl) rfl rfl hl.1 rfl (lv_room (Nat.le_of_ble_eq_true rfl)) dL_law_315 ⟨by dsimp only [room_1]; omega, by dsimp only [room_1]; omega⟩) hP hD hS hA rfl (wr := (ow a cI cJ o1.2.1 ho ke hc tr fo o1.2.2.1 st co ro o1.2.2.2.1 o1.2.2.2.2 su jA jD)) rfl (by decide) (by decide) (fun r u H locs hw hP hD hS => ?_)
    rw [hw]
    replace hP := hP.sub (ws' := mw b cI o2.2.1 w h ms o2.2.2 mb me mf mt mv ml mk ++ ow a cI cJ o1.2.1 ho ke hc tr fo o1.2.2.1 st co ro o1.2.2.2.1 o1.2.2.2.2 su jA jD) [17, 18, 19, 20, 21, 22, 23, 0, 1, 2, 3, 4, 5, 6, 7, 8, 9, 10, 11, 12, 13, 14, 15, 16] rfl
    replace hD := hD.sub (ws' := mw b cI o2.2.1 w h ms o2.2.2 mb me mf mt mv ml mk ++ ow a cI cJ o1.2.1 ho ke hc tr fo o1.2.2.1 st co ro o1.2.2.2.1 o1.2.2.2.2 su jA jD) [17, 18, 19, 20, 21, 22, 23, 0, 1, 2, 3, 4, 5, 6, 7, 8, 9, 10, 11, 12, 13, 14, 15, 16] (by decide) rfl
    refine lv_istore (lv' := [(6, .int o2.1), (5, .int o1.1), (0, .ref b0), (1, .ref (a 15)), (2, .ref (b 0)), (3, .ref (a 16)), (4, .int (nI i))]) hx hb dL_law_318 hl (by decide) rfl (fun ls hl => ?_)
    refine lv_aload_n hx hb dL_law_320 rfl (lv_at hl 4 rfl) ?_
    refine cR_i (va_runV (As := []) (rest := []) ⟨hx, hb, hml, hown, hts⟩ (kX5_thrown (l := l) (D := D) (cI := cI) (cJ := cJ) N b (th := o2.2.1) (w := w) (h := h) (ms := ms) (mu := o2.2.2) (mb := mb) (me := me) (mf := mf) (mt := mt) (mv := mv) (ml := ml) (mk := mk) (o := o2.2.1) rfl H.size) (cwV 0 hts gL_law_X5_thrown rfl rfl rfl (by decide +kernel) ⟨Nat.le_of_ble_eq_true rfl, Nat.le_of_ble_eq_true rfl⟩) (preV [] hN hK (hP.sub (ws' := (mw b cI o2.2.1 w h ms o2.2.2 mb me mf mt mv ml mk)) [0, 1, 2, 3, 4, 5, 6] rfl) (hD.sub (ws' := (mw b cI o2.2.1 w h ms o2.2.2 mb me mf mt mv ml mk)) [0, 1, 2, 3, 4, 5, 6] (by decide) rfl) (ci := 5) (q0 := 0) rfl rfl) rfl rfl hl.1 rfl (lv_room (Nat.le_of_ble_eq_true rfl)) dL_law_321 ⟨by dsimp only [room_1]; omega, by dsimp only [room_1]; omega⟩) hP hS (fun r u H locs hw hP hS => ?_)
    rw [hw]
    refine lv_iload hx hb dL_law_324 (lv_at hl 1 rfl) ?_
    refine lv_icmp_eq (tgt := 331) hx hb dL_law_326 (by decide) (fun _ => ?_) (fun h9 => absurd hth h9)
    refine lv_iload hx hb dL_law_331 (lv_at hl 1 rfl) ?_
    refine lv_if_ne (tgt := 348) hx hb dL_law_333 (by decide) (fun hk => ?_) (fun hk => ?_)
    · skip
      refine lv_goto (tgt := 1050) hx hb dL_law_348 (by decide) ?_
      refine W.widen (k := cells + 2) (n := slots + 12) (by omega) (by omega) ?_
      exact kk _ _ _ _ _ _ _ _ _ _ _ _ _ _ _ _ _ _ _ _ _ _ _ _ hR _ _ _ hP hD hS (lv_sub hl [2, 3, 4, 5, 6] rfl)
    · skip
      refine lv_aload_n hx hb dL_law_336 rfl (lv_at hl 5 rfl) ?_
      refine lv_iconst (v := 0) hx hb dL_law_337 (by decide) ?_
      refine va_lald (D := D) hx hb hK hP 7 1 rfl rfl (show vp_in (0 : Int32) 1 from vp_in_nI (n := 0) (by omega) (by omega)) dL_law_338 ?_
      refine lv_iload hx hb dL_law_339 (lv_at hl 0 rfl) ?_
      refine lv_i2l hx hb dL_law_341 rfl ?_
      refine W.lcmp hx hb dL_law_342 ?_
      refine lv_if_eq (tgt := 348) hx hb dL_law_343 (by decide) (fun _ => ?_) (fun h9 => absurd ((lg_cmp_eq _ _).mpr (hou hk)) h9)
      refine lv_goto (tgt := 1050) hx hb dL_law_348 (by decide) ?_
      refine W.widen (k := cells + 2) (n := slots + 12) (by omega) (by omega) ?_
      exact kk _ _ _ _ _ _ _ _ _ _ _ _ _ _ _ _ _ _ _ _ _ _ _ _ hR _ _ _ hP hD hS (lv_sub hl [2, 3, 4, 5, 6] rfl)
  · skip
    obtain ⟨o1, o2, hC1, hC2, hth, hou, hR⟩ := t_setSum hN6 hr ou th (xs (nI i + 1).toNatClampNeg) 1 (xs (nI i + 3).toNatClampNeg)
    refine lv_aload_n hx hb dL_law_255 rfl (lv_at hl 1 rfl) ?_
    refine lv_aload_n hx hb dL_law_256 rfl (lv_at hl 0 rfl) ?_
    refine lv_iload hx hb dL_law_257 (lv_at hl 4 rfl) ?_
    refine lv_iconst (v := 1) hx hb dL_law_259 (by decide) ?_
    refine lv_iadd hx hb dL_law_260 ?_
    refine va_sld hx hb hX hbl hbA hS hi1 dL_law_261 ?_
    refine lv_aload_n hx hb dL_law_262 rfl (lv_at hl 0 rfl) ?_
    refine lv_iload hx hb dL_law_263 (lv_at hl 4 rfl) ?_
    refine lv_iconst (v := 2) hx hb dL_law_265 (by decide) ?_
    refine lv_iadd hx hb dL_law_266 ?_
    refine va_sld hx hb hX hbl hbA hS hi2 dL_law_267 ?_
    refine lv_if_eq (tgt := 275) hx hb dL_law_268 (by decide) (fun h9 => absurd h9 hz) (fun _ => ?_)
    refine lv_iconst (v := 1) hx hb dL_law_271 (by decide) ?_
    refine lv_goto (tgt := 276) hx hb dL_law_272 (by decide) ?_
    refine lv_aload_n hx hb dL_law_276 rfl (lv_at hl 0 rfl) ?_
    refine lv_iload hx hb dL_law_277 (lv_at hl 4 rfl) ?_
    refine lv_iconst (v := 3) hx hb dL_law_279 (by decide) ?_
    refine lv_iadd hx hb dL_law_280 ?_
    refine va_sld hx hb hX hbl hbA hS hi3 dL_law_281 ?_
    refine lv_aload_n hx hb dL_law_282 rfl (lv_at hl 3 rfl) ?_
    have hF := va_free (wc := (ow a cI cJ ou ho ke hc tr fo fr st co ro cA cD su jA jD)) hD hS hA [7, 8, 9, 10, 11, 12, 13, 14, 15, 16, 17, 18, 19, 20, 21, 22, 23] rfl
    refine cW_i [7, 8, 9, 10, 11, 12, 13, 14, 15, 16, 17, 18, 19, 20, 21, 22, 23] [0, 1, 2, 3, 4, 5, 6] (vx_runSW (As := [.ref (a 15), .int (xs (nI i + 1).toNatClampNeg), .int 1, .int (xs (nI i + 3).toNatClampNeg), .ref (a 16)]) (rest := []) ⟨hx, hb, hml, hown, hts⟩ (kL_setSum (l := l) (D := D) (cI := cI) (cJ := cJ) hlt N a (ou := ou) (ho := ho) (ke := ke) (hc := hc) (tr := tr) (fo := fo) (fr := fr) (st := st) (co := co) (ro := ro) (cA := cA) (cD := cD) (su := su) (jA := jA) (jD := jD) hC1 H.size) (vx_cwSW 5 hts gL_law_L_setSum rfl rfl rfl (by decide +kernel) ⟨Nat.le_of_ble_eq_true rfl, Nat.le_of_ble_eq_true rfl⟩) (preST [.ref (a 15), .int (xs (nI i + 1).toNatClampNeg), .int 1, .int (xs (nI i + 3).toNatClampNeg), .ref (a 16)] hTX hS (fun q h => hF q h) hN hK (hP.sub (ws' := (ow a cI cJ ou ho ke hc tr fo fr st co ro cA cD su jA jD)) [7, 8, 9, 10, 11, 12, 13, 14, 15, 16, 17, 18, 19, 20, 21, 22, 23] rfl) (hD.sub (ws' := (ow a cI cJ ou ho ke hc tr fo fr st co ro cA cD su jA jD)) [7, 8, 9, 10, 11, 12, 13, 14, 15, 16, 17, 18, 19, 20, 21, 22, 23] (by decide) rfl)) rfl rfl hl.1 rfl (lv_room (Nat.le_of_ble_eq_true rfl)) dL_law_283 ⟨by dsimp only [room_1]; omega, by dsimp only [room_1]; omega⟩) hP hD hS hA rfl (wr := (mw b cI th w h ms mu mb me mf mt mv ml mk)) rfl (by decide) (by decide) (fun r u H locs hw hP hD hS => ?_)
    obtain ⟨u1, hu1⟩ : ∃ z, z = u := ⟨_, rfl⟩
    rw [hw]
    replace hP : va_P D vwCl (mw b cI th w h ms mu mb me mf mt mv ml mk ++ ow a cI cJ o1.2.1 ho ke hc tr fo o1.2.2.1 st co ro o1.2.2.2.1 o1.2.2.2.2 su jA jD) H := hP
    replace hD : va_D (fun q : Nat => s.heap.size ≤ q) (mw b cI th w h ms mu mb me mf mt mv ml mk ++ ow a cI cJ o1.2.1 ho ke hc tr fo o1.2.2.1 st co ro o1.2.2.2.1 o1.2.2.2.2 su jA jD) := hD
    refine lv_istore (lv' := [(5, .int o1.1), (0, .ref b0), (1, .ref (a 15)), (2, .ref (b 0)), (3, .ref (a 16)), (4, .int (nI i))]) hx hb dL_law_286 hl (by decide) rfl (fun ls hl => ?_)
    refine lv_aload_n hx hb dL_law_288 rfl (lv_at hl 3 rfl) ?_
    refine lv_aload_n hx hb dL_law_289 rfl (lv_at hl 1 rfl) ?_
    refine lv_iload hx hb dL_law_290 (lv_at hl 5 rfl) ?_
    refine lv_iconst (v := 1) hx hb dL_law_292 (by decide) ?_
    refine lv_iadd hx hb dL_law_293 ?_
    refine va_sld hx hb hX hbl hbA hS hi1 dL_law_294 ?_
    refine lv_aload_n hx hb dL_law_295 rfl (lv_at hl 1 rfl) ?_
    refine lv_iload hx hb dL_law_296 (lv_at hl 5 rfl) ?_
    refine lv_iconst (v := 2) hx hb dL_law_298 (by decide) ?_
    refine lv_iadd hx hb dL_law_299 ?_
    refine va_sld hx hb hX hbl hbA hS hi2 dL_law_300 ?_
    refine lv_if_eq (tgt := 308) hx hb dL_law_301 (by decide) (fun h9 => absurd h9 hz) (fun _ => ?_)
    refine lv_iconst (v := 1) hx hb dL_law_304 (by decide) ?_
    refine lv_goto (tgt := 309) hx hb dL_law_305 (by decide) ?_
    refine lv_aload_n hx hb dL_law_309 rfl (lv_at hl 1 rfl) ?_
    refine lv_iload hx hb dL_law_310 (lv_at hl 5 rfl) ?_
    refine lv_iconst (v := 3) hx hb dL_law_312 (by decide) ?_
    refine lv_iadd hx hb dL_law_313 ?_
    refine va_sld hx hb hX hbl hbA hS hi3 dL_law_314 ?_
    refine cW_i [0, 1, 2, 3, 4, 5, 6] [7, 8, 9, 10, 11, 12, 13, 14, 15, 16, 17, 18, 19, 20, 21, 22, 23] (va_runV (As := [.int (xs (nI i + 1).toNatClampNeg), .int 1, .int (xs (nI i + 3).toNatClampNeg)]) (rest := []) ⟨hx, hb, hml, hown, hts⟩ (kX5_setSum (l := l) (D := D) (cI := cI) (cJ := cJ) N b (th := th) (w := w) (h := h) (ms := ms) (mu := mu) (mb := mb) (me := me) (mf := mf) (mt := mt) (mv := mv) (ml := ml) (mk := mk) hC2 H.size) (cwV 3 hts gL_law_X5_setSum rfl rfl rfl (by decide +kernel) ⟨Nat.le_of_ble_eq_true rfl, Nat.le_of_ble_eq_true rfl⟩) (preV [.int (xs (nI i + 1).toNatClampNeg), .int 1, .int (xs (nI i + 3).toNatClampNeg)] hN hK (hP.sub (ws' := (mw b cI th w h ms mu mb me mf mt mv ml mk)) [0, 1, 2, 3, 4, 5, 6] rfl) (hD.sub (ws' := (mw b cI th w h ms mu mb me mf mt mv ml mk)) [0, 1, 2, 3, 4, 5, 6] (by decide) rfl) (ci := 5) (q0 := 0) rfl rfl) rfl rfl hl.1 rfl (lv_room (Nat.le_of_ble_eq_true rfl)) dL_law_315 ⟨by dsimp only [room_1]; omega, by dsimp only [room_1]; omega⟩) hP hD hS hA rfl (wr := (ow a cI cJ o1.2.1 ho ke hc tr fo o1.2.2.1 st co ro o1.2.2.2.1 o1.2.2.2.2 su jA jD)) rfl (by decide) (by decide) (fun r u H locs hw hP hD hS => ?_)
    rw [hw]
    replace hP := hP.sub (ws' := mw b cI o2.2.1 w h ms o2.2.2 mb me mf mt mv ml mk ++ ow a cI cJ o1.2.1 ho ke hc tr fo o1.2.2.1 st co ro o1.2.2.2.1 o1.2.2.2.2 su jA jD) [17, 18, 19, 20, 21, 22, 23, 0, 1, 2, 3, 4, 5, 6, 7, 8, 9, 10, 11, 12, 13, 14, 15, 16] rfl
    replace hD := hD.sub (ws' := mw b cI o2.2.1 w h ms o2.2.2 mb me mf mt mv ml mk ++ ow a cI cJ o1.2.1 ho ke hc tr fo o1.2.2.1 st co ro o1.2.2.2.1 o1.2.2.2.2 su jA jD) [17, 18, 19, 20, 21, 22, 23, 0, 1, 2, 3, 4, 5, 6, 7, 8, 9, 10, 11, 12, 13, 14, 15, 16] (by decide) rfl
    refine lv_istore (lv' := [(6, .int o2.1), (5, .int o1.1), (0, .ref b0), (1, .ref (a 15)), (2, .ref (b 0)), (3, .ref (a 16)), (4, .int (nI i))]) hx hb dL_law_318 hl (by decide) rfl (fun ls hl => ?_)
    refine lv_aload_n hx hb dL_law_320 rfl (lv_at hl 4 rfl) ?_
    refine cR_i (va_runV (As := []) (rest := []) ⟨hx, hb, hml, hown, hts⟩ (kX5_thrown (l := l) (D := D) (cI := cI) (cJ := cJ) N b (th := o2.2.1) (w := w) (h := h) (ms := ms) (mu := o2.2.2) (mb := mb) (me := me) (mf := mf) (mt := mt) (mv := mv) (ml := ml) (mk := mk) (o := o2.2.1) rfl H.size) (cwV 0 hts gL_law_X5_thrown rfl rfl rfl (by decide +kernel) ⟨Nat.le_of_ble_eq_true rfl, Nat.le_of_ble_eq_true rfl⟩) (preV [] hN hK (hP.sub (ws' := (mw b cI o2.2.1 w h ms o2.2.2 mb me mf mt mv ml mk)) [0, 1, 2, 3, 4, 5, 6] rfl) (hD.sub (ws' := (mw b cI o2.2.1 w h ms o2.2.2 mb me mf mt mv ml mk)) [0, 1, 2, 3, 4, 5, 6] (by decide) rfl) (ci := 5) (q0 := 0) rfl rfl) rfl rfl hl.1 rfl (lv_room (Nat.le_of_ble_eq_true rfl)) dL_law_321 ⟨by dsimp only [room_1]; omega, by dsimp only [room_1]; omega⟩) hP hS (fun r u H locs hw hP hS => ?_)
    rw [hw]
    refine lv_iload hx hb dL_law_324 (lv_at hl 1 rfl) ?_
    refine lv_icmp_eq (tgt := 331) hx hb dL_law_326 (by decide) (fun _ => ?_) (fun h9 => absurd hth h9)
    refine lv_iload hx hb dL_law_331 (lv_at hl 1 rfl) ?_
    refine lv_if_ne (tgt := 348) hx hb dL_law_333 (by decide) (fun hk => ?_) (fun hk => ?_)
    · skip
      refine lv_goto (tgt := 1050) hx hb dL_law_348 (by decide) ?_
      refine W.widen (k := cells + 2) (n := slots + 12) (by omega) (by omega) ?_
      exact kk _ _ _ _ _ _ _ _ _ _ _ _ _ _ _ _ _ _ _ _ _ _ _ _ hR _ _ _ hP hD hS (lv_sub hl [2, 3, 4, 5, 6] rfl)
    · skip
      refine lv_aload_n hx hb dL_law_336 rfl (lv_at hl 5 rfl) ?_
      refine lv_iconst (v := 0) hx hb dL_law_337 (by decide) ?_
      refine va_lald (D := D) hx hb hK hP 7 1 rfl rfl (show vp_in (0 : Int32) 1 from vp_in_nI (n := 0) (by omega) (by omega)) dL_law_338 ?_
      refine lv_iload hx hb dL_law_339 (lv_at hl 0 rfl) ?_
      refine lv_i2l hx hb dL_law_341 rfl ?_
      refine W.lcmp hx hb dL_law_342 ?_
      refine lv_if_eq (tgt := 348) hx hb dL_law_343 (by decide) (fun _ => ?_) (fun h9 => absurd ((lg_cmp_eq _ _).mpr (hou hk)) h9)
      refine lv_goto (tgt := 1050) hx hb dL_law_348 (by decide) ?_
      refine W.widen (k := cells + 2) (n := slots + 12) (by omega) (by omega) ?_
      exact kk _ _ _ _ _ _ _ _ _ _ _ _ _ _ _ _ _ _ _ _ _ _ _ _ hR _ _ _ hP hD hS (lv_sub hl [2, 3, 4, 5, 6] rfl)
set_option maxHeartbeats 4000000 in
set_option maxRecDepth 100000 in
/-- put -/
theorem law_3 {p : Program} {l : Launch} {e : Env} {s : State} {m : MethodId} {below : List Frame} {meth : Method} {c : Code} {b0 L : Nat} {xs : Nat → Int32} {D : va_G} {cI cJ : ClassId} {Q : State → Prop} {N : Nat} (hN6 : 600 ≤ N) (C0 : LA p l s m meth c b0 L xs D cI cJ) (a b : Nat → Nat) {i : Nat} (hi : i + 4 ≤ L) (hL : L ≤ 2048)
    {st ho ke ms mu mb me mf mk : RowI} {hc tr fo fr co ro th w h mt mv ml : Int32} {ou su : RowJ} {cA cD : CS} {jA jD : JT} (hr : Rel ke tr fo fr st co ro cA cD su w h ms mu mb me mf)
    {H : Heap} {locs : List Loc} {ls : Array Slot} {cells slots : Nat} (hcl : cells + 2 ≤ 601024) (hsl : slots + 12 ≤ 7293034) (hP : va_P D vwCl (lawW a b cI cJ th w h ms mu mb me mf mt mv ml mk ou ho ke hc tr fo fr st co ro cA cD su jA jD) H) (hD : va_D (fun q : Nat => s.heap.size ≤ q) (lawW a b cI cJ th w h ms mu mb me mf mt mv ml mk ou ho ke hc tr fo fr st co ro cA cD su jA jD)) (hS : va_S (fun q : Nat => s.heap.size ≤ q) s.heap H locs) (hl : lv_has ls 9 (lv5 a b b0 i))
    (kk : KK p l e s m below meth c b0 D cI cJ Q a b i su me mf (cells + 2) (slots + 12)) : W p l e room_1 s m #[Value.ref b0] below meth c H locs cells slots Q (F0 m 351 ls []) := by
  obtain ⟨hx, hb, hr9, hml, hown, hts, hX, hbl, hlocks, hlt, hN, hTX, hK⟩ := C0
  have hA : ∀ q : Nat, s.heap.size ≤ q → (fun q : Nat => s.heap.size ≤ q) q := fun _ h => h
  have hbA : ¬ (fun q : Nat => s.heap.size ≤ q) b0 := Nat.not_le.mpr hbl
  have hi1 : vp_in (nI i + 1) L := by rw [show (1 : Int32) = nI 1 from rfl, nI_add]; exact vp_in_nI (by omega) (by omega)
  have hi2 : vp_in (nI i + 2) L := by rw [show (2 : Int32) = nI 2 from rfl, nI_add]; exact vp_in_nI (by omega) (by omega)
  replace hP : va_P D vwCl (mw b cI th w h ms mu mb me mf mt mv ml mk ++ ow a cI cJ ou ho ke hc tr fo fr st co ro cA cD su jA jD) H := hP
  replace hD : va_D (fun q : Nat => s.heap.size ≤ q) (mw b cI th w h ms mu mb me mf mt mv ml mk ++ ow a cI cJ ou ho ke hc tr fo fr st co ro cA cD su jA jD) := hD
  replace hl : lv_has ls 9 [(0, .ref b0), (1, .ref (a 15)), (2, .ref (b 0)), (3, .ref (a 16)), (4, .int (nI i))] := hl
  obtain ⟨o1, o2, hC1, hC2, hth, hou, hR⟩ := t_put hN6 hr ou th (xs (nI i + 1).toNatClampNeg) (xs (nI i + 2).toNatClampNeg)
  refine lv_aload_n hx hb dL_law_351 rfl (lv_at hl 1 rfl) ?_
  refine lv_aload_n hx hb dL_law_352 rfl (lv_at hl 0 rfl) ?_
  refine lv_iload hx hb dL_law_353 (lv_at hl 4 rfl) ?_
  refine lv_iconst (v := 1) hx hb dL_law_355 (by decide) ?_
  refine lv_iadd hx hb dL_law_356 ?_
  refine va_sld hx hb hX hbl hbA hS hi1 dL_law_357 ?_
  refine lv_aload_n hx hb dL_law_358 rfl (lv_at hl 0 rfl) ?_
  refine lv_iload hx hb dL_law_359 (lv_at hl 4 rfl) ?_
  refine lv_iconst (v := 2) hx hb dL_law_361 (by decide) ?_
  refine lv_iadd hx hb dL_law_362 ?_
  refine va_sld hx hb hX hbl hbA hS hi2 dL_law_363 ?_
  refine lv_aload_n hx hb dL_law_364 rfl (lv_at hl 3 rfl) ?_
  have hF := va_free (wc := (ow a cI cJ ou ho ke hc tr fo fr st co ro cA cD su jA jD)) hD hS hA [7, 8, 9, 10, 11, 12, 13, 14, 15, 16, 17, 18, 19, 20, 21, 22, 23] rfl
  refine cW_i [7, 8, 9, 10, 11, 12, 13, 14, 15, 16, 17, 18, 19, 20, 21, 22, 23] [0, 1, 2, 3, 4, 5, 6] (vx_runSW (As := [.ref (a 15), .int (xs (nI i + 1).toNatClampNeg), .int (xs (nI i + 2).toNatClampNeg), .ref (a 16)]) (rest := []) ⟨hx, hb, hml, hown, hts⟩ (kL_put (l := l) (D := D) (cI := cI) (cJ := cJ) hlt N a (ou := ou) (ho := ho) (ke := ke) (hc := hc) (tr := tr) (fo := fo) (fr := fr) (st := st) (co := co) (ro := ro) (cA := cA) (cD := cD) (su := su) (jA := jA) (jD := jD) hC1 H.size) (vx_cwSW 4 hts gL_law_L_put rfl rfl rfl (by decide +kernel) ⟨Nat.le_of_ble_eq_true rfl, Nat.le_of_ble_eq_true rfl⟩) (preST [.ref (a 15), .int (xs (nI i + 1).toNatClampNeg), .int (xs (nI i + 2).toNatClampNeg), .ref (a 16)] hTX hS (fun q h => hF q h) hN hK (hP.sub (ws' := (ow a cI cJ ou ho ke hc tr fo fr st co ro cA cD su jA jD)) [7, 8, 9, 10, 11, 12, 13, 14, 15, 16, 17, 18, 19, 20, 21, 22, 23] rfl) (hD.sub (ws' := (ow a cI cJ ou ho ke hc tr fo fr st co ro cA cD su jA jD)) [7, 8, 9, 10, 11, 12, 13, 14, 15, 16, 17, 18, 19, 20, 21, 22, 23] (by decide) rfl)) rfl rfl hl.1 rfl (lv_room (Nat.le_of_ble_eq_true rfl)) dL_law_365 ⟨by dsimp only [room_1]; omega, by dsimp only [room_1]; omega⟩) hP hD hS hA rfl (wr := (mw b cI th w h ms mu mb me mf mt mv ml mk)) rfl (by decide) (by decide) (fun r u H locs hw hP hD hS => ?_)
  obtain ⟨u1, hu1⟩ : ∃ z, z = u := ⟨_, rfl⟩
  rw [hw]
  replace hP : va_P D vwCl (mw b cI th w h ms mu mb me mf mt mv ml mk ++ ow a cI cJ o1.2.1 ho ke hc tr fo o1.2.2.1 o1.2.2.2 co ro cA cD su jA jD) H := hP
  replace hD : va_D (fun q : Nat => s.heap.size ≤ q) (mw b cI th w h ms mu mb me mf mt mv ml mk ++ ow a cI cJ o1.2.1 ho ke hc tr fo o1.2.2.1 o1.2.2.2 co ro cA cD su jA jD) := hD
  refine lv_istore (lv' := [(5, .int o1.1), (0, .ref b0), (1, .ref (a 15)), (2, .ref (b 0)), (3, .ref (a 16)), (4, .int (nI i))]) hx hb dL_law_368 hl (by decide) rfl (fun ls hl => ?_)
  refine lv_aload_n hx hb dL_law_370 rfl (lv_at hl 3 rfl) ?_
  refine lv_aload_n hx hb dL_law_371 rfl (lv_at hl 1 rfl) ?_
  refine lv_iload hx hb dL_law_372 (lv_at hl 5 rfl) ?_
  refine lv_iconst (v := 1) hx hb dL_law_374 (by decide) ?_
  refine lv_iadd hx hb dL_law_375 ?_
  refine va_sld hx hb hX hbl hbA hS hi1 dL_law_376 ?_
  refine lv_aload_n hx hb dL_law_377 rfl (lv_at hl 1 rfl) ?_
  refine lv_iload hx hb dL_law_378 (lv_at hl 5 rfl) ?_
  refine lv_iconst (v := 2) hx hb dL_law_380 (by decide) ?_
  refine lv_iadd hx hb dL_law_381 ?_
  refine va_sld hx hb hX hbl hbA hS hi2 dL_law_382 ?_
  refine cW_i [0, 1, 2, 3, 4, 5, 6] [7, 8, 9, 10, 11, 12, 13, 14, 15, 16, 17, 18, 19, 20, 21, 22, 23] (va_runV (As := [.int (xs (nI i + 1).toNatClampNeg), .int (xs (nI i + 2).toNatClampNeg)]) (rest := []) ⟨hx, hb, hml, hown, hts⟩ (kX5_put (l := l) (D := D) (cI := cI) (cJ := cJ) N b (th := th) (w := w) (h := h) (ms := ms) (mu := mu) (mb := mb) (me := me) (mf := mf) (mt := mt) (mv := mv) (ml := ml) (mk := mk) hC2 H.size) (cwV 2 hts gL_law_X5_put rfl rfl rfl (by decide +kernel) ⟨Nat.le_of_ble_eq_true rfl, Nat.le_of_ble_eq_true rfl⟩) (preV [.int (xs (nI i + 1).toNatClampNeg), .int (xs (nI i + 2).toNatClampNeg)] hN hK (hP.sub (ws' := (mw b cI th w h ms mu mb me mf mt mv ml mk)) [0, 1, 2, 3, 4, 5, 6] rfl) (hD.sub (ws' := (mw b cI th w h ms mu mb me mf mt mv ml mk)) [0, 1, 2, 3, 4, 5, 6] (by decide) rfl) (ci := 5) (q0 := 0) rfl rfl) rfl rfl hl.1 rfl (lv_room (Nat.le_of_ble_eq_true rfl)) dL_law_383 ⟨by dsimp only [room_1]; omega, by dsimp only [room_1]; omega⟩) hP hD hS hA rfl (wr := (ow a cI cJ o1.2.1 ho ke hc tr fo o1.2.2.1 o1.2.2.2 co ro cA cD su jA jD)) rfl (by decide) (by decide) (fun r u H locs hw hP hD hS => ?_)
  rw [hw]
  replace hP := hP.sub (ws' := mw b cI o2.2.1 w h o2.2.2 mu mb me mf mt mv ml mk ++ ow a cI cJ o1.2.1 ho ke hc tr fo o1.2.2.1 o1.2.2.2 co ro cA cD su jA jD) [17, 18, 19, 20, 21, 22, 23, 0, 1, 2, 3, 4, 5, 6, 7, 8, 9, 10, 11, 12, 13, 14, 15, 16] rfl
  replace hD := hD.sub (ws' := mw b cI o2.2.1 w h o2.2.2 mu mb me mf mt mv ml mk ++ ow a cI cJ o1.2.1 ho ke hc tr fo o1.2.2.1 o1.2.2.2 co ro cA cD su jA jD) [17, 18, 19, 20, 21, 22, 23, 0, 1, 2, 3, 4, 5, 6, 7, 8, 9, 10, 11, 12, 13, 14, 15, 16] (by decide) rfl
  refine lv_istore (lv' := [(6, .int o2.1), (5, .int o1.1), (0, .ref b0), (1, .ref (a 15)), (2, .ref (b 0)), (3, .ref (a 16)), (4, .int (nI i))]) hx hb dL_law_386 hl (by decide) rfl (fun ls hl => ?_)
  refine lv_aload_n hx hb dL_law_388 rfl (lv_at hl 4 rfl) ?_
  refine cR_i (va_runV (As := []) (rest := []) ⟨hx, hb, hml, hown, hts⟩ (kX5_thrown (l := l) (D := D) (cI := cI) (cJ := cJ) N b (th := o2.2.1) (w := w) (h := h) (ms := o2.2.2) (mu := mu) (mb := mb) (me := me) (mf := mf) (mt := mt) (mv := mv) (ml := ml) (mk := mk) (o := o2.2.1) rfl H.size) (cwV 0 hts gL_law_X5_thrown rfl rfl rfl (by decide +kernel) ⟨Nat.le_of_ble_eq_true rfl, Nat.le_of_ble_eq_true rfl⟩) (preV [] hN hK (hP.sub (ws' := (mw b cI o2.2.1 w h o2.2.2 mu mb me mf mt mv ml mk)) [0, 1, 2, 3, 4, 5, 6] rfl) (hD.sub (ws' := (mw b cI o2.2.1 w h o2.2.2 mu mb me mf mt mv ml mk)) [0, 1, 2, 3, 4, 5, 6] (by decide) rfl) (ci := 5) (q0 := 0) rfl rfl) rfl rfl hl.1 rfl (lv_room (Nat.le_of_ble_eq_true rfl)) dL_law_389 ⟨by dsimp only [room_1]; omega, by dsimp only [room_1]; omega⟩) hP hS (fun r u H locs hw hP hS => ?_)
  rw [hw]
  refine lv_iload hx hb dL_law_392 (lv_at hl 1 rfl) ?_
  refine lv_icmp_eq (tgt := 399) hx hb dL_law_394 (by decide) (fun _ => ?_) (fun h9 => absurd hth h9)
  refine lv_iload hx hb dL_law_399 (lv_at hl 1 rfl) ?_
  refine lv_if_ne (tgt := 416) hx hb dL_law_401 (by decide) (fun hk => ?_) (fun hk => ?_)
  · skip
    refine lv_goto (tgt := 1050) hx hb dL_law_416 (by decide) ?_
    refine W.widen (k := cells + 2) (n := slots + 12) (by omega) (by omega) ?_
    exact kk _ _ _ _ _ _ _ _ _ _ _ _ _ _ _ _ _ _ _ _ _ _ _ _ hR _ _ _ hP hD hS (lv_sub hl [2, 3, 4, 5, 6] rfl)
  · skip
    refine lv_aload_n hx hb dL_law_404 rfl (lv_at hl 5 rfl) ?_
    refine lv_iconst (v := 0) hx hb dL_law_405 (by decide) ?_
    refine va_lald (D := D) hx hb hK hP 7 1 rfl rfl (show vp_in (0 : Int32) 1 from vp_in_nI (n := 0) (by omega) (by omega)) dL_law_406 ?_
    refine lv_iload hx hb dL_law_407 (lv_at hl 0 rfl) ?_
    refine lv_i2l hx hb dL_law_409 rfl ?_
    refine W.lcmp hx hb dL_law_410 ?_
    refine lv_if_eq (tgt := 416) hx hb dL_law_411 (by decide) (fun _ => ?_) (fun h9 => absurd ((lg_cmp_eq _ _).mpr (hou hk)) h9)
    refine lv_goto (tgt := 1050) hx hb dL_law_416 (by decide) ?_
    refine W.widen (k := cells + 2) (n := slots + 12) (by omega) (by omega) ?_
    exact kk _ _ _ _ _ _ _ _ _ _ _ _ _ _ _ _ _ _ _ _ _ _ _ _ hR _ _ _ hP hD hS (lv_sub hl [2, 3, 4, 5, 6] rfl)
set_option maxHeartbeats 4000000 in
set_option maxRecDepth 100000 in
/-- force -/
theorem law_4 {p : Program} {l : Launch} {e : Env} {s : State} {m : MethodId} {below : List Frame} {meth : Method} {c : Code} {b0 L : Nat} {xs : Nat → Int32} {D : va_G} {cI cJ : ClassId} {Q : State → Prop} {N : Nat} (hN6 : 600 ≤ N) (C0 : LA p l s m meth c b0 L xs D cI cJ) (a b : Nat → Nat) {i : Nat} (hi : i + 4 ≤ L) (hL : L ≤ 2048)
    {st ho ke ms mu mb me mf mk : RowI} {hc tr fo fr co ro th w h mt mv ml : Int32} {ou su : RowJ} {cA cD : CS} {jA jD : JT} (hr : Rel ke tr fo fr st co ro cA cD su w h ms mu mb me mf)
    {H : Heap} {locs : List Loc} {ls : Array Slot} {cells slots : Nat} (hcl : cells + 2 ≤ 601024) (hsl : slots + 12 ≤ 7293034) (hP : va_P D vwCl (lawW a b cI cJ th w h ms mu mb me mf mt mv ml mk ou ho ke hc tr fo fr st co ro cA cD su jA jD) H) (hD : va_D (fun q : Nat => s.heap.size ≤ q) (lawW a b cI cJ th w h ms mu mb me mf mt mv ml mk ou ho ke hc tr fo fr st co ro cA cD su jA jD)) (hS : va_S (fun q : Nat => s.heap.size ≤ q) s.heap H locs) (hl : lv_has ls 9 (lv5 a b b0 i))
    (kk : KK p l e s m below meth c b0 D cI cJ Q a b i su me mf (cells + 2) (slots + 12)) : W p l e room_1 s m #[Value.ref b0] below meth c H locs cells slots Q (F0 m 419 ls []) := by
  obtain ⟨hx, hb, hr9, hml, hown, hts, hX, hbl, hlocks, hlt, hN, hTX, hK⟩ := C0
  have hA : ∀ q : Nat, s.heap.size ≤ q → (fun q : Nat => s.heap.size ≤ q) q := fun _ h => h
  have hbA : ¬ (fun q : Nat => s.heap.size ≤ q) b0 := Nat.not_le.mpr hbl
  replace hP : va_P D vwCl (mw b cI th w h ms mu mb me mf mt mv ml mk ++ ow a cI cJ ou ho ke hc tr fo fr st co ro cA cD su jA jD) H := hP
  replace hD : va_D (fun q : Nat => s.heap.size ≤ q) (mw b cI th w h ms mu mb me mf mt mv ml mk ++ ow a cI cJ ou ho ke hc tr fo fr st co ro cA cD su jA jD) := hD
  replace hl : lv_has ls 9 [(0, .ref b0), (1, .ref (a 15)), (2, .ref (b 0)), (3, .ref (a 16)), (4, .int (nI i))] := hl
  obtain ⟨o1, o2, hC1, hC2, heq, hR⟩ := t_force hN6 hr th
  refine lv_aload_n hx hb dL_law_419 rfl (lv_at hl 1 rfl) ?_
  refine cW_i [8, 9, 10, 11, 12, 13, 14, 15, 16, 17, 18, 19, 20, 21, 22, 23] [0, 1, 2, 3, 4, 5, 6, 7] (va_runV (As := []) (rest := []) ⟨hx, hb, hml, hown, hts⟩ (kX4_force (l := l) (D := D) (cI := cI) (cJ := cJ) N a (ho := ho) (ke := ke) (hc := hc) (tr := tr) (fo := fo) (fr := fr) (st := st) (co := co) (ro := ro) (cA := cA) (cD := cD) (su := su) (jA := jA) (jD := jD) hC1 H.size) (cwV 0 hts gL_law_X4_force rfl rfl rfl (by decide +kernel) ⟨Nat.le_of_ble_eq_true rfl, Nat.le_of_ble_eq_true rfl⟩) (preV [] hN hK (hP.sub (ws' := (xw a cI cJ ho ke hc tr fo fr st co ro cA cD su jA jD)) [8, 9, 10, 11, 12, 13, 14, 15, 16, 17, 18, 19, 20, 21, 22, 23] rfl) (hD.sub (ws' := (xw a cI cJ ho ke hc tr fo fr st co ro cA cD su jA jD)) [8, 9, 10, 11, 12, 13, 14, 15, 16, 17, 18, 19, 20, 21, 22, 23] (by decide) rfl) (ci := 4) (q0 := 3) rfl rfl) rfl rfl hl.1 rfl (lv_room (Nat.le_of_ble_eq_true rfl)) dL_law_420 ⟨by dsimp only [room_1]; omega, by dsimp only [room_1]; omega⟩) hP hD hS hA rfl (wr := ((mw b cI th w h ms mu mb me mf mt mv ml mk) ++ [(a 16, .inl (cJ, 1, .inr (.inl ou)))])) rfl (by decide) (by decide) (fun r u H locs hw hP hD hS => ?_)
  obtain ⟨uA9, uD9⟩ := u
  rw [hw]
  replace hP : va_P D vwCl (mw b cI th w h ms mu mb me mf mt mv ml mk ++ ow a cI cJ ou ho ke hc tr fo o1.2.1 o1.2.2 co ro cA cD su uA9 uD9) H := hP
  replace hD : va_D (fun q : Nat => s.heap.size ≤ q) (mw b cI th w h ms mu mb me mf mt mv ml mk ++ ow a cI cJ ou ho ke hc tr fo o1.2.1 o1.2.2 co ro cA cD su uA9 uD9) := hD
  refine lv_aload_n hx hb dL_law_423 rfl (lv_at hl 2 rfl) ?_
  refine cW_i [0, 1, 2, 3, 4, 5, 6] [7, 8, 9, 10, 11, 12, 13, 14, 15, 16, 17, 18, 19, 20, 21, 22, 23] (va_runV (As := []) (rest := [.int o1.1]) ⟨hx, hb, hml, hown, hts⟩ (kX5_force (l := l) (D := D) (cI := cI) (cJ := cJ) N b (th := th) (w := w) (h := h) (ms := ms) (mu := mu) (mb := mb) (me := me) (mf := mf) (mt := mt) (mv := mv) (ml := ml) (mk := mk) hC2 H.size) (cwV 0 hts gL_law_X5_force rfl rfl rfl (by decide +kernel) ⟨Nat.le_of_ble_eq_true rfl, Nat.le_of_ble_eq_true rfl⟩) (preV [] hN hK (hP.sub (ws' := (mw b cI th w h ms mu mb me mf mt mv ml mk)) [0, 1, 2, 3, 4, 5, 6] rfl) (hD.sub (ws' := (mw b cI th w h ms mu mb me mf mt mv ml mk)) [0, 1, 2, 3, 4, 5, 6] (by decide) rfl) (ci := 5) (q0 := 0) rfl rfl) rfl rfl hl.1 rfl (lv_room (Nat.le_of_ble_eq_true rfl)) dL_law_424 ⟨by dsimp only [room_1]; omega, by dsimp only [room_1]; omega⟩) hP hD hS hA rfl (wr := (ow a cI cJ ou ho ke hc tr fo o1.2.1 o1.2.2 co ro cA cD su uA9 uD9)) rfl (by decide) (by decide) (fun r u H locs hw hP hD hS => ?_)
  rw [hw]
  replace hP := hP.sub (ws' := mw b cI o2.2.1 w h o2.2.2 mu mb me mf mt mv ml mk ++ ow a cI cJ ou ho ke hc tr fo o1.2.1 o1.2.2 co ro cA cD su uA9 uD9) [17, 18, 19, 20, 21, 22, 23, 0, 1, 2, 3, 4, 5, 6, 7, 8, 9, 10, 11, 12, 13, 14, 15, 16] rfl
  replace hD := hD.sub (ws' := mw b cI o2.2.1 w h o2.2.2 mu mb me mf mt mv ml mk ++ ow a cI cJ ou ho ke hc tr fo o1.2.1 o1.2.2 co ro cA cD su uA9 uD9) [17, 18, 19, 20, 21, 22, 23, 0, 1, 2, 3, 4, 5, 6, 7, 8, 9, 10, 11, 12, 13, 14, 15, 16] (by decide) rfl
  refine lv_icmp_eq (tgt := 1050) hx hb dL_law_427 (by decide) (fun _ => ?_) (fun h9 => absurd heq h9)
  refine W.widen (k := cells + 2) (n := slots + 12) (by omega) (by omega) ?_
  exact kk _ _ _ _ _ _ _ _ _ _ _ _ _ _ _ _ _ _ _ _ _ _ _ _ hR _ _ _ hP hD hS (lv_sub hl [0, 1, 2, 3, 4] rfl)
set_option maxHeartbeats 4000000 in
set_option maxRecDepth 100000 in
/-- stone -/
theorem law_5 {p : Program} {l : Launch} {e : Env} {s : State} {m : MethodId} {below : List Frame} {meth : Method} {c : Code} {b0 L : Nat} {xs : Nat → Int32} {D : va_G} {cI cJ : ClassId} {Q : State → Prop} {N : Nat} (hN6 : 600 ≤ N) (C0 : LA p l s m meth c b0 L xs D cI cJ) (a b : Nat → Nat) {i : Nat} (hi : i + 4 ≤ L) (hL : L ≤ 2048)
    {st ho ke ms mu mb me mf mk : RowI} {hc tr fo fr co ro th w h mt mv ml : Int32} {ou su : RowJ} {cA cD : CS} {jA jD : JT} (hr : Rel ke tr fo fr st co ro cA cD su w h ms mu mb me mf)
    {H : Heap} {locs : List Loc} {ls : Array Slot} {cells slots : Nat} (hcl : cells + 2 ≤ 601024) (hsl : slots + 12 ≤ 7293034) (hP : va_P D vwCl (lawW a b cI cJ th w h ms mu mb me mf mt mv ml mk ou ho ke hc tr fo fr st co ro cA cD su jA jD) H) (hD : va_D (fun q : Nat => s.heap.size ≤ q) (lawW a b cI cJ th w h ms mu mb me mf mt mv ml mk ou ho ke hc tr fo fr st co ro cA cD su jA jD)) (hS : va_S (fun q : Nat => s.heap.size ≤ q) s.heap H locs) (hl : lv_has ls 9 (lv5 a b b0 i))
    (kk : KK p l e s m below meth c b0 D cI cJ Q a b i su me mf (cells + 2) (slots + 12)) : W p l e room_1 s m #[Value.ref b0] below meth c H locs cells slots Q (F0 m 432 ls []) := by
  obtain ⟨hx, hb, hr9, hml, hown, hts, hX, hbl, hlocks, hlt, hN, hTX, hK⟩ := C0
  have hA : ∀ q : Nat, s.heap.size ≤ q → (fun q : Nat => s.heap.size ≤ q) q := fun _ h => h
  have hbA : ¬ (fun q : Nat => s.heap.size ≤ q) b0 := Nat.not_le.mpr hbl
  have hi1 : vp_in (nI i + 1) L := by rw [show (1 : Int32) = nI 1 from rfl, nI_add]; exact vp_in_nI (by omega) (by omega)
  replace hP : va_P D vwCl (mw b cI th w h ms mu mb me mf mt mv ml mk ++ ow a cI cJ ou ho ke hc tr fo fr st co ro cA cD su jA jD) H := hP
  replace hD : va_D (fun q : Nat => s.heap.size ≤ q) (mw b cI th w h ms mu mb me mf mt mv ml mk ++ ow a cI cJ ou ho ke hc tr fo fr st co ro cA cD su jA jD) := hD
  replace hl : lv_has ls 9 [(0, .ref b0), (1, .ref (a 15)), (2, .ref (b 0)), (3, .ref (a 16)), (4, .int (nI i))] := hl
  obtain ⟨o1, o2, hC1, hC2, hth, hou⟩ := t_stone (N := N) hr ou th (xs (nI i + 1).toNatClampNeg)
  refine lv_aload_n hx hb dL_law_432 rfl (lv_at hl 1 rfl) ?_
  refine lv_aload_n hx hb dL_law_433 rfl (lv_at hl 0 rfl) ?_
  refine lv_iload hx hb dL_law_434 (lv_at hl 4 rfl) ?_
  refine lv_iconst (v := 1) hx hb dL_law_436 (by decide) ?_
  refine lv_iadd hx hb dL_law_437 ?_
  refine va_sld hx hb hX hbl hbA hS hi1 dL_law_438 ?_
  refine lv_aload_n hx hb dL_law_439 rfl (lv_at hl 3 rfl) ?_
  have hF := va_free (wc := (ow a cI cJ ou ho ke hc tr fo fr st co ro cA cD su jA jD)) hD hS hA [7, 8, 9, 10, 11, 12, 13, 14, 15, 16, 17, 18, 19, 20, 21, 22, 23] rfl
  refine cW_i [7, 8, 9, 10, 11, 12, 13, 14, 15, 16, 17, 18, 19, 20, 21, 22, 23] [0, 1, 2, 3, 4, 5, 6] (vx_runSW (As := [.ref (a 15), .int (xs (nI i + 1).toNatClampNeg), .ref (a 16)]) (rest := []) ⟨hx, hb, hml, hown, hts⟩ (kL_stone (l := l) (D := D) (cI := cI) (cJ := cJ) hlt N a (ou := ou) (ho := ho) (ke := ke) (hc := hc) (tr := tr) (fo := fo) (fr := fr) (st := st) (co := co) (ro := ro) (cA := cA) (cD := cD) (su := su) (jA := jA) (jD := jD) hC1 H.size) (vx_cwSW 3 hts gL_law_L_stone rfl rfl rfl (by decide +kernel) ⟨Nat.le_of_ble_eq_true rfl, Nat.le_of_ble_eq_true rfl⟩) (preST [.ref (a 15), .int (xs (nI i + 1).toNatClampNeg), .ref (a 16)] hTX hS (fun q h => hF q h) hN hK (hP.sub (ws' := (ow a cI cJ ou ho ke hc tr fo fr st co ro cA cD su jA jD)) [7, 8, 9, 10, 11, 12, 13, 14, 15, 16, 17, 18, 19, 20, 21, 22, 23] rfl) (hD.sub (ws' := (ow a cI cJ ou ho ke hc tr fo fr st co ro cA cD su jA jD)) [7, 8, 9, 10, 11, 12, 13, 14, 15, 16, 17, 18, 19, 20, 21, 22, 23] (by decide) rfl)) rfl rfl hl.1 rfl (lv_room (Nat.le_of_ble_eq_true rfl)) dL_law_440 ⟨by dsimp only [room_1]; omega, by dsimp only [room_1]; omega⟩) hP hD hS hA rfl (wr := (mw b cI th w h ms mu mb me mf mt mv ml mk)) rfl (by decide) (by decide) (fun r u H locs hw hP hD hS => ?_)
  obtain ⟨u1, hu1⟩ : ∃ z, z = u := ⟨_, rfl⟩
  rw [hw]
  replace hP : va_P D vwCl (mw b cI th w h ms mu mb me mf mt mv ml mk ++ ow a cI cJ o1.2 ho ke hc tr fo fr st co ro cA cD su jA jD) H := hP
  replace hD : va_D (fun q : Nat => s.heap.size ≤ q) (mw b cI th w h ms mu mb me mf mt mv ml mk ++ ow a cI cJ o1.2 ho ke hc tr fo fr st co ro cA cD su jA jD) := hD
  refine lv_istore (lv' := [(5, .int o1.1), (0, .ref b0), (1, .ref (a 15)), (2, .ref (b 0)), (3, .ref (a 16)), (4, .int (nI i))]) hx hb dL_law_443 hl (by decide) rfl (fun ls hl => ?_)
  refine lv_aload_n hx hb dL_law_445 rfl (lv_at hl 3 rfl) ?_
  refine lv_aload_n hx hb dL_law_446 rfl (lv_at hl 1 rfl) ?_
  refine lv_iload hx hb dL_law_447 (lv_at hl 5 rfl) ?_
  refine lv_iconst (v := 1) hx hb dL_law_449 (by decide) ?_
  refine lv_iadd hx hb dL_law_450 ?_
  refine va_sld hx hb hX hbl hbA hS hi1 dL_law_451 ?_
  refine cW_i [0, 1, 2, 3, 4, 5, 6] [7, 8, 9, 10, 11, 12, 13, 14, 15, 16, 17, 18, 19, 20, 21, 22, 23] (va_runV (As := [.int (xs (nI i + 1).toNatClampNeg)]) (rest := []) ⟨hx, hb, hml, hown, hts⟩ (kX5_stone (l := l) (D := D) (cI := cI) (cJ := cJ) N b (th := th) (w := w) (h := h) (ms := ms) (mu := mu) (mb := mb) (me := me) (mf := mf) (mt := mt) (mv := mv) (ml := ml) (mk := mk) hC2 H.size) (cwV 1 hts gL_law_X5_stone rfl rfl rfl (by decide +kernel) ⟨Nat.le_of_ble_eq_true rfl, Nat.le_of_ble_eq_true rfl⟩) (preV [.int (xs (nI i + 1).toNatClampNeg)] hN hK (hP.sub (ws' := (mw b cI th w h ms mu mb me mf mt mv ml mk)) [0, 1, 2, 3, 4, 5, 6] rfl) (hD.sub (ws' := (mw b cI th w h ms mu mb me mf mt mv ml mk)) [0, 1, 2, 3, 4, 5, 6] (by decide) rfl) (ci := 5) (q0 := 0) rfl rfl) rfl rfl hl.1 rfl (lv_room (Nat.le_of_ble_eq_true rfl)) dL_law_452 ⟨by dsimp only [room_1]; omega, by dsimp only [room_1]; omega⟩) hP hD hS hA rfl (wr := (ow a cI cJ o1.2 ho ke hc tr fo fr st co ro cA cD su jA jD)) rfl (by decide) (by decide) (fun r u H locs hw hP hD hS => ?_)
  rw [hw]
  replace hP := hP.sub (ws' := mw b cI o2.2 w h ms mu mb me mf mt mv ml mk ++ ow a cI cJ o1.2 ho ke hc tr fo fr st co ro cA cD su jA jD) [17, 18, 19, 20, 21, 22, 23, 0, 1, 2, 3, 4, 5, 6, 7, 8, 9, 10, 11, 12, 13, 14, 15, 16] rfl
  replace hD := hD.sub (ws' := mw b cI o2.2 w h ms mu mb me mf mt mv ml mk ++ ow a cI cJ o1.2 ho ke hc tr fo fr st co ro cA cD su jA jD) [17, 18, 19, 20, 21, 22, 23, 0, 1, 2, 3, 4, 5, 6, 7, 8, 9, 10, 11, 12, 13, 14, 15, 16] (by decide) rfl
  refine lv_istore (lv' := [(6, .int o2.1), (5, .int o1.1), (0, .ref b0), (1, .ref (a 15)), (2, .ref (b 0)), (3, .ref (a 16)), (4, .int (nI i))]) hx hb dL_law_455 hl (by decide) rfl (fun ls hl => ?_)
  refine lv_aload_n hx hb dL_law_457 rfl (lv_at hl 4 rfl) ?_
  refine cR_i (va_runV (As := []) (rest := []) ⟨hx, hb, hml, hown, hts⟩ (kX5_thrown (l := l) (D := D) (cI := cI) (cJ := cJ) N b (th := o2.2) (w := w) (h := h) (ms := ms) (mu := mu) (mb := mb) (me := me) (mf := mf) (mt := mt) (mv := mv) (ml := ml) (mk := mk) (o := o2.2) rfl H.size) (cwV 0 hts gL_law_X5_thrown rfl rfl rfl (by decide +kernel) ⟨Nat.le_of_ble_eq_true rfl, Nat.le_of_ble_eq_true rfl⟩) (preV [] hN hK (hP.sub (ws' := (mw b cI o2.2 w h ms mu mb me mf mt mv ml mk)) [0, 1, 2, 3, 4, 5, 6] rfl) (hD.sub (ws' := (mw b cI o2.2 w h ms mu mb me mf mt mv ml mk)) [0, 1, 2, 3, 4, 5, 6] (by decide) rfl) (ci := 5) (q0 := 0) rfl rfl) rfl rfl hl.1 rfl (lv_room (Nat.le_of_ble_eq_true rfl)) dL_law_458 ⟨by dsimp only [room_1]; omega, by dsimp only [room_1]; omega⟩) hP hS (fun r u H locs hw hP hS => ?_)
  rw [hw]
  refine lv_iload hx hb dL_law_461 (lv_at hl 1 rfl) ?_
  refine lv_icmp_eq (tgt := 468) hx hb dL_law_463 (by decide) (fun _ => ?_) (fun h9 => absurd hth h9)
  refine lv_iload hx hb dL_law_468 (lv_at hl 1 rfl) ?_
  refine lv_if_ne (tgt := 485) hx hb dL_law_470 (by decide) (fun hk => ?_) (fun hk => ?_)
  · skip
    refine lv_goto (tgt := 1050) hx hb dL_law_485 (by decide) ?_
    refine W.widen (k := cells + 2) (n := slots + 12) (by omega) (by omega) ?_
    exact kk _ _ _ _ _ _ _ _ _ _ _ _ _ _ _ _ _ _ _ _ _ _ _ _ hr _ _ _ hP hD hS (lv_sub hl [2, 3, 4, 5, 6] rfl)
  · skip
    refine lv_aload_n hx hb dL_law_473 rfl (lv_at hl 5 rfl) ?_
    refine lv_iconst (v := 0) hx hb dL_law_474 (by decide) ?_
    refine va_lald (D := D) hx hb hK hP 7 1 rfl rfl (show vp_in (0 : Int32) 1 from vp_in_nI (n := 0) (by omega) (by omega)) dL_law_475 ?_
    refine lv_iload hx hb dL_law_476 (lv_at hl 0 rfl) ?_
    refine lv_i2l hx hb dL_law_478 rfl ?_
    refine W.lcmp hx hb dL_law_479 ?_
    refine lv_if_eq (tgt := 485) hx hb dL_law_480 (by decide) (fun _ => ?_) (fun h9 => absurd ((lg_cmp_eq _ _).mpr (hou hk)) h9)
    refine lv_goto (tgt := 1050) hx hb dL_law_485 (by decide) ?_
    refine W.widen (k := cells + 2) (n := slots + 12) (by omega) (by omega) ?_
    exact kk _ _ _ _ _ _ _ _ _ _ _ _ _ _ _ _ _ _ _ _ _ _ _ _ hr _ _ _ hP hD hS (lv_sub hl [2, 3, 4, 5, 6] rfl)
set_option maxHeartbeats 4000000 in
set_option maxRecDepth 100000 in
/-- corridor -/
theorem law_6 {p : Program} {l : Launch} {e : Env} {s : State} {m : MethodId} {below : List Frame} {meth : Method} {c : Code} {b0 L : Nat} {xs : Nat → Int32} {D : va_G} {cI cJ : ClassId} {Q : State → Prop} {N : Nat} (hN6 : 600 ≤ N) (C0 : LA p l s m meth c b0 L xs D cI cJ) (a b : Nat → Nat) {i : Nat} (hi : i + 4 ≤ L) (hL : L ≤ 2048)
    {st ho ke ms mu mb me mf mk : RowI} {hc tr fo fr co ro th w h mt mv ml : Int32} {ou su : RowJ} {cA cD : CS} {jA jD : JT} (hr : Rel ke tr fo fr st co ro cA cD su w h ms mu mb me mf)
    {H : Heap} {locs : List Loc} {ls : Array Slot} {cells slots : Nat} (hcl : cells + 2 ≤ 601024) (hsl : slots + 12 ≤ 7293034) (hP : va_P D vwCl (lawW a b cI cJ th w h ms mu mb me mf mt mv ml mk ou ho ke hc tr fo fr st co ro cA cD su jA jD) H) (hD : va_D (fun q : Nat => s.heap.size ≤ q) (lawW a b cI cJ th w h ms mu mb me mf mt mv ml mk ou ho ke hc tr fo fr st co ro cA cD su jA jD)) (hS : va_S (fun q : Nat => s.heap.size ≤ q) s.heap H locs) (hl : lv_has ls 9 (lv5 a b b0 i))
    (kk : KK p l e s m below meth c b0 D cI cJ Q a b i su me mf (cells + 2) (slots + 12)) : W p l e room_1 s m #[Value.ref b0] below meth c H locs cells slots Q (F0 m 488 ls []) := by
  obtain ⟨hx, hb, hr9, hml, hown, hts, hX, hbl, hlocks, hlt, hN, hTX, hK⟩ := C0
  have hA : ∀ q : Nat, s.heap.size ≤ q → (fun q : Nat => s.heap.size ≤ q) q := fun _ h => h
  have hbA : ¬ (fun q : Nat => s.heap.size ≤ q) b0 := Nat.not_le.mpr hbl
  have hi1 : vp_in (nI i + 1) L := by rw [show (1 : Int32) = nI 1 from rfl, nI_add]; exact vp_in_nI (by omega) (by omega)
  have hi2 : vp_in (nI i + 2) L := by rw [show (2 : Int32) = nI 2 from rfl, nI_add]; exact vp_in_nI (by omega) (by omega)
  have hi3 : vp_in (nI i + 3) L := by rw [show (3 : Int32) = nI 3 from rfl, nI_add]; exact vp_in_nI (by omega) (by omega)
  replace hP : va_P D vwCl (mw b cI th w h ms mu mb me mf mt mv ml mk ++ ow a cI cJ ou ho ke hc tr fo fr st co ro cA cD su jA jD) H := hP
  replace hD : va_D (fun q : Nat => s.heap.size ≤ q) (mw b cI th w h ms mu mb me mf mt mv ml mk ++ ow a cI cJ ou ho ke hc tr fo fr st co ro cA cD su jA jD) := hD
  replace hl : lv_has ls 9 [(0, .ref b0), (1, .ref (a 15)), (2, .ref (b 0)), (3, .ref (a 16)), (4, .int (nI i))] := hl
  by_cases hz : (xs (nI i + 2).toNatClampNeg) = 0
  · skip
    obtain ⟨o1, o2, hC1, hC2, hth, hou⟩ := t_corridor hN6 hr ou th (xs (nI i + 1).toNatClampNeg) 0 (xs (nI i + 3).toNatClampNeg)
    refine lv_aload_n hx hb dL_law_488 rfl (lv_at hl 1 rfl) ?_
    refine lv_aload_n hx hb dL_law_489 rfl (lv_at hl 0 rfl) ?_
    refine lv_iload hx hb dL_law_490 (lv_at hl 4 rfl) ?_
    refine lv_iconst (v := 1) hx hb dL_law_492 (by decide) ?_
    refine lv_iadd hx hb dL_law_493 ?_
    refine va_sld hx hb hX hbl hbA hS hi1 dL_law_494 ?_
    refine lv_aload_n hx hb dL_law_495 rfl (lv_at hl 0 rfl) ?_
    refine lv_iload hx hb dL_law_496 (lv_at hl 4 rfl) ?_
    refine lv_iconst (v := 2) hx hb dL_law_498 (by decide) ?_
    refine lv_iadd hx hb dL_law_499 ?_
    refine va_sld hx hb hX hbl hbA hS hi2 dL_law_500 ?_
    refine lv_if_eq (tgt := 508) hx hb dL_law_501 (by decide) (fun _ => ?_) (fun h9 => absurd hz h9)
    refine lv_iconst (v := 0) hx hb dL_law_508 (by decide) ?_
    refine lv_aload_n hx hb dL_law_509 rfl (lv_at hl 0 rfl) ?_
    refine lv_iload hx hb dL_law_510 (lv_at hl 4 rfl) ?_
    refine lv_iconst (v := 3) hx hb dL_law_512 (by decide) ?_
    refine lv_iadd hx hb dL_law_513 ?_
    refine va_sld hx hb hX hbl hbA hS hi3 dL_law_514 ?_
    refine lv_aload_n hx hb dL_law_515 rfl (lv_at hl 3 rfl) ?_
    have hF := va_free (wc := (ow a cI cJ ou ho ke hc tr fo fr st co ro cA cD su jA jD)) hD hS hA [7, 8, 9, 10, 11, 12, 13, 14, 15, 16, 17, 18, 19, 20, 21, 22, 23] rfl
    refine cW_i [7, 8, 9, 10, 11, 12, 13, 14, 15, 16, 17, 18, 19, 20, 21, 22, 23] [0, 1, 2, 3, 4, 5, 6] (vx_runSW (As := [.ref (a 15), .int (xs (nI i + 1).toNatClampNeg), .int 0, .int (xs (nI i + 3).toNatClampNeg), .ref (a 16)]) (rest := []) ⟨hx, hb, hml, hown, hts⟩ (kL_corridor (l := l) (D := D) (cI := cI) (cJ := cJ) hlt N a (ou := ou) (ho := ho) (ke := ke) (hc := hc) (tr := tr) (fo := fo) (fr := fr) (st := st) (co := co) (ro := ro) (cA := cA) (cD := cD) (su := su) (jA := jA) (jD := jD) hC1 H.size) (vx_cwSW 5 hts gL_law_L_corridor rfl rfl rfl (by decide +kernel) ⟨Nat.le_of_ble_eq_true rfl, Nat.le_of_ble_eq_true rfl⟩) (preST [.ref (a 15), .int (xs (nI i + 1).toNatClampNeg), .int 0, .int (xs (nI i + 3).toNatClampNeg), .ref (a 16)] hTX hS (fun q h => hF q h) hN hK (hP.sub (ws' := (ow a cI cJ ou ho ke hc tr fo fr st co ro cA cD su jA jD)) [7, 8, 9, 10, 11, 12, 13, 14, 15, 16, 17, 18, 19, 20, 21, 22, 23] rfl) (hD.sub (ws' := (ow a cI cJ ou ho ke hc tr fo fr st co ro cA cD su jA jD)) [7, 8, 9, 10, 11, 12, 13, 14, 15, 16, 17, 18, 19, 20, 21, 22, 23] (by decide) rfl)) rfl rfl hl.1 rfl (lv_room (Nat.le_of_ble_eq_true rfl)) dL_law_516 ⟨by dsimp only [room_1]; omega, by dsimp only [room_1]; omega⟩) hP hD hS hA rfl (wr := (mw b cI th w h ms mu mb me mf mt mv ml mk)) rfl (by decide) (by decide) (fun r u H locs hw hP hD hS => ?_)
    obtain ⟨u1, hu1⟩ : ∃ z, z = u := ⟨_, rfl⟩
    rw [hw]
    replace hP : va_P D vwCl (mw b cI th w h ms mu mb me mf mt mv ml mk ++ ow a cI cJ o1.2 ho ke hc tr fo fr st co ro cA cD su u.1 u.2) H := hP
    replace hD : va_D (fun q : Nat => s.heap.size ≤ q) (mw b cI th w h ms mu mb me mf mt mv ml mk ++ ow a cI cJ o1.2 ho ke hc tr fo fr st co ro cA cD su u.1 u.2) := hD
    obtain ⟨uA9, uD9⟩ := u
    replace hP : va_P D vwCl (mw b cI th w h ms mu mb me mf mt mv ml mk ++ ow a cI cJ o1.2 ho ke hc tr fo fr st co ro cA cD su uA9 uD9) H := hP
    replace hD : va_D (fun q : Nat => s.heap.size ≤ q) (mw b cI th w h ms mu mb me mf mt mv ml mk ++ ow a cI cJ o1.2 ho ke hc tr fo fr st co ro cA cD su uA9 uD9) := hD
    refine lv_istore (lv' := [(5, .int o1.1), (0, .ref b0), (1, .ref (a 15)), (2, .ref (b 0)), (3, .ref (a 16)), (4, .int (nI i))]) hx hb dL_law_519 hl (by decide) rfl (fun ls hl => ?_)
    refine lv_aload_n hx hb dL_law_521 rfl (lv_at hl 3 rfl) ?_
    refine lv_aload_n hx hb dL_law_522 rfl (lv_at hl 1 rfl) ?_
    refine lv_iload hx hb dL_law_523 (lv_at hl 5 rfl) ?_
    refine lv_iconst (v := 1) hx hb dL_law_525 (by decide) ?_
    refine lv_iadd hx hb dL_law_526 ?_
    refine va_sld hx hb hX hbl hbA hS hi1 dL_law_527 ?_
    refine lv_aload_n hx hb dL_law_528 rfl (lv_at hl 1 rfl) ?_
    refine lv_iload hx hb dL_law_529 (lv_at hl 5 rfl) ?_
    refine lv_iconst (v := 2) hx hb dL_law_531 (by decide) ?_
    refine lv_iadd hx hb dL_law_532 ?_
    refine va_sld hx hb hX hbl hbA hS hi2 dL_law_533 ?_
    refine lv_if_eq (tgt := 541) hx hb dL_law_534 (by decide) (fun _ => ?_) (fun h9 => absurd hz h9)
    refine lv_iconst (v := 0) hx hb dL_law_541 (by decide) ?_
    refine lv_aload_n hx hb dL_law_542 rfl (lv_at hl 1 rfl) ?_
    refine lv_iload hx hb dL_law_543 (lv_at hl 5 rfl) ?_
    refine lv_iconst (v := 3) hx hb dL_law_545 (by decide) ?_
    refine lv_iadd hx hb dL_law_546 ?_
    refine va_sld hx hb hX hbl hbA hS hi3 dL_law_547 ?_
    refine cW_i [0, 1, 2, 3, 4, 5, 6] [7, 8, 9, 10, 11, 12, 13, 14, 15, 16, 17, 18, 19, 20, 21, 22, 23] (va_runV (As := [.int (xs (nI i + 1).toNatClampNeg), .int 0, .int (xs (nI i + 3).toNatClampNeg)]) (rest := []) ⟨hx, hb, hml, hown, hts⟩ (kX5_corridor (l := l) (D := D) (cI := cI) (cJ := cJ) N b (th := th) (w := w) (h := h) (ms := ms) (mu := mu) (mb := mb) (me := me) (mf := mf) (mt := mt) (mv := mv) (ml := ml) (mk := mk) hC2 H.size) (cwV 3 hts gL_law_X5_corridor rfl rfl rfl (by decide +kernel) ⟨Nat.le_of_ble_eq_true rfl, Nat.le_of_ble_eq_true rfl⟩) (preV [.int (xs (nI i + 1).toNatClampNeg), .int 0, .int (xs (nI i + 3).toNatClampNeg)] hN hK (hP.sub (ws' := (mw b cI th w h ms mu mb me mf mt mv ml mk)) [0, 1, 2, 3, 4, 5, 6] rfl) (hD.sub (ws' := (mw b cI th w h ms mu mb me mf mt mv ml mk)) [0, 1, 2, 3, 4, 5, 6] (by decide) rfl) (ci := 5) (q0 := 0) rfl rfl) rfl rfl hl.1 rfl (lv_room (Nat.le_of_ble_eq_true rfl)) dL_law_548 ⟨by dsimp only [room_1]; omega, by dsimp only [room_1]; omega⟩) hP hD hS hA rfl (wr := (ow a cI cJ o1.2 ho ke hc tr fo fr st co ro cA cD su uA9 uD9)) rfl (by decide) (by decide) (fun r u H locs hw hP hD hS => ?_)
    rw [hw]
    replace hP := hP.sub (ws' := mw b cI o2.2 w h ms mu mb me mf mt mv ml mk ++ ow a cI cJ o1.2 ho ke hc tr fo fr st co ro cA cD su uA9 uD9) [17, 18, 19, 20, 21, 22, 23, 0, 1, 2, 3, 4, 5, 6, 7, 8, 9, 10, 11, 12, 13, 14, 15, 16] rfl
    replace hD := hD.sub (ws' := mw b cI o2.2 w h ms mu mb me mf mt mv ml mk ++ ow a cI cJ o1.2 ho ke hc tr fo fr st co ro cA cD su uA9 uD9) [17, 18, 19, 20, 21, 22, 23, 0, 1, 2, 3, 4, 5, 6, 7, 8, 9, 10, 11, 12, 13, 14, 15, 16] (by decide) rfl
    refine lv_istore (lv' := [(6, .int o2.1), (5, .int o1.1), (0, .ref b0), (1, .ref (a 15)), (2, .ref (b 0)), (3, .ref (a 16)), (4, .int (nI i))]) hx hb dL_law_551 hl (by decide) rfl (fun ls hl => ?_)
    refine lv_aload_n hx hb dL_law_553 rfl (lv_at hl 4 rfl) ?_
    refine cR_i (va_runV (As := []) (rest := []) ⟨hx, hb, hml, hown, hts⟩ (kX5_thrown (l := l) (D := D) (cI := cI) (cJ := cJ) N b (th := o2.2) (w := w) (h := h) (ms := ms) (mu := mu) (mb := mb) (me := me) (mf := mf) (mt := mt) (mv := mv) (ml := ml) (mk := mk) (o := o2.2) rfl H.size) (cwV 0 hts gL_law_X5_thrown rfl rfl rfl (by decide +kernel) ⟨Nat.le_of_ble_eq_true rfl, Nat.le_of_ble_eq_true rfl⟩) (preV [] hN hK (hP.sub (ws' := (mw b cI o2.2 w h ms mu mb me mf mt mv ml mk)) [0, 1, 2, 3, 4, 5, 6] rfl) (hD.sub (ws' := (mw b cI o2.2 w h ms mu mb me mf mt mv ml mk)) [0, 1, 2, 3, 4, 5, 6] (by decide) rfl) (ci := 5) (q0 := 0) rfl rfl) rfl rfl hl.1 rfl (lv_room (Nat.le_of_ble_eq_true rfl)) dL_law_554 ⟨by dsimp only [room_1]; omega, by dsimp only [room_1]; omega⟩) hP hS (fun r u H locs hw hP hS => ?_)
    rw [hw]
    refine lv_iload hx hb dL_law_557 (lv_at hl 1 rfl) ?_
    refine lv_icmp_eq (tgt := 564) hx hb dL_law_559 (by decide) (fun _ => ?_) (fun h9 => absurd hth h9)
    refine lv_iload hx hb dL_law_564 (lv_at hl 1 rfl) ?_
    refine lv_if_ne (tgt := 581) hx hb dL_law_566 (by decide) (fun hk => ?_) (fun hk => ?_)
    · skip
      refine lv_goto (tgt := 1050) hx hb dL_law_581 (by decide) ?_
      refine W.widen (k := cells + 2) (n := slots + 12) (by omega) (by omega) ?_
      exact kk _ _ _ _ _ _ _ _ _ _ _ _ _ _ _ _ _ _ _ _ _ _ _ _ hr _ _ _ hP hD hS (lv_sub hl [2, 3, 4, 5, 6] rfl)
    · skip
      refine lv_aload_n hx hb dL_law_569 rfl (lv_at hl 5 rfl) ?_
      refine lv_iconst (v := 0) hx hb dL_law_570 (by decide) ?_
      refine va_lald (D := D) hx hb hK hP 7 1 rfl rfl (show vp_in (0 : Int32) 1 from vp_in_nI (n := 0) (by omega) (by omega)) dL_law_571 ?_
      refine lv_iload hx hb dL_law_572 (lv_at hl 0 rfl) ?_
      refine lv_i2l hx hb dL_law_574 rfl ?_
      refine W.lcmp hx hb dL_law_575 ?_
      refine lv_if_eq (tgt := 581) hx hb dL_law_576 (by decide) (fun _ => ?_) (fun h9 => absurd ((lg_cmp_eq _ _).mpr (hou hk)) h9)
      refine lv_goto (tgt := 1050) hx hb dL_law_581 (by decide) ?_
      refine W.widen (k := cells + 2) (n := slots + 12) (by omega) (by omega) ?_
      exact kk _ _ _ _ _ _ _ _ _ _ _ _ _ _ _ _ _ _ _ _ _ _ _ _ hr _ _ _ hP hD hS (lv_sub hl [2, 3, 4, 5, 6] rfl)
  · skip
    obtain ⟨o1, o2, hC1, hC2, hth, hou⟩ := t_corridor hN6 hr ou th (xs (nI i + 1).toNatClampNeg) 1 (xs (nI i + 3).toNatClampNeg)
    refine lv_aload_n hx hb dL_law_488 rfl (lv_at hl 1 rfl) ?_
    refine lv_aload_n hx hb dL_law_489 rfl (lv_at hl 0 rfl) ?_
    refine lv_iload hx hb dL_law_490 (lv_at hl 4 rfl) ?_
    refine lv_iconst (v := 1) hx hb dL_law_492 (by decide) ?_
    refine lv_iadd hx hb dL_law_493 ?_
    refine va_sld hx hb hX hbl hbA hS hi1 dL_law_494 ?_
    refine lv_aload_n hx hb dL_law_495 rfl (lv_at hl 0 rfl) ?_
    refine lv_iload hx hb dL_law_496 (lv_at hl 4 rfl) ?_
    refine lv_iconst (v := 2) hx hb dL_law_498 (by decide) ?_
    refine lv_iadd hx hb dL_law_499 ?_
    refine va_sld hx hb hX hbl hbA hS hi2 dL_law_500 ?_
    refine lv_if_eq (tgt := 508) hx hb dL_law_501 (by decide) (fun h9 => absurd h9 hz) (fun _ => ?_)
    refine lv_iconst (v := 1) hx hb dL_law_504 (by decide) ?_
    refine lv_goto (tgt := 509) hx hb dL_law_505 (by decide) ?_
    refine lv_aload_n hx hb dL_law_509 rfl (lv_at hl 0 rfl) ?_
    refine lv_iload hx hb dL_law_510 (lv_at hl 4 rfl) ?_
    refine lv_iconst (v := 3) hx hb dL_law_512 (by decide) ?_
    refine lv_iadd hx hb dL_law_513 ?_
    refine va_sld hx hb hX hbl hbA hS hi3 dL_law_514 ?_
    refine lv_aload_n hx hb dL_law_515 rfl (lv_at hl 3 rfl) ?_
    have hF := va_free (wc := (ow a cI cJ ou ho ke hc tr fo fr st co ro cA cD su jA jD)) hD hS hA [7, 8, 9, 10, 11, 12, 13, 14, 15, 16, 17, 18, 19, 20, 21, 22, 23] rfl
    refine cW_i [7, 8, 9, 10, 11, 12, 13, 14, 15, 16, 17, 18, 19, 20, 21, 22, 23] [0, 1, 2, 3, 4, 5, 6] (vx_runSW (As := [.ref (a 15), .int (xs (nI i + 1).toNatClampNeg), .int 1, .int (xs (nI i + 3).toNatClampNeg), .ref (a 16)]) (rest := []) ⟨hx, hb, hml, hown, hts⟩ (kL_corridor (l := l) (D := D) (cI := cI) (cJ := cJ) hlt N a (ou := ou) (ho := ho) (ke := ke) (hc := hc) (tr := tr) (fo := fo) (fr := fr) (st := st) (co := co) (ro := ro) (cA := cA) (cD := cD) (su := su) (jA := jA) (jD := jD) hC1 H.size) (vx_cwSW 5 hts gL_law_L_corridor rfl rfl rfl (by decide +kernel) ⟨Nat.le_of_ble_eq_true rfl, Nat.le_of_ble_eq_true rfl⟩) (preST [.ref (a 15), .int (xs (nI i + 1).toNatClampNeg), .int 1, .int (xs (nI i + 3).toNatClampNeg), .ref (a 16)] hTX hS (fun q h => hF q h) hN hK (hP.sub (ws' := (ow a cI cJ ou ho ke hc tr fo fr st co ro cA cD su jA jD)) [7, 8, 9, 10, 11, 12, 13, 14, 15, 16, 17, 18, 19, 20, 21, 22, 23] rfl) (hD.sub (ws' := (ow a cI cJ ou ho ke hc tr fo fr st co ro cA cD su jA jD)) [7, 8, 9, 10, 11, 12, 13, 14, 15, 16, 17, 18, 19, 20, 21, 22, 23] (by decide) rfl)) rfl rfl hl.1 rfl (lv_room (Nat.le_of_ble_eq_true rfl)) dL_law_516 ⟨by dsimp only [room_1]; omega, by dsimp only [room_1]; omega⟩) hP hD hS hA rfl (wr := (mw b cI th w h ms mu mb me mf mt mv ml mk)) rfl (by decide) (by decide) (fun r u H locs hw hP hD hS => ?_)
    obtain ⟨u1, hu1⟩ : ∃ z, z = u := ⟨_, rfl⟩
    rw [hw]
    replace hP : va_P D vwCl (mw b cI th w h ms mu mb me mf mt mv ml mk ++ ow a cI cJ o1.2 ho ke hc tr fo fr st co ro cA cD su u.1 u.2) H := hP
    replace hD : va_D (fun q : Nat => s.heap.size ≤ q) (mw b cI th w h ms mu mb me mf mt mv ml mk ++ ow a cI cJ o1.2 ho ke hc tr fo fr st co ro cA cD su u.1 u.2) := hD
    obtain ⟨uA9, uD9⟩ := u
    replace hP : va_P D vwCl (mw b cI th w h ms mu mb me mf mt mv ml mk ++ ow a cI cJ o1.2 ho ke hc tr fo fr st co ro cA cD su uA9 uD9) H := hP
    replace hD : va_D (fun q : Nat => s.heap.size ≤ q) (mw b cI th w h ms mu mb me mf mt mv ml mk ++ ow a cI cJ o1.2 ho ke hc tr fo fr st co ro cA cD su uA9 uD9) := hD
    refine lv_istore (lv' := [(5, .int o1.1), (0, .ref b0), (1, .ref (a 15)), (2, .ref (b 0)), (3, .ref (a 16)), (4, .int (nI i))]) hx hb dL_law_519 hl (by decide) rfl (fun ls hl => ?_)
    refine lv_aload_n hx hb dL_law_521 rfl (lv_at hl 3 rfl) ?_
    refine lv_aload_n hx hb dL_law_522 rfl (lv_at hl 1 rfl) ?_
    refine lv_iload hx hb dL_law_523 (lv_at hl 5 rfl) ?_
    refine lv_iconst (v := 1) hx hb dL_law_525 (by decide) ?_
    refine lv_iadd hx hb dL_law_526 ?_
    refine va_sld hx hb hX hbl hbA hS hi1 dL_law_527 ?_
    refine lv_aload_n hx hb dL_law_528 rfl (lv_at hl 1 rfl) ?_
    refine lv_iload hx hb dL_law_529 (lv_at hl 5 rfl) ?_
    refine lv_iconst (v := 2) hx hb dL_law_531 (by decide) ?_
    refine lv_iadd hx hb dL_law_532 ?_
    refine va_sld hx hb hX hbl hbA hS hi2 dL_law_533 ?_
    refine lv_if_eq (tgt := 541) hx hb dL_law_534 (by decide) (fun h9 => absurd h9 hz) (fun _ => ?_)
    refine lv_iconst (v := 1) hx hb dL_law_537 (by decide) ?_
    refine lv_goto (tgt := 542) hx hb dL_law_538 (by decide) ?_
    refine lv_aload_n hx hb dL_law_542 rfl (lv_at hl 1 rfl) ?_
    refine lv_iload hx hb dL_law_543 (lv_at hl 5 rfl) ?_
    refine lv_iconst (v := 3) hx hb dL_law_545 (by decide) ?_
    refine lv_iadd hx hb dL_law_546 ?_
    refine va_sld hx hb hX hbl hbA hS hi3 dL_law_547 ?_
    refine cW_i [0, 1, 2, 3, 4, 5, 6] [7, 8, 9, 10, 11, 12, 13, 14, 15, 16, 17, 18, 19, 20, 21, 22, 23] (va_runV (As := [.int (xs (nI i + 1).toNatClampNeg), .int 1, .int (xs (nI i + 3).toNatClampNeg)]) (rest := []) ⟨hx, hb, hml, hown, hts⟩ (kX5_corridor (l := l) (D := D) (cI := cI) (cJ := cJ) N b (th := th) (w := w) (h := h) (ms := ms) (mu := mu) (mb := mb) (me := me) (mf := mf) (mt := mt) (mv := mv) (ml := ml) (mk := mk) hC2 H.size) (cwV 3 hts gL_law_X5_corridor rfl rfl rfl (by decide +kernel) ⟨Nat.le_of_ble_eq_true rfl, Nat.le_of_ble_eq_true rfl⟩) (preV [.int (xs (nI i + 1).toNatClampNeg), .int 1, .int (xs (nI i + 3).toNatClampNeg)] hN hK (hP.sub (ws' := (mw b cI th w h ms mu mb me mf mt mv ml mk)) [0, 1, 2, 3, 4, 5, 6] rfl) (hD.sub (ws' := (mw b cI th w h ms mu mb me mf mt mv ml mk)) [0, 1, 2, 3, 4, 5, 6] (by decide) rfl) (ci := 5) (q0 := 0) rfl rfl) rfl rfl hl.1 rfl (lv_room (Nat.le_of_ble_eq_true rfl)) dL_law_548 ⟨by dsimp only [room_1]; omega, by dsimp only [room_1]; omega⟩) hP hD hS hA rfl (wr := (ow a cI cJ o1.2 ho ke hc tr fo fr st co ro cA cD su uA9 uD9)) rfl (by decide) (by decide) (fun r u H locs hw hP hD hS => ?_)
    rw [hw]
    replace hP := hP.sub (ws' := mw b cI o2.2 w h ms mu mb me mf mt mv ml mk ++ ow a cI cJ o1.2 ho ke hc tr fo fr st co ro cA cD su uA9 uD9) [17, 18, 19, 20, 21, 22, 23, 0, 1, 2, 3, 4, 5, 6, 7, 8, 9, 10, 11, 12, 13, 14, 15, 16] rfl
    replace hD := hD.sub (ws' := mw b cI o2.2 w h ms mu mb me mf mt mv ml mk ++ ow a cI cJ o1.2 ho ke hc tr fo fr st co ro cA cD su uA9 uD9) [17, 18, 19, 20, 21, 22, 23, 0, 1, 2, 3, 4, 5, 6, 7, 8, 9, 10, 11, 12, 13, 14, 15, 16] (by decide) rfl
    refine lv_istore (lv' := [(6, .int o2.1), (5, .int o1.1), (0, .ref b0), (1, .ref (a 15)), (2, .ref (b 0)), (3, .ref (a 16)), (4, .int (nI i))]) hx hb dL_law_551 hl (by decide) rfl (fun ls hl => ?_)
    refine lv_aload_n hx hb dL_law_553 rfl (lv_at hl 4 rfl) ?_
    refine cR_i (va_runV (As := []) (rest := []) ⟨hx, hb, hml, hown, hts⟩ (kX5_thrown (l := l) (D := D) (cI := cI) (cJ := cJ) N b (th := o2.2) (w := w) (h := h) (ms := ms) (mu := mu) (mb := mb) (me := me) (mf := mf) (mt := mt) (mv := mv) (ml := ml) (mk := mk) (o := o2.2) rfl H.size) (cwV 0 hts gL_law_X5_thrown rfl rfl rfl (by decide +kernel) ⟨Nat.le_of_ble_eq_true rfl, Nat.le_of_ble_eq_true rfl⟩) (preV [] hN hK (hP.sub (ws' := (mw b cI o2.2 w h ms mu mb me mf mt mv ml mk)) [0, 1, 2, 3, 4, 5, 6] rfl) (hD.sub (ws' := (mw b cI o2.2 w h ms mu mb me mf mt mv ml mk)) [0, 1, 2, 3, 4, 5, 6] (by decide) rfl) (ci := 5) (q0 := 0) rfl rfl) rfl rfl hl.1 rfl (lv_room (Nat.le_of_ble_eq_true rfl)) dL_law_554 ⟨by dsimp only [room_1]; omega, by dsimp only [room_1]; omega⟩) hP hS (fun r u H locs hw hP hS => ?_)
    rw [hw]
    refine lv_iload hx hb dL_law_557 (lv_at hl 1 rfl) ?_
    refine lv_icmp_eq (tgt := 564) hx hb dL_law_559 (by decide) (fun _ => ?_) (fun h9 => absurd hth h9)
    refine lv_iload hx hb dL_law_564 (lv_at hl 1 rfl) ?_
    refine lv_if_ne (tgt := 581) hx hb dL_law_566 (by decide) (fun hk => ?_) (fun hk => ?_)
    · skip
      refine lv_goto (tgt := 1050) hx hb dL_law_581 (by decide) ?_
      refine W.widen (k := cells + 2) (n := slots + 12) (by omega) (by omega) ?_
      exact kk _ _ _ _ _ _ _ _ _ _ _ _ _ _ _ _ _ _ _ _ _ _ _ _ hr _ _ _ hP hD hS (lv_sub hl [2, 3, 4, 5, 6] rfl)
    · skip
      refine lv_aload_n hx hb dL_law_569 rfl (lv_at hl 5 rfl) ?_
      refine lv_iconst (v := 0) hx hb dL_law_570 (by decide) ?_
      refine va_lald (D := D) hx hb hK hP 7 1 rfl rfl (show vp_in (0 : Int32) 1 from vp_in_nI (n := 0) (by omega) (by omega)) dL_law_571 ?_
      refine lv_iload hx hb dL_law_572 (lv_at hl 0 rfl) ?_
      refine lv_i2l hx hb dL_law_574 rfl ?_
      refine W.lcmp hx hb dL_law_575 ?_
      refine lv_if_eq (tgt := 581) hx hb dL_law_576 (by decide) (fun _ => ?_) (fun h9 => absurd ((lg_cmp_eq _ _).mpr (hou hk)) h9)
      refine lv_goto (tgt := 1050) hx hb dL_law_581 (by decide) ?_
      refine W.widen (k := cells + 2) (n := slots + 12) (by omega) (by omega) ?_
      exact kk _ _ _ _ _ _ _ _ _ _ _ _ _ _ _ _ _ _ _ _ _ _ _ _ hr _ _ _ hP hD hS (lv_sub hl [2, 3, 4, 5, 6] rfl)
set_option maxHeartbeats 4000000 in
set_option maxRecDepth 100000 in
/-- can -/
theorem law_7 {p : Program} {l : Launch} {e : Env} {s : State} {m : MethodId} {below : List Frame} {meth : Method} {c : Code} {b0 L : Nat} {xs : Nat → Int32} {D : va_G} {cI cJ : ClassId} {Q : State → Prop} {N : Nat} (hN6 : 600 ≤ N) (C0 : LA p l s m meth c b0 L xs D cI cJ) (a b : Nat → Nat) {i : Nat} (hi : i + 4 ≤ L) (hL : L ≤ 2048)
    {st ho ke ms mu mb me mf mk : RowI} {hc tr fo fr co ro th w h mt mv ml : Int32} {ou su : RowJ} {cA cD : CS} {jA jD : JT} (hr : Rel ke tr fo fr st co ro cA cD su w h ms mu mb me mf)
    {H : Heap} {locs : List Loc} {ls : Array Slot} {cells slots : Nat} (hcl : cells + 2 ≤ 601024) (hsl : slots + 12 ≤ 7293034) (hP : va_P D vwCl (lawW a b cI cJ th w h ms mu mb me mf mt mv ml mk ou ho ke hc tr fo fr st co ro cA cD su jA jD) H) (hD : va_D (fun q : Nat => s.heap.size ≤ q) (lawW a b cI cJ th w h ms mu mb me mf mt mv ml mk ou ho ke hc tr fo fr st co ro cA cD su jA jD)) (hS : va_S (fun q : Nat => s.heap.size ≤ q) s.heap H locs) (hl : lv_has ls 9 (lv5 a b b0 i))
    (kk : KK p l e s m below meth c b0 D cI cJ Q a b i su me mf (cells + 2) (slots + 12)) : W p l e room_1 s m #[Value.ref b0] below meth c H locs cells slots Q (F0 m 584 ls []) := by
  obtain ⟨hx, hb, hr9, hml, hown, hts, hX, hbl, hlocks, hlt, hN, hTX, hK⟩ := C0
  have hA : ∀ q : Nat, s.heap.size ≤ q → (fun q : Nat => s.heap.size ≤ q) q := fun _ h => h
  have hbA : ¬ (fun q : Nat => s.heap.size ≤ q) b0 := Nat.not_le.mpr hbl
  have hi1 : vp_in (nI i + 1) L := by rw [show (1 : Int32) = nI 1 from rfl, nI_add]; exact vp_in_nI (by omega) (by omega)
  replace hP : va_P D vwCl (mw b cI th w h ms mu mb me mf mt mv ml mk ++ ow a cI cJ ou ho ke hc tr fo fr st co ro cA cD su jA jD) H := hP
  replace hD : va_D (fun q : Nat => s.heap.size ≤ q) (mw b cI th w h ms mu mb me mf mt mv ml mk ++ ow a cI cJ ou ho ke hc tr fo fr st co ro cA cD su jA jD) := hD
  replace hl : lv_has ls 9 [(0, .ref b0), (1, .ref (a 15)), (2, .ref (b 0)), (3, .ref (a 16)), (4, .int (nI i))] := hl
  obtain ⟨o1, o2, hC1, hC2, hth, hou, hms⟩ := t_can hN6 hr ou th (xs (nI i + 1).toNatClampNeg)
  refine lv_aload_n hx hb dL_law_584 rfl (lv_at hl 1 rfl) ?_
  refine lv_aload_n hx hb dL_law_585 rfl (lv_at hl 0 rfl) ?_
  refine lv_iload hx hb dL_law_586 (lv_at hl 4 rfl) ?_
  refine lv_iconst (v := 1) hx hb dL_law_588 (by decide) ?_
  refine lv_iadd hx hb dL_law_589 ?_
  refine va_sld hx hb hX hbl hbA hS hi1 dL_law_590 ?_
  refine lv_aload_n hx hb dL_law_591 rfl (lv_at hl 3 rfl) ?_
  have hF := va_free (wc := (ow a cI cJ ou ho ke hc tr fo fr st co ro cA cD su jA jD)) hD hS hA [7, 8, 9, 10, 11, 12, 13, 14, 15, 16, 17, 18, 19, 20, 21, 22, 23] rfl
  refine cW_i [7, 8, 9, 10, 11, 12, 13, 14, 15, 16, 17, 18, 19, 20, 21, 22, 23] [0, 1, 2, 3, 4, 5, 6] (vx_runSW (As := [.ref (a 15), .int (xs (nI i + 1).toNatClampNeg), .ref (a 16)]) (rest := []) ⟨hx, hb, hml, hown, hts⟩ (kL_can (l := l) (D := D) (cI := cI) (cJ := cJ) hlt N a (ou := ou) (ho := ho) (ke := ke) (hc := hc) (tr := tr) (fo := fo) (fr := fr) (st := st) (co := co) (ro := ro) (cA := cA) (cD := cD) (su := su) (jA := jA) (jD := jD) hC1 H.size) (vx_cwSW 3 hts gL_law_L_can rfl rfl rfl (by decide +kernel) ⟨Nat.le_of_ble_eq_true rfl, Nat.le_of_ble_eq_true rfl⟩) (preST [.ref (a 15), .int (xs (nI i + 1).toNatClampNeg), .ref (a 16)] hTX hS (fun q h => hF q h) hN hK (hP.sub (ws' := (ow a cI cJ ou ho ke hc tr fo fr st co ro cA cD su jA jD)) [7, 8, 9, 10, 11, 12, 13, 14, 15, 16, 17, 18, 19, 20, 21, 22, 23] rfl) (hD.sub (ws' := (ow a cI cJ ou ho ke hc tr fo fr st co ro cA cD su jA jD)) [7, 8, 9, 10, 11, 12, 13, 14, 15, 16, 17, 18, 19, 20, 21, 22, 23] (by decide) rfl)) rfl rfl hl.1 rfl (lv_room (Nat.le_of_ble_eq_true rfl)) dL_law_592 ⟨by dsimp only [room_1]; omega, by dsimp only [room_1]; omega⟩) hP hD hS hA rfl (wr := (mw b cI th w h ms mu mb me mf mt mv ml mk)) rfl (by decide) (by decide) (fun r u H locs hw hP hD hS => ?_)
  obtain ⟨u1, hu1⟩ : ∃ z, z = u := ⟨_, rfl⟩
  rw [hw]
  replace hP : va_P D vwCl (mw b cI th w h ms mu mb me mf mt mv ml mk ++ ow a cI cJ o1.2 ho ke hc tr fo fr st co ro cA cD su u.1 u.2) H := hP
  replace hD : va_D (fun q : Nat => s.heap.size ≤ q) (mw b cI th w h ms mu mb me mf mt mv ml mk ++ ow a cI cJ o1.2 ho ke hc tr fo fr st co ro cA cD su u.1 u.2) := hD
  obtain ⟨uA9, uD9⟩ := u
  replace hP : va_P D vwCl (mw b cI th w h ms mu mb me mf mt mv ml mk ++ ow a cI cJ o1.2 ho ke hc tr fo fr st co ro cA cD su uA9 uD9) H := hP
  replace hD : va_D (fun q : Nat => s.heap.size ≤ q) (mw b cI th w h ms mu mb me mf mt mv ml mk ++ ow a cI cJ o1.2 ho ke hc tr fo fr st co ro cA cD su uA9 uD9) := hD
  refine lv_istore (lv' := [(5, .int o1.1), (0, .ref b0), (1, .ref (a 15)), (2, .ref (b 0)), (3, .ref (a 16)), (4, .int (nI i))]) hx hb dL_law_595 hl (by decide) rfl (fun ls hl => ?_)
  refine lv_aload_n hx hb dL_law_597 rfl (lv_at hl 3 rfl) ?_
  refine lv_aload_n hx hb dL_law_598 rfl (lv_at hl 1 rfl) ?_
  refine lv_iload hx hb dL_law_599 (lv_at hl 5 rfl) ?_
  refine lv_iconst (v := 1) hx hb dL_law_601 (by decide) ?_
  refine lv_iadd hx hb dL_law_602 ?_
  refine va_sld hx hb hX hbl hbA hS hi1 dL_law_603 ?_
  refine cW_i [0, 1, 2, 3, 4, 5, 6] [7, 8, 9, 10, 11, 12, 13, 14, 15, 16, 17, 18, 19, 20, 21, 22, 23] (va_runV (As := [.int (xs (nI i + 1).toNatClampNeg)]) (rest := []) ⟨hx, hb, hml, hown, hts⟩ (kX5_can (l := l) (D := D) (cI := cI) (cJ := cJ) N b (th := th) (w := w) (h := h) (ms := ms) (mu := mu) (mb := mb) (me := me) (mf := mf) (mt := mt) (mv := mv) (ml := ml) (mk := mk) hC2 H.size) (cwV 1 hts gL_law_X5_can rfl rfl rfl (by decide +kernel) ⟨Nat.le_of_ble_eq_true rfl, Nat.le_of_ble_eq_true rfl⟩) (preV [.int (xs (nI i + 1).toNatClampNeg)] hN hK (hP.sub (ws' := (mw b cI th w h ms mu mb me mf mt mv ml mk)) [0, 1, 2, 3, 4, 5, 6] rfl) (hD.sub (ws' := (mw b cI th w h ms mu mb me mf mt mv ml mk)) [0, 1, 2, 3, 4, 5, 6] (by decide) rfl) (ci := 5) (q0 := 0) rfl rfl) rfl rfl hl.1 rfl (lv_room (Nat.le_of_ble_eq_true rfl)) dL_law_604 ⟨by dsimp only [room_1]; omega, by dsimp only [room_1]; omega⟩) hP hD hS hA rfl (wr := (ow a cI cJ o1.2 ho ke hc tr fo fr st co ro cA cD su uA9 uD9)) rfl (by decide) (by decide) (fun r u H locs hw hP hD hS => ?_)
  rw [hw]
  replace hP := hP.sub (ws' := mw b cI o2.2.1 w h o2.2.2 mu mb me mf mt mv ml mk ++ ow a cI cJ o1.2 ho ke hc tr fo fr st co ro cA cD su uA9 uD9) [17, 18, 19, 20, 21, 22, 23, 0, 1, 2, 3, 4, 5, 6, 7, 8, 9, 10, 11, 12, 13, 14, 15, 16] rfl
  replace hD := hD.sub (ws' := mw b cI o2.2.1 w h o2.2.2 mu mb me mf mt mv ml mk ++ ow a cI cJ o1.2 ho ke hc tr fo fr st co ro cA cD su uA9 uD9) [17, 18, 19, 20, 21, 22, 23, 0, 1, 2, 3, 4, 5, 6, 7, 8, 9, 10, 11, 12, 13, 14, 15, 16] (by decide) rfl
  refine lv_istore (lv' := [(6, .int o2.1), (5, .int o1.1), (0, .ref b0), (1, .ref (a 15)), (2, .ref (b 0)), (3, .ref (a 16)), (4, .int (nI i))]) hx hb dL_law_607 hl (by decide) rfl (fun ls hl => ?_)
  refine lv_aload_n hx hb dL_law_609 rfl (lv_at hl 4 rfl) ?_
  refine cR_i (va_runV (As := []) (rest := []) ⟨hx, hb, hml, hown, hts⟩ (kX5_thrown (l := l) (D := D) (cI := cI) (cJ := cJ) N b (th := o2.2.1) (w := w) (h := h) (ms := o2.2.2) (mu := mu) (mb := mb) (me := me) (mf := mf) (mt := mt) (mv := mv) (ml := ml) (mk := mk) (o := o2.2.1) rfl H.size) (cwV 0 hts gL_law_X5_thrown rfl rfl rfl (by decide +kernel) ⟨Nat.le_of_ble_eq_true rfl, Nat.le_of_ble_eq_true rfl⟩) (preV [] hN hK (hP.sub (ws' := (mw b cI o2.2.1 w h o2.2.2 mu mb me mf mt mv ml mk)) [0, 1, 2, 3, 4, 5, 6] rfl) (hD.sub (ws' := (mw b cI o2.2.1 w h o2.2.2 mu mb me mf mt mv ml mk)) [0, 1, 2, 3, 4, 5, 6] (by decide) rfl) (ci := 5) (q0 := 0) rfl rfl) rfl rfl hl.1 rfl (lv_room (Nat.le_of_ble_eq_true rfl)) dL_law_610 ⟨by dsimp only [room_1]; omega, by dsimp only [room_1]; omega⟩) hP hS (fun r u H locs hw hP hS => ?_)
  rw [hw]
  refine lv_iload hx hb dL_law_613 (lv_at hl 1 rfl) ?_
  refine lv_icmp_eq (tgt := 620) hx hb dL_law_615 (by decide) (fun _ => ?_) (fun h9 => absurd hth h9)
  refine lv_iload hx hb dL_law_620 (lv_at hl 1 rfl) ?_
  refine lv_if_ne (tgt := 637) hx hb dL_law_622 (by decide) (fun hk => ?_) (fun hk => ?_)
  · skip
    refine lv_goto (tgt := 1050) hx hb dL_law_637 (by decide) ?_
    refine W.widen (k := cells + 2) (n := slots + 12) (by omega) (by omega) ?_
    rw [hms] at hP hD
    exact kk _ _ _ _ _ _ _ _ _ _ _ _ _ _ _ _ _ _ _ _ _ _ _ _ hr _ _ _ hP hD hS (lv_sub hl [2, 3, 4, 5, 6] rfl)
  · skip
    refine lv_aload_n hx hb dL_law_625 rfl (lv_at hl 5 rfl) ?_
    refine lv_iconst (v := 0) hx hb dL_law_626 (by decide) ?_
    refine va_lald (D := D) hx hb hK hP 7 1 rfl rfl (show vp_in (0 : Int32) 1 from vp_in_nI (n := 0) (by omega) (by omega)) dL_law_627 ?_
    refine lv_iload hx hb dL_law_628 (lv_at hl 0 rfl) ?_
    refine lv_i2l hx hb dL_law_630 rfl ?_
    refine W.lcmp hx hb dL_law_631 ?_
    refine lv_if_eq (tgt := 637) hx hb dL_law_632 (by decide) (fun _ => ?_) (fun h9 => absurd ((lg_cmp_eq _ _).mpr (hou hk)) h9)
    refine lv_goto (tgt := 1050) hx hb dL_law_637 (by decide) ?_
    refine W.widen (k := cells + 2) (n := slots + 12) (by omega) (by omega) ?_
    rw [hms] at hP hD
    exact kk _ _ _ _ _ _ _ _ _ _ _ _ _ _ _ _ _ _ _ _ _ _ _ _ hr _ _ _ hP hD hS (lv_sub hl [2, 3, 4, 5, 6] rfl)
set_option maxHeartbeats 4000000 in
set_option maxRecDepth 100000 in
/-- count -/
theorem law_8 {p : Program} {l : Launch} {e : Env} {s : State} {m : MethodId} {below : List Frame} {meth : Method} {c : Code} {b0 L : Nat} {xs : Nat → Int32} {D : va_G} {cI cJ : ClassId} {Q : State → Prop} {N : Nat} (hN6 : 600 ≤ N) (C0 : LA p l s m meth c b0 L xs D cI cJ) (a b : Nat → Nat) {i : Nat} (hi : i + 4 ≤ L) (hL : L ≤ 2048)
    {st ho ke ms mu mb me mf mk : RowI} {hc tr fo fr co ro th w h mt mv ml : Int32} {ou su : RowJ} {cA cD : CS} {jA jD : JT} (hr : Rel ke tr fo fr st co ro cA cD su w h ms mu mb me mf)
    {H : Heap} {locs : List Loc} {ls : Array Slot} {cells slots : Nat} (hcl : cells + 2 ≤ 601024) (hsl : slots + 12 ≤ 7293034) (hP : va_P D vwCl (lawW a b cI cJ th w h ms mu mb me mf mt mv ml mk ou ho ke hc tr fo fr st co ro cA cD su jA jD) H) (hD : va_D (fun q : Nat => s.heap.size ≤ q) (lawW a b cI cJ th w h ms mu mb me mf mt mv ml mk ou ho ke hc tr fo fr st co ro cA cD su jA jD)) (hS : va_S (fun q : Nat => s.heap.size ≤ q) s.heap H locs) (hl : lv_has ls 9 (lv5 a b b0 i))
    (kk : KK p l e s m below meth c b0 D cI cJ Q a b i su me mf (cells + 2) (slots + 12)) : W p l e room_1 s m #[Value.ref b0] below meth c H locs cells slots Q (F0 m 640 ls []) := by
  obtain ⟨hx, hb, hr9, hml, hown, hts, hX, hbl, hlocks, hlt, hN, hTX, hK⟩ := C0
  have hA : ∀ q : Nat, s.heap.size ≤ q → (fun q : Nat => s.heap.size ≤ q) q := fun _ h => h
  have hbA : ¬ (fun q : Nat => s.heap.size ≤ q) b0 := Nat.not_le.mpr hbl
  have hi1 : vp_in (nI i + 1) L := by rw [show (1 : Int32) = nI 1 from rfl, nI_add]; exact vp_in_nI (by omega) (by omega)
  replace hP : va_P D vwCl (mw b cI th w h ms mu mb me mf mt mv ml mk ++ ow a cI cJ ou ho ke hc tr fo fr st co ro cA cD su jA jD) H := hP
  replace hD : va_D (fun q : Nat => s.heap.size ≤ q) (mw b cI th w h ms mu mb me mf mt mv ml mk ++ ow a cI cJ ou ho ke hc tr fo fr st co ro cA cD su jA jD) := hD
  replace hl : lv_has ls 9 [(0, .ref b0), (1, .ref (a 15)), (2, .ref (b 0)), (3, .ref (a 16)), (4, .int (nI i))] := hl
  obtain ⟨o1, o2, hC1, hC2, hth, hou, hms⟩ := t_count hN6 hr ou th (xs (nI i + 1).toNatClampNeg)
  refine lv_aload_n hx hb dL_law_640 rfl (lv_at hl 1 rfl) ?_
  refine lv_aload_n hx hb dL_law_641 rfl (lv_at hl 0 rfl) ?_
  refine lv_iload hx hb dL_law_642 (lv_at hl 4 rfl) ?_
  refine lv_iconst (v := 1) hx hb dL_law_644 (by decide) ?_
  refine lv_iadd hx hb dL_law_645 ?_
  refine va_sld hx hb hX hbl hbA hS hi1 dL_law_646 ?_
  refine lv_aload_n hx hb dL_law_647 rfl (lv_at hl 3 rfl) ?_
  have hF := va_free (wc := (ow a cI cJ ou ho ke hc tr fo fr st co ro cA cD su jA jD)) hD hS hA [7, 8, 9, 10, 11, 12, 13, 14, 15, 16, 17, 18, 19, 20, 21, 22, 23] rfl
  refine cW_i [7, 8, 9, 10, 11, 12, 13, 14, 15, 16, 17, 18, 19, 20, 21, 22, 23] [0, 1, 2, 3, 4, 5, 6] (vx_runSW (As := [.ref (a 15), .int (xs (nI i + 1).toNatClampNeg), .ref (a 16)]) (rest := []) ⟨hx, hb, hml, hown, hts⟩ (kL_count (l := l) (D := D) (cI := cI) (cJ := cJ) hlt N a (ou := ou) (ho := ho) (ke := ke) (hc := hc) (tr := tr) (fo := fo) (fr := fr) (st := st) (co := co) (ro := ro) (cA := cA) (cD := cD) (su := su) (jA := jA) (jD := jD) hC1 H.size) (vx_cwSW 3 hts gL_law_L_count rfl rfl rfl (by decide +kernel) ⟨Nat.le_of_ble_eq_true rfl, Nat.le_of_ble_eq_true rfl⟩) (preST [.ref (a 15), .int (xs (nI i + 1).toNatClampNeg), .ref (a 16)] hTX hS (fun q h => hF q h) hN hK (hP.sub (ws' := (ow a cI cJ ou ho ke hc tr fo fr st co ro cA cD su jA jD)) [7, 8, 9, 10, 11, 12, 13, 14, 15, 16, 17, 18, 19, 20, 21, 22, 23] rfl) (hD.sub (ws' := (ow a cI cJ ou ho ke hc tr fo fr st co ro cA cD su jA jD)) [7, 8, 9, 10, 11, 12, 13, 14, 15, 16, 17, 18, 19, 20, 21, 22, 23] (by decide) rfl)) rfl rfl hl.1 rfl (lv_room (Nat.le_of_ble_eq_true rfl)) dL_law_648 ⟨by dsimp only [room_1]; omega, by dsimp only [room_1]; omega⟩) hP hD hS hA rfl (wr := (mw b cI th w h ms mu mb me mf mt mv ml mk)) rfl (by decide) (by decide) (fun r u H locs hw hP hD hS => ?_)
  obtain ⟨u1, hu1⟩ : ∃ z, z = u := ⟨_, rfl⟩
  rw [hw]
  replace hP : va_P D vwCl (mw b cI th w h ms mu mb me mf mt mv ml mk ++ ow a cI cJ o1.2 ho ke hc tr fo fr st co ro cA cD su u.1 u.2) H := hP
  replace hD : va_D (fun q : Nat => s.heap.size ≤ q) (mw b cI th w h ms mu mb me mf mt mv ml mk ++ ow a cI cJ o1.2 ho ke hc tr fo fr st co ro cA cD su u.1 u.2) := hD
  obtain ⟨uA9, uD9⟩ := u
  replace hP : va_P D vwCl (mw b cI th w h ms mu mb me mf mt mv ml mk ++ ow a cI cJ o1.2 ho ke hc tr fo fr st co ro cA cD su uA9 uD9) H := hP
  replace hD : va_D (fun q : Nat => s.heap.size ≤ q) (mw b cI th w h ms mu mb me mf mt mv ml mk ++ ow a cI cJ o1.2 ho ke hc tr fo fr st co ro cA cD su uA9 uD9) := hD
  refine lv_istore (lv' := [(5, .int o1.1), (0, .ref b0), (1, .ref (a 15)), (2, .ref (b 0)), (3, .ref (a 16)), (4, .int (nI i))]) hx hb dL_law_651 hl (by decide) rfl (fun ls hl => ?_)
  refine lv_aload_n hx hb dL_law_653 rfl (lv_at hl 3 rfl) ?_
  refine lv_aload_n hx hb dL_law_654 rfl (lv_at hl 1 rfl) ?_
  refine lv_iload hx hb dL_law_655 (lv_at hl 5 rfl) ?_
  refine lv_iconst (v := 1) hx hb dL_law_657 (by decide) ?_
  refine lv_iadd hx hb dL_law_658 ?_
  refine va_sld hx hb hX hbl hbA hS hi1 dL_law_659 ?_
  refine cW_i [0, 1, 2, 3, 4, 5, 6] [7, 8, 9, 10, 11, 12, 13, 14, 15, 16, 17, 18, 19, 20, 21, 22, 23] (va_runV (As := [.int (xs (nI i + 1).toNatClampNeg)]) (rest := []) ⟨hx, hb, hml, hown, hts⟩ (kX5_count (l := l) (D := D) (cI := cI) (cJ := cJ) N b (th := th) (w := w) (h := h) (ms := ms) (mu := mu) (mb := mb) (me := me) (mf := mf) (mt := mt) (mv := mv) (ml := ml) (mk := mk) hC2 H.size) (cwV 1 hts gL_law_X5_count rfl rfl rfl (by decide +kernel) ⟨Nat.le_of_ble_eq_true rfl, Nat.le_of_ble_eq_true rfl⟩) (preV [.int (xs (nI i + 1).toNatClampNeg)] hN hK (hP.sub (ws' := (mw b cI th w h ms mu mb me mf mt mv ml mk)) [0, 1, 2, 3, 4, 5, 6] rfl) (hD.sub (ws' := (mw b cI th w h ms mu mb me mf mt mv ml mk)) [0, 1, 2, 3, 4, 5, 6] (by decide) rfl) (ci := 5) (q0 := 0) rfl rfl) rfl rfl hl.1 rfl (lv_room (Nat.le_of_ble_eq_true rfl)) dL_law_660 ⟨by dsimp only [room_1]; omega, by dsimp only [room_1]; omega⟩) hP hD hS hA rfl (wr := (ow a cI cJ o1.2 ho ke hc tr fo fr st co ro cA cD su uA9 uD9)) rfl (by decide) (by decide) (fun r u H locs hw hP hD hS => ?_)
  rw [hw]
  replace hP := hP.sub (ws' := mw b cI o2.2.1 w h o2.2.2 mu mb me mf mt mv ml mk ++ ow a cI cJ o1.2 ho ke hc tr fo fr st co ro cA cD su uA9 uD9) [17, 18, 19, 20, 21, 22, 23, 0, 1, 2, 3, 4, 5, 6, 7, 8, 9, 10, 11, 12, 13, 14, 15, 16] rfl
  replace hD := hD.sub (ws' := mw b cI o2.2.1 w h o2.2.2 mu mb me mf mt mv ml mk ++ ow a cI cJ o1.2 ho ke hc tr fo fr st co ro cA cD su uA9 uD9) [17, 18, 19, 20, 21, 22, 23, 0, 1, 2, 3, 4, 5, 6, 7, 8, 9, 10, 11, 12, 13, 14, 15, 16] (by decide) rfl
  refine lv_istore (lv' := [(6, .int o2.1), (5, .int o1.1), (0, .ref b0), (1, .ref (a 15)), (2, .ref (b 0)), (3, .ref (a 16)), (4, .int (nI i))]) hx hb dL_law_663 hl (by decide) rfl (fun ls hl => ?_)
  refine lv_aload_n hx hb dL_law_665 rfl (lv_at hl 4 rfl) ?_
  refine cR_i (va_runV (As := []) (rest := []) ⟨hx, hb, hml, hown, hts⟩ (kX5_thrown (l := l) (D := D) (cI := cI) (cJ := cJ) N b (th := o2.2.1) (w := w) (h := h) (ms := o2.2.2) (mu := mu) (mb := mb) (me := me) (mf := mf) (mt := mt) (mv := mv) (ml := ml) (mk := mk) (o := o2.2.1) rfl H.size) (cwV 0 hts gL_law_X5_thrown rfl rfl rfl (by decide +kernel) ⟨Nat.le_of_ble_eq_true rfl, Nat.le_of_ble_eq_true rfl⟩) (preV [] hN hK (hP.sub (ws' := (mw b cI o2.2.1 w h o2.2.2 mu mb me mf mt mv ml mk)) [0, 1, 2, 3, 4, 5, 6] rfl) (hD.sub (ws' := (mw b cI o2.2.1 w h o2.2.2 mu mb me mf mt mv ml mk)) [0, 1, 2, 3, 4, 5, 6] (by decide) rfl) (ci := 5) (q0 := 0) rfl rfl) rfl rfl hl.1 rfl (lv_room (Nat.le_of_ble_eq_true rfl)) dL_law_666 ⟨by dsimp only [room_1]; omega, by dsimp only [room_1]; omega⟩) hP hS (fun r u H locs hw hP hS => ?_)
  rw [hw]
  refine lv_iload hx hb dL_law_669 (lv_at hl 1 rfl) ?_
  refine lv_icmp_eq (tgt := 676) hx hb dL_law_671 (by decide) (fun _ => ?_) (fun h9 => absurd hth h9)
  refine lv_iload hx hb dL_law_676 (lv_at hl 1 rfl) ?_
  refine lv_if_ne (tgt := 693) hx hb dL_law_678 (by decide) (fun hk => ?_) (fun hk => ?_)
  · skip
    refine lv_goto (tgt := 1050) hx hb dL_law_693 (by decide) ?_
    refine W.widen (k := cells + 2) (n := slots + 12) (by omega) (by omega) ?_
    rw [hms] at hP hD
    exact kk _ _ _ _ _ _ _ _ _ _ _ _ _ _ _ _ _ _ _ _ _ _ _ _ hr _ _ _ hP hD hS (lv_sub hl [2, 3, 4, 5, 6] rfl)
  · skip
    refine lv_aload_n hx hb dL_law_681 rfl (lv_at hl 5 rfl) ?_
    refine lv_iconst (v := 0) hx hb dL_law_682 (by decide) ?_
    refine va_lald (D := D) hx hb hK hP 7 1 rfl rfl (show vp_in (0 : Int32) 1 from vp_in_nI (n := 0) (by omega) (by omega)) dL_law_683 ?_
    refine lv_iload hx hb dL_law_684 (lv_at hl 0 rfl) ?_
    refine lv_i2l hx hb dL_law_686 rfl ?_
    refine W.lcmp hx hb dL_law_687 ?_
    refine lv_if_eq (tgt := 693) hx hb dL_law_688 (by decide) (fun _ => ?_) (fun h9 => absurd ((lg_cmp_eq _ _).mpr (hou hk)) h9)
    refine lv_goto (tgt := 1050) hx hb dL_law_693 (by decide) ?_
    refine W.widen (k := cells + 2) (n := slots + 12) (by omega) (by omega) ?_
    rw [hms] at hP hD
    exact kk _ _ _ _ _ _ _ _ _ _ _ _ _ _ _ _ _ _ _ _ _ _ _ _ hr _ _ _ hP hD hS (lv_sub hl [2, 3, 4, 5, 6] rfl)
set_option maxHeartbeats 4000000 in
set_option maxRecDepth 100000 in
/-- ways -/
theorem law_9 {p : Program} {l : Launch} {e : Env} {s : State} {m : MethodId} {below : List Frame} {meth : Method} {c : Code} {b0 L : Nat} {xs : Nat → Int32} {D : va_G} {cI cJ : ClassId} {Q : State → Prop} {N : Nat} (hN6 : 600 ≤ N) (C0 : LA p l s m meth c b0 L xs D cI cJ) (a b : Nat → Nat) {i : Nat} (hi : i + 4 ≤ L) (hL : L ≤ 2048)
    {st ho ke ms mu mb me mf mk : RowI} {hc tr fo fr co ro th w h mt mv ml : Int32} {ou su : RowJ} {cA cD : CS} {jA jD : JT} (hr : Rel ke tr fo fr st co ro cA cD su w h ms mu mb me mf)
    {H : Heap} {locs : List Loc} {ls : Array Slot} {cells slots : Nat} (hcl : cells + 2 ≤ 601024) (hsl : slots + 12 ≤ 7293034) (hP : va_P D vwCl (lawW a b cI cJ th w h ms mu mb me mf mt mv ml mk ou ho ke hc tr fo fr st co ro cA cD su jA jD) H) (hD : va_D (fun q : Nat => s.heap.size ≤ q) (lawW a b cI cJ th w h ms mu mb me mf mt mv ml mk ou ho ke hc tr fo fr st co ro cA cD su jA jD)) (hS : va_S (fun q : Nat => s.heap.size ≤ q) s.heap H locs) (hl : lv_has ls 9 (lv5 a b b0 i))
    (kk : KK p l e s m below meth c b0 D cI cJ Q a b i su me mf (cells + 2) (slots + 12)) : W p l e room_1 s m #[Value.ref b0] below meth c H locs cells slots Q (F0 m 696 ls []) := by
  obtain ⟨hx, hb, hr9, hml, hown, hts, hX, hbl, hlocks, hlt, hN, hTX, hK⟩ := C0
  have hA : ∀ q : Nat, s.heap.size ≤ q → (fun q : Nat => s.heap.size ≤ q) q := fun _ h => h
  have hbA : ¬ (fun q : Nat => s.heap.size ≤ q) b0 := Nat.not_le.mpr hbl
  have hi1 : vp_in (nI i + 1) L := by rw [show (1 : Int32) = nI 1 from rfl, nI_add]; exact vp_in_nI (by omega) (by omega)
  have hi2 : vp_in (nI i + 2) L := by rw [show (2 : Int32) = nI 2 from rfl, nI_add]; exact vp_in_nI (by omega) (by omega)
  replace hP : va_P D vwCl (mw b cI th w h ms mu mb me mf mt mv ml mk ++ ow a cI cJ ou ho ke hc tr fo fr st co ro cA cD su jA jD) H := hP
  replace hD : va_D (fun q : Nat => s.heap.size ≤ q) (mw b cI th w h ms mu mb me mf mt mv ml mk ++ ow a cI cJ ou ho ke hc tr fo fr st co ro cA cD su jA jD) := hD
  replace hl : lv_has ls 9 [(0, .ref b0), (1, .ref (a 15)), (2, .ref (b 0)), (3, .ref (a 16)), (4, .int (nI i))] := hl
  have hT9 : MTB me mf := by obtain ⟨_, _, _, _, _, _, _, _, hM9, _⟩ := hr; exact hM9.2.2.2
  obtain ⟨o1, o2, hC1, hC2, hth, hou⟩ := t_ways hN6 hT9 ou th (xs (nI i + 1).toNatClampNeg) (xs (nI i + 2).toNatClampNeg)
  refine lv_aload_n hx hb dL_law_696 rfl (lv_at hl 1 rfl) ?_
  refine lv_aload_n hx hb dL_law_697 rfl (lv_at hl 0 rfl) ?_
  refine lv_iload hx hb dL_law_698 (lv_at hl 4 rfl) ?_
  refine lv_iconst (v := 1) hx hb dL_law_700 (by decide) ?_
  refine lv_iadd hx hb dL_law_701 ?_
  refine va_sld hx hb hX hbl hbA hS hi1 dL_law_702 ?_
  refine lv_aload_n hx hb dL_law_703 rfl (lv_at hl 0 rfl) ?_
  refine lv_iload hx hb dL_law_704 (lv_at hl 4 rfl) ?_
  refine lv_iconst (v := 2) hx hb dL_law_706 (by decide) ?_
  refine lv_iadd hx hb dL_law_707 ?_
  refine va_sld hx hb hX hbl hbA hS hi2 dL_law_708 ?_
  refine lv_aload_n hx hb dL_law_709 rfl (lv_at hl 3 rfl) ?_
  have hF := va_free (wc := (ow a cI cJ ou ho ke hc tr fo fr st co ro cA cD su jA jD)) hD hS hA [7, 8, 9, 10, 11, 12, 13, 14, 15, 16, 17, 18, 19, 20, 21, 22, 23] rfl
  refine cW_i [7, 8, 9, 10, 11, 12, 13, 14, 15, 16, 17, 18, 19, 20, 21, 22, 23] [0, 1, 2, 3, 4, 5, 6] (vx_runSW (As := [.ref (a 15), .int (xs (nI i + 1).toNatClampNeg), .int (xs (nI i + 2).toNatClampNeg), .ref (a 16)]) (rest := []) ⟨hx, hb, hml, hown, hts⟩ (kL_ways (l := l) (D := D) (cI := cI) (cJ := cJ) hlt N a (ou := ou) (ho := ho) (ke := ke) (hc := hc) (tr := tr) (fo := fo) (fr := fr) (st := st) (co := co) (ro := ro) (cA := cA) (cD := cD) (su := su) (jA := jA) (jD := jD) hC1 H.size) (vx_cwSW 4 hts gL_law_L_ways rfl rfl rfl (by decide +kernel) ⟨Nat.le_of_ble_eq_true rfl, Nat.le_of_ble_eq_true rfl⟩) (preST [.ref (a 15), .int (xs (nI i + 1).toNatClampNeg), .int (xs (nI i + 2).toNatClampNeg), .ref (a 16)] hTX hS (fun q h => hF q h) hN hK (hP.sub (ws' := (ow a cI cJ ou ho ke hc tr fo fr st co ro cA cD su jA jD)) [7, 8, 9, 10, 11, 12, 13, 14, 15, 16, 17, 18, 19, 20, 21, 22, 23] rfl) (hD.sub (ws' := (ow a cI cJ ou ho ke hc tr fo fr st co ro cA cD su jA jD)) [7, 8, 9, 10, 11, 12, 13, 14, 15, 16, 17, 18, 19, 20, 21, 22, 23] (by decide) rfl)) rfl rfl hl.1 rfl (lv_room (Nat.le_of_ble_eq_true rfl)) dL_law_710 ⟨by dsimp only [room_1]; omega, by dsimp only [room_1]; omega⟩) hP hD hS hA rfl (wr := (mw b cI th w h ms mu mb me mf mt mv ml mk)) rfl (by decide) (by decide) (fun r u H locs hw hP hD hS => ?_)
  obtain ⟨u1, hu1⟩ : ∃ z, z = u := ⟨_, rfl⟩
  rw [hw]
  replace hP : va_P D vwCl (mw b cI th w h ms mu mb me mf mt mv ml mk ++ ow a cI cJ o1.2 ho ke hc tr fo fr st co ro cA cD su jA jD) H := hP
  replace hD : va_D (fun q : Nat => s.heap.size ≤ q) (mw b cI th w h ms mu mb me mf mt mv ml mk ++ ow a cI cJ o1.2 ho ke hc tr fo fr st co ro cA cD su jA jD) := hD
  refine lv_istore (lv' := [(5, .int o1.1), (0, .ref b0), (1, .ref (a 15)), (2, .ref (b 0)), (3, .ref (a 16)), (4, .int (nI i))]) hx hb dL_law_713 hl (by decide) rfl (fun ls hl => ?_)
  refine lv_aload_n hx hb dL_law_715 rfl (lv_at hl 3 rfl) ?_
  refine lv_aload_n hx hb dL_law_716 rfl (lv_at hl 1 rfl) ?_
  refine lv_iload hx hb dL_law_717 (lv_at hl 5 rfl) ?_
  refine lv_iconst (v := 1) hx hb dL_law_719 (by decide) ?_
  refine lv_iadd hx hb dL_law_720 ?_
  refine va_sld hx hb hX hbl hbA hS hi1 dL_law_721 ?_
  refine lv_aload_n hx hb dL_law_722 rfl (lv_at hl 1 rfl) ?_
  refine lv_iload hx hb dL_law_723 (lv_at hl 5 rfl) ?_
  refine lv_iconst (v := 2) hx hb dL_law_725 (by decide) ?_
  refine lv_iadd hx hb dL_law_726 ?_
  refine va_sld hx hb hX hbl hbA hS hi2 dL_law_727 ?_
  refine cW_i [0, 1, 2, 3, 4, 5, 6] [7, 8, 9, 10, 11, 12, 13, 14, 15, 16, 17, 18, 19, 20, 21, 22, 23] (va_runV (As := [.int (xs (nI i + 1).toNatClampNeg), .int (xs (nI i + 2).toNatClampNeg)]) (rest := []) ⟨hx, hb, hml, hown, hts⟩ (kX5_ways (l := l) (D := D) (cI := cI) (cJ := cJ) N b (th := th) (w := w) (h := h) (ms := ms) (mu := mu) (mb := mb) (me := me) (mf := mf) (mt := mt) (mv := mv) (ml := ml) (mk := mk) hC2 H.size) (cwV 2 hts gL_law_X5_ways rfl rfl rfl (by decide +kernel) ⟨Nat.le_of_ble_eq_true rfl, Nat.le_of_ble_eq_true rfl⟩) (preV [.int (xs (nI i + 1).toNatClampNeg), .int (xs (nI i + 2).toNatClampNeg)] hN hK (hP.sub (ws' := (mw b cI th w h ms mu mb me mf mt mv ml mk)) [0, 1, 2, 3, 4, 5, 6] rfl) (hD.sub (ws' := (mw b cI th w h ms mu mb me mf mt mv ml mk)) [0, 1, 2, 3, 4, 5, 6] (by decide) rfl) (ci := 5) (q0 := 0) rfl rfl) rfl rfl hl.1 rfl (lv_room (Nat.le_of_ble_eq_true rfl)) dL_law_728 ⟨by dsimp only [room_1]; omega, by dsimp only [room_1]; omega⟩) hP hD hS hA rfl (wr := (ow a cI cJ o1.2 ho ke hc tr fo fr st co ro cA cD su jA jD)) rfl (by decide) (by decide) (fun r u H locs hw hP hD hS => ?_)
  rw [hw]
  replace hP := hP.sub (ws' := mw b cI o2.2 w h ms mu mb me mf mt mv ml mk ++ ow a cI cJ o1.2 ho ke hc tr fo fr st co ro cA cD su jA jD) [17, 18, 19, 20, 21, 22, 23, 0, 1, 2, 3, 4, 5, 6, 7, 8, 9, 10, 11, 12, 13, 14, 15, 16] rfl
  replace hD := hD.sub (ws' := mw b cI o2.2 w h ms mu mb me mf mt mv ml mk ++ ow a cI cJ o1.2 ho ke hc tr fo fr st co ro cA cD su jA jD) [17, 18, 19, 20, 21, 22, 23, 0, 1, 2, 3, 4, 5, 6, 7, 8, 9, 10, 11, 12, 13, 14, 15, 16] (by decide) rfl
  refine lv_istore (lv' := [(6, .int o2.1), (5, .int o1.1), (0, .ref b0), (1, .ref (a 15)), (2, .ref (b 0)), (3, .ref (a 16)), (4, .int (nI i))]) hx hb dL_law_731 hl (by decide) rfl (fun ls hl => ?_)
  refine lv_aload_n hx hb dL_law_733 rfl (lv_at hl 4 rfl) ?_
  refine cR_i (va_runV (As := []) (rest := []) ⟨hx, hb, hml, hown, hts⟩ (kX5_thrown (l := l) (D := D) (cI := cI) (cJ := cJ) N b (th := o2.2) (w := w) (h := h) (ms := ms) (mu := mu) (mb := mb) (me := me) (mf := mf) (mt := mt) (mv := mv) (ml := ml) (mk := mk) (o := o2.2) rfl H.size) (cwV 0 hts gL_law_X5_thrown rfl rfl rfl (by decide +kernel) ⟨Nat.le_of_ble_eq_true rfl, Nat.le_of_ble_eq_true rfl⟩) (preV [] hN hK (hP.sub (ws' := (mw b cI o2.2 w h ms mu mb me mf mt mv ml mk)) [0, 1, 2, 3, 4, 5, 6] rfl) (hD.sub (ws' := (mw b cI o2.2 w h ms mu mb me mf mt mv ml mk)) [0, 1, 2, 3, 4, 5, 6] (by decide) rfl) (ci := 5) (q0 := 0) rfl rfl) rfl rfl hl.1 rfl (lv_room (Nat.le_of_ble_eq_true rfl)) dL_law_734 ⟨by dsimp only [room_1]; omega, by dsimp only [room_1]; omega⟩) hP hS (fun r u H locs hw hP hS => ?_)
  rw [hw]
  refine lv_iload hx hb dL_law_737 (lv_at hl 1 rfl) ?_
  refine lv_icmp_eq (tgt := 744) hx hb dL_law_739 (by decide) (fun _ => ?_) (fun h9 => absurd hth h9)
  refine lv_iload hx hb dL_law_744 (lv_at hl 1 rfl) ?_
  refine lv_if_ne (tgt := 761) hx hb dL_law_746 (by decide) (fun hk => ?_) (fun hk => ?_)
  · skip
    refine lv_goto (tgt := 1050) hx hb dL_law_761 (by decide) ?_
    refine W.widen (k := cells + 2) (n := slots + 12) (by omega) (by omega) ?_
    exact kk _ _ _ _ _ _ _ _ _ _ _ _ _ _ _ _ _ _ _ _ _ _ _ _ hr _ _ _ hP hD hS (lv_sub hl [2, 3, 4, 5, 6] rfl)
  · skip
    refine lv_aload_n hx hb dL_law_749 rfl (lv_at hl 5 rfl) ?_
    refine lv_iconst (v := 0) hx hb dL_law_750 (by decide) ?_
    refine va_lald (D := D) hx hb hK hP 7 1 rfl rfl (show vp_in (0 : Int32) 1 from vp_in_nI (n := 0) (by omega) (by omega)) dL_law_751 ?_
    refine lv_iload hx hb dL_law_752 (lv_at hl 0 rfl) ?_
    refine lv_i2l hx hb dL_law_754 rfl ?_
    refine W.lcmp hx hb dL_law_755 ?_
    refine lv_if_eq (tgt := 761) hx hb dL_law_756 (by decide) (fun _ => ?_) (fun h9 => absurd ((lg_cmp_eq _ _).mpr (hou hk)) h9)
    refine lv_goto (tgt := 1050) hx hb dL_law_761 (by decide) ?_
    refine W.widen (k := cells + 2) (n := slots + 12) (by omega) (by omega) ?_
    exact kk _ _ _ _ _ _ _ _ _ _ _ _ _ _ _ _ _ _ _ _ _ _ _ _ hr _ _ _ hP hD hS (lv_sub hl [2, 3, 4, 5, 6] rfl)
set_option maxHeartbeats 4000000 in
set_option maxRecDepth 100000 in
/-- forced -/
theorem law_10 {p : Program} {l : Launch} {e : Env} {s : State} {m : MethodId} {below : List Frame} {meth : Method} {c : Code} {b0 L : Nat} {xs : Nat → Int32} {D : va_G} {cI cJ : ClassId} {Q : State → Prop} {N : Nat} (hN6 : 600 ≤ N) (C0 : LA p l s m meth c b0 L xs D cI cJ) (a b : Nat → Nat) {i : Nat} (hi : i + 4 ≤ L) (hL : L ≤ 2048)
    {st ho ke ms mu mb me mf mk : RowI} {hc tr fo fr co ro th w h mt mv ml : Int32} {ou su : RowJ} {cA cD : CS} {jA jD : JT} (hr : Rel ke tr fo fr st co ro cA cD su w h ms mu mb me mf)
    {H : Heap} {locs : List Loc} {ls : Array Slot} {cells slots : Nat} (hcl : cells + 2 ≤ 601024) (hsl : slots + 12 ≤ 7293034) (hP : va_P D vwCl (lawW a b cI cJ th w h ms mu mb me mf mt mv ml mk ou ho ke hc tr fo fr st co ro cA cD su jA jD) H) (hD : va_D (fun q : Nat => s.heap.size ≤ q) (lawW a b cI cJ th w h ms mu mb me mf mt mv ml mk ou ho ke hc tr fo fr st co ro cA cD su jA jD)) (hS : va_S (fun q : Nat => s.heap.size ≤ q) s.heap H locs) (hl : lv_has ls 9 (lv5 a b b0 i))
    (kk : KK p l e s m below meth c b0 D cI cJ Q a b i su me mf (cells + 2) (slots + 12)) : W p l e room_1 s m #[Value.ref b0] below meth c H locs cells slots Q (F0 m 764 ls []) := by
  obtain ⟨hx, hb, hr9, hml, hown, hts, hX, hbl, hlocks, hlt, hN, hTX, hK⟩ := C0
  have hA : ∀ q : Nat, s.heap.size ≤ q → (fun q : Nat => s.heap.size ≤ q) q := fun _ h => h
  have hbA : ¬ (fun q : Nat => s.heap.size ≤ q) b0 := Nat.not_le.mpr hbl
  have hi1 : vp_in (nI i + 1) L := by rw [show (1 : Int32) = nI 1 from rfl, nI_add]; exact vp_in_nI (by omega) (by omega)
  have hi2 : vp_in (nI i + 2) L := by rw [show (2 : Int32) = nI 2 from rfl, nI_add]; exact vp_in_nI (by omega) (by omega)
  replace hP : va_P D vwCl (mw b cI th w h ms mu mb me mf mt mv ml mk ++ ow a cI cJ ou ho ke hc tr fo fr st co ro cA cD su jA jD) H := hP
  replace hD : va_D (fun q : Nat => s.heap.size ≤ q) (mw b cI th w h ms mu mb me mf mt mv ml mk ++ ow a cI cJ ou ho ke hc tr fo fr st co ro cA cD su jA jD) := hD
  replace hl : lv_has ls 9 [(0, .ref b0), (1, .ref (a 15)), (2, .ref (b 0)), (3, .ref (a 16)), (4, .int (nI i))] := hl
  have hT9 : MTB me mf := by obtain ⟨_, _, _, _, _, _, _, _, hM9, _⟩ := hr; exact hM9.2.2.2
  obtain ⟨o1, o2, hC1, hC2, hth, hou⟩ := t_forced hN6 hT9 ou th (xs (nI i + 1).toNatClampNeg) (xs (nI i + 2).toNatClampNeg)
  refine lv_aload_n hx hb dL_law_764 rfl (lv_at hl 1 rfl) ?_
  refine lv_aload_n hx hb dL_law_765 rfl (lv_at hl 0 rfl) ?_
  refine lv_iload hx hb dL_law_766 (lv_at hl 4 rfl) ?_
  refine lv_iconst (v := 1) hx hb dL_law_768 (by decide) ?_
  refine lv_iadd hx hb dL_law_769 ?_
  refine va_sld hx hb hX hbl hbA hS hi1 dL_law_770 ?_
  refine lv_aload_n hx hb dL_law_771 rfl (lv_at hl 0 rfl) ?_
  refine lv_iload hx hb dL_law_772 (lv_at hl 4 rfl) ?_
  refine lv_iconst (v := 2) hx hb dL_law_774 (by decide) ?_
  refine lv_iadd hx hb dL_law_775 ?_
  refine va_sld hx hb hX hbl hbA hS hi2 dL_law_776 ?_
  refine lv_aload_n hx hb dL_law_777 rfl (lv_at hl 3 rfl) ?_
  have hF := va_free (wc := (ow a cI cJ ou ho ke hc tr fo fr st co ro cA cD su jA jD)) hD hS hA [7, 8, 9, 10, 11, 12, 13, 14, 15, 16, 17, 18, 19, 20, 21, 22, 23] rfl
  refine cW_i [7, 8, 9, 10, 11, 12, 13, 14, 15, 16, 17, 18, 19, 20, 21, 22, 23] [0, 1, 2, 3, 4, 5, 6] (vx_runSW (As := [.ref (a 15), .int (xs (nI i + 1).toNatClampNeg), .int (xs (nI i + 2).toNatClampNeg), .ref (a 16)]) (rest := []) ⟨hx, hb, hml, hown, hts⟩ (kL_forced (l := l) (D := D) (cI := cI) (cJ := cJ) hlt N a (ou := ou) (ho := ho) (ke := ke) (hc := hc) (tr := tr) (fo := fo) (fr := fr) (st := st) (co := co) (ro := ro) (cA := cA) (cD := cD) (su := su) (jA := jA) (jD := jD) hC1 H.size) (vx_cwSW 4 hts gL_law_L_forced rfl rfl rfl (by decide +kernel) ⟨Nat.le_of_ble_eq_true rfl, Nat.le_of_ble_eq_true rfl⟩) (preST [.ref (a 15), .int (xs (nI i + 1).toNatClampNeg), .int (xs (nI i + 2).toNatClampNeg), .ref (a 16)] hTX hS (fun q h => hF q h) hN hK (hP.sub (ws' := (ow a cI cJ ou ho ke hc tr fo fr st co ro cA cD su jA jD)) [7, 8, 9, 10, 11, 12, 13, 14, 15, 16, 17, 18, 19, 20, 21, 22, 23] rfl) (hD.sub (ws' := (ow a cI cJ ou ho ke hc tr fo fr st co ro cA cD su jA jD)) [7, 8, 9, 10, 11, 12, 13, 14, 15, 16, 17, 18, 19, 20, 21, 22, 23] (by decide) rfl)) rfl rfl hl.1 rfl (lv_room (Nat.le_of_ble_eq_true rfl)) dL_law_778 ⟨by dsimp only [room_1]; omega, by dsimp only [room_1]; omega⟩) hP hD hS hA rfl (wr := (mw b cI th w h ms mu mb me mf mt mv ml mk)) rfl (by decide) (by decide) (fun r u H locs hw hP hD hS => ?_)
  obtain ⟨u1, hu1⟩ : ∃ z, z = u := ⟨_, rfl⟩
  rw [hw]
  replace hP : va_P D vwCl (mw b cI th w h ms mu mb me mf mt mv ml mk ++ ow a cI cJ o1.2 ho ke hc tr fo fr st co ro cA cD su jA jD) H := hP
  replace hD : va_D (fun q : Nat => s.heap.size ≤ q) (mw b cI th w h ms mu mb me mf mt mv ml mk ++ ow a cI cJ o1.2 ho ke hc tr fo fr st co ro cA cD su jA jD) := hD
  refine lv_istore (lv' := [(5, .int o1.1), (0, .ref b0), (1, .ref (a 15)), (2, .ref (b 0)), (3, .ref (a 16)), (4, .int (nI i))]) hx hb dL_law_781 hl (by decide) rfl (fun ls hl => ?_)
  refine lv_aload_n hx hb dL_law_783 rfl (lv_at hl 3 rfl) ?_
  refine lv_aload_n hx hb dL_law_784 rfl (lv_at hl 1 rfl) ?_
  refine lv_iload hx hb dL_law_785 (lv_at hl 5 rfl) ?_
  refine lv_iconst (v := 1) hx hb dL_law_787 (by decide) ?_
  refine lv_iadd hx hb dL_law_788 ?_
  refine va_sld hx hb hX hbl hbA hS hi1 dL_law_789 ?_
  refine lv_aload_n hx hb dL_law_790 rfl (lv_at hl 1 rfl) ?_
  refine lv_iload hx hb dL_law_791 (lv_at hl 5 rfl) ?_
  refine lv_iconst (v := 2) hx hb dL_law_793 (by decide) ?_
  refine lv_iadd hx hb dL_law_794 ?_
  refine va_sld hx hb hX hbl hbA hS hi2 dL_law_795 ?_
  refine cW_i [0, 1, 2, 3, 4, 5, 6] [7, 8, 9, 10, 11, 12, 13, 14, 15, 16, 17, 18, 19, 20, 21, 22, 23] (va_runV (As := [.int (xs (nI i + 1).toNatClampNeg), .int (xs (nI i + 2).toNatClampNeg)]) (rest := []) ⟨hx, hb, hml, hown, hts⟩ (kX5_forced (l := l) (D := D) (cI := cI) (cJ := cJ) N b (th := th) (w := w) (h := h) (ms := ms) (mu := mu) (mb := mb) (me := me) (mf := mf) (mt := mt) (mv := mv) (ml := ml) (mk := mk) hC2 H.size) (cwV 2 hts gL_law_X5_forced rfl rfl rfl (by decide +kernel) ⟨Nat.le_of_ble_eq_true rfl, Nat.le_of_ble_eq_true rfl⟩) (preV [.int (xs (nI i + 1).toNatClampNeg), .int (xs (nI i + 2).toNatClampNeg)] hN hK (hP.sub (ws' := (mw b cI th w h ms mu mb me mf mt mv ml mk)) [0, 1, 2, 3, 4, 5, 6] rfl) (hD.sub (ws' := (mw b cI th w h ms mu mb me mf mt mv ml mk)) [0, 1, 2, 3, 4, 5, 6] (by decide) rfl) (ci := 5) (q0 := 0) rfl rfl) rfl rfl hl.1 rfl (lv_room (Nat.le_of_ble_eq_true rfl)) dL_law_796 ⟨by dsimp only [room_1]; omega, by dsimp only [room_1]; omega⟩) hP hD hS hA rfl (wr := (ow a cI cJ o1.2 ho ke hc tr fo fr st co ro cA cD su jA jD)) rfl (by decide) (by decide) (fun r u H locs hw hP hD hS => ?_)
  rw [hw]
  replace hP := hP.sub (ws' := mw b cI o2.2 w h ms mu mb me mf mt mv ml mk ++ ow a cI cJ o1.2 ho ke hc tr fo fr st co ro cA cD su jA jD) [17, 18, 19, 20, 21, 22, 23, 0, 1, 2, 3, 4, 5, 6, 7, 8, 9, 10, 11, 12, 13, 14, 15, 16] rfl
  replace hD := hD.sub (ws' := mw b cI o2.2 w h ms mu mb me mf mt mv ml mk ++ ow a cI cJ o1.2 ho ke hc tr fo fr st co ro cA cD su jA jD) [17, 18, 19, 20, 21, 22, 23, 0, 1, 2, 3, 4, 5, 6, 7, 8, 9, 10, 11, 12, 13, 14, 15, 16] (by decide) rfl
  refine lv_istore (lv' := [(6, .int o2.1), (5, .int o1.1), (0, .ref b0), (1, .ref (a 15)), (2, .ref (b 0)), (3, .ref (a 16)), (4, .int (nI i))]) hx hb dL_law_799 hl (by decide) rfl (fun ls hl => ?_)
  refine lv_aload_n hx hb dL_law_801 rfl (lv_at hl 4 rfl) ?_
  refine cR_i (va_runV (As := []) (rest := []) ⟨hx, hb, hml, hown, hts⟩ (kX5_thrown (l := l) (D := D) (cI := cI) (cJ := cJ) N b (th := o2.2) (w := w) (h := h) (ms := ms) (mu := mu) (mb := mb) (me := me) (mf := mf) (mt := mt) (mv := mv) (ml := ml) (mk := mk) (o := o2.2) rfl H.size) (cwV 0 hts gL_law_X5_thrown rfl rfl rfl (by decide +kernel) ⟨Nat.le_of_ble_eq_true rfl, Nat.le_of_ble_eq_true rfl⟩) (preV [] hN hK (hP.sub (ws' := (mw b cI o2.2 w h ms mu mb me mf mt mv ml mk)) [0, 1, 2, 3, 4, 5, 6] rfl) (hD.sub (ws' := (mw b cI o2.2 w h ms mu mb me mf mt mv ml mk)) [0, 1, 2, 3, 4, 5, 6] (by decide) rfl) (ci := 5) (q0 := 0) rfl rfl) rfl rfl hl.1 rfl (lv_room (Nat.le_of_ble_eq_true rfl)) dL_law_802 ⟨by dsimp only [room_1]; omega, by dsimp only [room_1]; omega⟩) hP hS (fun r u H locs hw hP hS => ?_)
  rw [hw]
  refine lv_iload hx hb dL_law_805 (lv_at hl 1 rfl) ?_
  refine lv_icmp_eq (tgt := 812) hx hb dL_law_807 (by decide) (fun _ => ?_) (fun h9 => absurd hth h9)
  refine lv_iload hx hb dL_law_812 (lv_at hl 1 rfl) ?_
  refine lv_if_ne (tgt := 829) hx hb dL_law_814 (by decide) (fun hk => ?_) (fun hk => ?_)
  · skip
    refine lv_goto (tgt := 1050) hx hb dL_law_829 (by decide) ?_
    refine W.widen (k := cells + 2) (n := slots + 12) (by omega) (by omega) ?_
    exact kk _ _ _ _ _ _ _ _ _ _ _ _ _ _ _ _ _ _ _ _ _ _ _ _ hr _ _ _ hP hD hS (lv_sub hl [2, 3, 4, 5, 6] rfl)
  · skip
    refine lv_aload_n hx hb dL_law_817 rfl (lv_at hl 5 rfl) ?_
    refine lv_iconst (v := 0) hx hb dL_law_818 (by decide) ?_
    refine va_lald (D := D) hx hb hK hP 7 1 rfl rfl (show vp_in (0 : Int32) 1 from vp_in_nI (n := 0) (by omega) (by omega)) dL_law_819 ?_
    refine lv_iload hx hb dL_law_820 (lv_at hl 0 rfl) ?_
    refine lv_i2l hx hb dL_law_822 rfl ?_
    refine W.lcmp hx hb dL_law_823 ?_
    refine lv_if_eq (tgt := 829) hx hb dL_law_824 (by decide) (fun _ => ?_) (fun h9 => absurd ((lg_cmp_eq _ _).mpr (hou hk)) h9)
    refine lv_goto (tgt := 1050) hx hb dL_law_829 (by decide) ?_
    refine W.widen (k := cells + 2) (n := slots + 12) (by omega) (by omega) ?_
    exact kk _ _ _ _ _ _ _ _ _ _ _ _ _ _ _ _ _ _ _ _ _ _ _ _ hr _ _ _ hP hD hS (lv_sub hl [2, 3, 4, 5, 6] rfl)
set_option maxHeartbeats 4000000 in
set_option maxRecDepth 100000 in
/-- fillings -/
theorem law_11 {p : Program} {l : Launch} {e : Env} {s : State} {m : MethodId} {below : List Frame} {meth : Method} {c : Code} {b0 L : Nat} {xs : Nat → Int32} {D : va_G} {cI cJ : ClassId} {Q : State → Prop} {N : Nat} (hN6 : 600 ≤ N) (C0 : LA p l s m meth c b0 L xs D cI cJ) (a b : Nat → Nat) {i : Nat} (hi : i + 4 ≤ L) (hL : L ≤ 2048)
    {st ho ke ms mu mb me mf mk : RowI} {hc tr fo fr co ro th w h mt mv ml : Int32} {ou su : RowJ} {cA cD : CS} {jA jD : JT} (hr : Rel ke tr fo fr st co ro cA cD su w h ms mu mb me mf)
    {H : Heap} {locs : List Loc} {ls : Array Slot} {cells slots : Nat} (hcl : cells + 2 ≤ 601024) (hsl : slots + 12 ≤ 7293034) (hP : va_P D vwCl (lawW a b cI cJ th w h ms mu mb me mf mt mv ml mk ou ho ke hc tr fo fr st co ro cA cD su jA jD) H) (hD : va_D (fun q : Nat => s.heap.size ≤ q) (lawW a b cI cJ th w h ms mu mb me mf mt mv ml mk ou ho ke hc tr fo fr st co ro cA cD su jA jD)) (hS : va_S (fun q : Nat => s.heap.size ≤ q) s.heap H locs) (hl : lv_has ls 9 (lv5 a b b0 i))
    (kk : KK p l e s m below meth c b0 D cI cJ Q a b i su me mf (cells + 2) (slots + 12)) : W p l e room_1 s m #[Value.ref b0] below meth c H locs cells slots Q (F0 m 832 ls []) := by
  obtain ⟨hx, hb, hr9, hml, hown, hts, hX, hbl, hlocks, hlt, hN, hTX, hK⟩ := C0
  have hA : ∀ q : Nat, s.heap.size ≤ q → (fun q : Nat => s.heap.size ≤ q) q := fun _ h => h
  have hbA : ¬ (fun q : Nat => s.heap.size ≤ q) b0 := Nat.not_le.mpr hbl
  replace hP : va_P D vwCl (mw b cI th w h ms mu mb me mf mt mv ml mk ++ ow a cI cJ ou ho ke hc tr fo fr st co ro cA cD su jA jD) H := hP
  replace hD : va_D (fun q : Nat => s.heap.size ≤ q) (mw b cI th w h ms mu mb me mf mt mv ml mk ++ ow a cI cJ ou ho ke hc tr fo fr st co ro cA cD su jA jD) := hD
  replace hl : lv_has ls 9 [(0, .ref b0), (1, .ref (a 15)), (2, .ref (b 0)), (3, .ref (a 16)), (4, .int (nI i))] := hl
  obtain ⟨o1, o2, hC1, hC2, heq, hR⟩ := t_fillings hN6 hr ho hc th mt mv ml mk
  refine lv_aload_n hx hb dL_law_832 rfl (lv_at hl 1 rfl) ?_
  refine cW_i [8, 9, 10, 11, 12, 13, 14, 15, 16, 17, 18, 19, 20, 21, 22, 23] [0, 1, 2, 3, 4, 5, 6, 7] (va_runV (As := []) (rest := []) ⟨hx, hb, hml, hown, hts⟩ (kX4_fillings (l := l) (D := D) (cI := cI) (cJ := cJ) N a (ho := ho) (ke := ke) (hc := hc) (tr := tr) (fo := fo) (fr := fr) (st := st) (co := co) (ro := ro) (cA := cA) (cD := cD) (su := su) (jA := jA) (jD := jD) hC1 H.size) (cwV 0 hts gL_law_X4_fillings rfl rfl rfl (by decide +kernel) ⟨Nat.le_of_ble_eq_true rfl, Nat.le_of_ble_eq_true rfl⟩) (preV [] hN hK (hP.sub (ws' := (xw a cI cJ ho ke hc tr fo fr st co ro cA cD su jA jD)) [8, 9, 10, 11, 12, 13, 14, 15, 16, 17, 18, 19, 20, 21, 22, 23] rfl) (hD.sub (ws' := (xw a cI cJ ho ke hc tr fo fr st co ro cA cD su jA jD)) [8, 9, 10, 11, 12, 13, 14, 15, 16, 17, 18, 19, 20, 21, 22, 23] (by decide) rfl) (ci := 4) (q0 := 3) rfl rfl) rfl rfl hl.1 rfl (lv_room (Nat.le_of_ble_eq_true rfl)) dL_law_833 ⟨by dsimp only [room_1]; omega, by dsimp only [room_1]; omega⟩) hP hD hS hA rfl (wr := ((mw b cI th w h ms mu mb me mf mt mv ml mk) ++ [(a 16, .inl (cJ, 1, .inr (.inl ou)))])) rfl (by decide) (by decide) (fun r u H locs hw hP hD hS => ?_)
  obtain ⟨uA9, uD9⟩ := u
  rw [hw]
  replace hP : va_P D vwCl (mw b cI th w h ms mu mb me mf mt mv ml mk ++ ow a cI cJ ou o1.2.1 o1.2.2.1 o1.2.2.2.1 o1.2.2.2.2.1 o1.2.2.2.2.2.1 o1.2.2.2.2.2.2.1 o1.2.2.2.2.2.2.2 co ro cA cD su uA9 uD9) H := hP
  replace hD : va_D (fun q : Nat => s.heap.size ≤ q) (mw b cI th w h ms mu mb me mf mt mv ml mk ++ ow a cI cJ ou o1.2.1 o1.2.2.1 o1.2.2.2.1 o1.2.2.2.2.1 o1.2.2.2.2.2.1 o1.2.2.2.2.2.2.1 o1.2.2.2.2.2.2.2 co ro cA cD su uA9 uD9) := hD
  refine lv_aload_n hx hb dL_law_836 rfl (lv_at hl 2 rfl) ?_
  refine cW_i [0, 1, 2, 3, 4, 5, 6] [7, 8, 9, 10, 11, 12, 13, 14, 15, 16, 17, 18, 19, 20, 21, 22, 23] (va_runV (As := []) (rest := [.int o1.1]) ⟨hx, hb, hml, hown, hts⟩ (kX5_fillings (l := l) (D := D) (cI := cI) (cJ := cJ) N b (th := th) (w := w) (h := h) (ms := ms) (mu := mu) (mb := mb) (me := me) (mf := mf) (mt := mt) (mv := mv) (ml := ml) (mk := mk) hC2 H.size) (cwV 0 hts gL_law_X5_fillings rfl rfl rfl (by decide +kernel) ⟨Nat.le_of_ble_eq_true rfl, Nat.le_of_ble_eq_true rfl⟩) (preV [] hN hK (hP.sub (ws' := (mw b cI th w h ms mu mb me mf mt mv ml mk)) [0, 1, 2, 3, 4, 5, 6] rfl) (hD.sub (ws' := (mw b cI th w h ms mu mb me mf mt mv ml mk)) [0, 1, 2, 3, 4, 5, 6] (by decide) rfl) (ci := 5) (q0 := 0) rfl rfl) rfl rfl hl.1 rfl (lv_room (Nat.le_of_ble_eq_true rfl)) dL_law_837 ⟨by dsimp only [room_1]; omega, by dsimp only [room_1]; omega⟩) hP hD hS hA rfl (wr := (ow a cI cJ ou o1.2.1 o1.2.2.1 o1.2.2.2.1 o1.2.2.2.2.1 o1.2.2.2.2.2.1 o1.2.2.2.2.2.2.1 o1.2.2.2.2.2.2.2 co ro cA cD su uA9 uD9)) rfl (by decide) (by decide) (fun r u H locs hw hP hD hS => ?_)
  rw [hw]
  replace hP := hP.sub (ws' := mw b cI o2.2.1 w h o2.2.2.1 mu mb me mf o2.2.2.2.1 o2.2.2.2.2.1 o2.2.2.2.2.2.1 o2.2.2.2.2.2.2 ++ ow a cI cJ ou o1.2.1 o1.2.2.1 o1.2.2.2.1 o1.2.2.2.2.1 o1.2.2.2.2.2.1 o1.2.2.2.2.2.2.1 o1.2.2.2.2.2.2.2 co ro cA cD su uA9 uD9) [17, 18, 19, 20, 21, 22, 23, 0, 1, 2, 3, 4, 5, 6, 7, 8, 9, 10, 11, 12, 13, 14, 15, 16] rfl
  replace hD := hD.sub (ws' := mw b cI o2.2.1 w h o2.2.2.1 mu mb me mf o2.2.2.2.1 o2.2.2.2.2.1 o2.2.2.2.2.2.1 o2.2.2.2.2.2.2 ++ ow a cI cJ ou o1.2.1 o1.2.2.1 o1.2.2.2.1 o1.2.2.2.2.1 o1.2.2.2.2.2.1 o1.2.2.2.2.2.2.1 o1.2.2.2.2.2.2.2 co ro cA cD su uA9 uD9) [17, 18, 19, 20, 21, 22, 23, 0, 1, 2, 3, 4, 5, 6, 7, 8, 9, 10, 11, 12, 13, 14, 15, 16] (by decide) rfl
  refine lv_icmp_eq (tgt := 1050) hx hb dL_law_840 (by decide) (fun _ => ?_) (fun h9 => absurd heq h9)
  refine W.widen (k := cells + 2) (n := slots + 12) (by omega) (by omega) ?_
  exact kk _ _ _ _ _ _ _ _ _ _ _ _ _ _ _ _ _ _ _ _ _ _ _ _ hR _ _ _ hP hD hS (lv_sub hl [0, 1, 2, 3, 4] rfl)
set_option maxHeartbeats 4000000 in
set_option maxRecDepth 100000 in
/-- tries -/
theorem law_12 {p : Program} {l : Launch} {e : Env} {s : State} {m : MethodId} {below : List Frame} {meth : Method} {c : Code} {b0 L : Nat} {xs : Nat → Int32} {D : va_G} {cI cJ : ClassId} {Q : State → Prop} {N : Nat} (hN6 : 600 ≤ N) (C0 : LA p l s m meth c b0 L xs D cI cJ) (a b : Nat → Nat) {i : Nat} (hi : i + 4 ≤ L) (hL : L ≤ 2048)
    {st ho ke ms mu mb me mf mk : RowI} {hc tr fo fr co ro th w h mt mv ml : Int32} {ou su : RowJ} {cA cD : CS} {jA jD : JT} (hr : Rel ke tr fo fr st co ro cA cD su w h ms mu mb me mf)
    {H : Heap} {locs : List Loc} {ls : Array Slot} {cells slots : Nat} (hcl : cells + 2 ≤ 601024) (hsl : slots + 12 ≤ 7293034) (hP : va_P D vwCl (lawW a b cI cJ th w h ms mu mb me mf mt mv ml mk ou ho ke hc tr fo fr st co ro cA cD su jA jD) H) (hD : va_D (fun q : Nat => s.heap.size ≤ q) (lawW a b cI cJ th w h ms mu mb me mf mt mv ml mk ou ho ke hc tr fo fr st co ro cA cD su jA jD)) (hS : va_S (fun q : Nat => s.heap.size ≤ q) s.heap H locs) (hl : lv_has ls 9 (lv5 a b b0 i))
    (kk : KK p l e s m below meth c b0 D cI cJ Q a b i su me mf (cells + 2) (slots + 12)) : W p l e room_1 s m #[Value.ref b0] below meth c H locs cells slots Q (F0 m 845 ls []) := by
  obtain ⟨hx, hb, hr9, hml, hown, hts, hX, hbl, hlocks, hlt, hN, hTX, hK⟩ := C0
  have hA : ∀ q : Nat, s.heap.size ≤ q → (fun q : Nat => s.heap.size ≤ q) q := fun _ h => h
  have hbA : ¬ (fun q : Nat => s.heap.size ≤ q) b0 := Nat.not_le.mpr hbl
  replace hP : va_P D vwCl (mw b cI th w h ms mu mb me mf mt mv ml mk ++ ow a cI cJ ou ho ke hc tr fo fr st co ro cA cD su jA jD) H := hP
  replace hD : va_D (fun q : Nat => s.heap.size ≤ q) (mw b cI th w h ms mu mb me mf mt mv ml mk ++ ow a cI cJ ou ho ke hc tr fo fr st co ro cA cD su jA jD) := hD
  replace hl : lv_has ls 9 [(0, .ref b0), (1, .ref (a 15)), (2, .ref (b 0)), (3, .ref (a 16)), (4, .int (nI i))] := hl
  obtain ⟨o1, o2, hC1, hC2, heq, hR⟩ := t_tries hN6 hr ho hc th mt mv ml mk
  refine lv_aload_n hx hb dL_law_845 rfl (lv_at hl 1 rfl) ?_
  refine cW_i [8, 9, 10, 11, 12, 13, 14, 15, 16, 17, 18, 19, 20, 21, 22, 23] [0, 1, 2, 3, 4, 5, 6, 7] (va_runV (As := []) (rest := []) ⟨hx, hb, hml, hown, hts⟩ (kX4_tries (l := l) (D := D) (cI := cI) (cJ := cJ) N a (ho := ho) (ke := ke) (hc := hc) (tr := tr) (fo := fo) (fr := fr) (st := st) (co := co) (ro := ro) (cA := cA) (cD := cD) (su := su) (jA := jA) (jD := jD) hC1 H.size) (cwV 0 hts gL_law_X4_tries rfl rfl rfl (by decide +kernel) ⟨Nat.le_of_ble_eq_true rfl, Nat.le_of_ble_eq_true rfl⟩) (preV [] hN hK (hP.sub (ws' := (xw a cI cJ ho ke hc tr fo fr st co ro cA cD su jA jD)) [8, 9, 10, 11, 12, 13, 14, 15, 16, 17, 18, 19, 20, 21, 22, 23] rfl) (hD.sub (ws' := (xw a cI cJ ho ke hc tr fo fr st co ro cA cD su jA jD)) [8, 9, 10, 11, 12, 13, 14, 15, 16, 17, 18, 19, 20, 21, 22, 23] (by decide) rfl) (ci := 4) (q0 := 3) rfl rfl) rfl rfl hl.1 rfl (lv_room (Nat.le_of_ble_eq_true rfl)) dL_law_846 ⟨by dsimp only [room_1]; omega, by dsimp only [room_1]; omega⟩) hP hD hS hA rfl (wr := ((mw b cI th w h ms mu mb me mf mt mv ml mk) ++ [(a 16, .inl (cJ, 1, .inr (.inl ou)))])) rfl (by decide) (by decide) (fun r u H locs hw hP hD hS => ?_)
  obtain ⟨uA9, uD9⟩ := u
  rw [hw]
  replace hP : va_P D vwCl (mw b cI th w h ms mu mb me mf mt mv ml mk ++ ow a cI cJ ou o1.2.1 o1.2.2.1 o1.2.2.2.1 o1.2.2.2.2.1 o1.2.2.2.2.2.1 o1.2.2.2.2.2.2.1 o1.2.2.2.2.2.2.2 co ro cA cD su uA9 uD9) H := hP
  replace hD : va_D (fun q : Nat => s.heap.size ≤ q) (mw b cI th w h ms mu mb me mf mt mv ml mk ++ ow a cI cJ ou o1.2.1 o1.2.2.1 o1.2.2.2.1 o1.2.2.2.2.1 o1.2.2.2.2.2.1 o1.2.2.2.2.2.2.1 o1.2.2.2.2.2.2.2 co ro cA cD su uA9 uD9) := hD
  refine lv_aload_n hx hb dL_law_849 rfl (lv_at hl 2 rfl) ?_
  refine cW_i [0, 1, 2, 3, 4, 5, 6] [7, 8, 9, 10, 11, 12, 13, 14, 15, 16, 17, 18, 19, 20, 21, 22, 23] (va_runV (As := []) (rest := [.int o1.1]) ⟨hx, hb, hml, hown, hts⟩ (kX5_tries (l := l) (D := D) (cI := cI) (cJ := cJ) N b (th := th) (w := w) (h := h) (ms := ms) (mu := mu) (mb := mb) (me := me) (mf := mf) (mt := mt) (mv := mv) (ml := ml) (mk := mk) hC2 H.size) (cwV 0 hts gL_law_X5_tries rfl rfl rfl (by decide +kernel) ⟨Nat.le_of_ble_eq_true rfl, Nat.le_of_ble_eq_true rfl⟩) (preV [] hN hK (hP.sub (ws' := (mw b cI th w h ms mu mb me mf mt mv ml mk)) [0, 1, 2, 3, 4, 5, 6] rfl) (hD.sub (ws' := (mw b cI th w h ms mu mb me mf mt mv ml mk)) [0, 1, 2, 3, 4, 5, 6] (by decide) rfl) (ci := 5) (q0 := 0) rfl rfl) rfl rfl hl.1 rfl (lv_room (Nat.le_of_ble_eq_true rfl)) dL_law_850 ⟨by dsimp only [room_1]; omega, by dsimp only [room_1]; omega⟩) hP hD hS hA rfl (wr := (ow a cI cJ ou o1.2.1 o1.2.2.1 o1.2.2.2.1 o1.2.2.2.2.1 o1.2.2.2.2.2.1 o1.2.2.2.2.2.2.1 o1.2.2.2.2.2.2.2 co ro cA cD su uA9 uD9)) rfl (by decide) (by decide) (fun r u H locs hw hP hD hS => ?_)
  rw [hw]
  replace hP := hP.sub (ws' := mw b cI o2.2.1 w h o2.2.2.1 mu mb me mf o2.2.2.2.1 o2.2.2.2.2.1 o2.2.2.2.2.2.1 o2.2.2.2.2.2.2 ++ ow a cI cJ ou o1.2.1 o1.2.2.1 o1.2.2.2.1 o1.2.2.2.2.1 o1.2.2.2.2.2.1 o1.2.2.2.2.2.2.1 o1.2.2.2.2.2.2.2 co ro cA cD su uA9 uD9) [17, 18, 19, 20, 21, 22, 23, 0, 1, 2, 3, 4, 5, 6, 7, 8, 9, 10, 11, 12, 13, 14, 15, 16] rfl
  replace hD := hD.sub (ws' := mw b cI o2.2.1 w h o2.2.2.1 mu mb me mf o2.2.2.2.1 o2.2.2.2.2.1 o2.2.2.2.2.2.1 o2.2.2.2.2.2.2 ++ ow a cI cJ ou o1.2.1 o1.2.2.1 o1.2.2.2.1 o1.2.2.2.2.1 o1.2.2.2.2.2.1 o1.2.2.2.2.2.2.1 o1.2.2.2.2.2.2.2 co ro cA cD su uA9 uD9) [17, 18, 19, 20, 21, 22, 23, 0, 1, 2, 3, 4, 5, 6, 7, 8, 9, 10, 11, 12, 13, 14, 15, 16] (by decide) rfl
  refine lv_icmp_eq (tgt := 1050) hx hb dL_law_853 (by decide) (fun _ => ?_) (fun h9 => absurd heq h9)
  refine W.widen (k := cells + 2) (n := slots + 12) (by omega) (by omega) ?_
  exact kk _ _ _ _ _ _ _ _ _ _ _ _ _ _ _ _ _ _ _ _ _ _ _ _ hR _ _ _ hP hD hS (lv_sub hl [0, 1, 2, 3, 4] rfl)
set_option maxHeartbeats 4000000 in
set_option maxRecDepth 100000 in
/-- solved -/
theorem law_13 {p : Program} {l : Launch} {e : Env} {s : State} {m : MethodId} {below : List Frame} {meth : Method} {c : Code} {b0 L : Nat} {xs : Nat → Int32} {D : va_G} {cI cJ : ClassId} {Q : State → Prop} {N : Nat} (hN6 : 600 ≤ N) (C0 : LA p l s m meth c b0 L xs D cI cJ) (a b : Nat → Nat) {i : Nat} (hi : i + 4 ≤ L) (hL : L ≤ 2048)
    {st ho ke ms mu mb me mf mk : RowI} {hc tr fo fr co ro th w h mt mv ml : Int32} {ou su : RowJ} {cA cD : CS} {jA jD : JT} (hr : Rel ke tr fo fr st co ro cA cD su w h ms mu mb me mf)
    {H : Heap} {locs : List Loc} {ls : Array Slot} {cells slots : Nat} (hcl : cells + 2 ≤ 601024) (hsl : slots + 12 ≤ 7293034) (hP : va_P D vwCl (lawW a b cI cJ th w h ms mu mb me mf mt mv ml mk ou ho ke hc tr fo fr st co ro cA cD su jA jD) H) (hD : va_D (fun q : Nat => s.heap.size ≤ q) (lawW a b cI cJ th w h ms mu mb me mf mt mv ml mk ou ho ke hc tr fo fr st co ro cA cD su jA jD)) (hS : va_S (fun q : Nat => s.heap.size ≤ q) s.heap H locs) (hl : lv_has ls 9 (lv5 a b b0 i))
    (kk : KK p l e s m below meth c b0 D cI cJ Q a b i su me mf (cells + 2) (slots + 12)) : W p l e room_1 s m #[Value.ref b0] below meth c H locs cells slots Q (F0 m 858 ls []) := by
  obtain ⟨hx, hb, hr9, hml, hown, hts, hX, hbl, hlocks, hlt, hN, hTX, hK⟩ := C0
  have hA : ∀ q : Nat, s.heap.size ≤ q → (fun q : Nat => s.heap.size ≤ q) q := fun _ h => h
  have hbA : ¬ (fun q : Nat => s.heap.size ≤ q) b0 := Nat.not_le.mpr hbl
  have hi1 : vp_in (nI i + 1) L := by rw [show (1 : Int32) = nI 1 from rfl, nI_add]; exact vp_in_nI (by omega) (by omega)
  replace hP : va_P D vwCl (mw b cI th w h ms mu mb me mf mt mv ml mk ++ ow a cI cJ ou ho ke hc tr fo fr st co ro cA cD su jA jD) H := hP
  replace hD : va_D (fun q : Nat => s.heap.size ≤ q) (mw b cI th w h ms mu mb me mf mt mv ml mk ++ ow a cI cJ ou ho ke hc tr fo fr st co ro cA cD su jA jD) := hD
  replace hl : lv_has ls 9 [(0, .ref b0), (1, .ref (a 15)), (2, .ref (b 0)), (3, .ref (a 16)), (4, .int (nI i))] := hl
  obtain ⟨o1, o2, hC1, hC2, hth, hou, hR⟩ := t_solved hN6 hr ou ho hc th mt mv ml mk (xs (nI i + 1).toNatClampNeg)
  refine lv_aload_n hx hb dL_law_858 rfl (lv_at hl 1 rfl) ?_
  refine lv_aload_n hx hb dL_law_859 rfl (lv_at hl 0 rfl) ?_
  refine lv_iload hx hb dL_law_860 (lv_at hl 4 rfl) ?_
  refine lv_iconst (v := 1) hx hb dL_law_862 (by decide) ?_
  refine lv_iadd hx hb dL_law_863 ?_
  refine va_sld hx hb hX hbl hbA hS hi1 dL_law_864 ?_
  refine lv_aload_n hx hb dL_law_865 rfl (lv_at hl 3 rfl) ?_
  have hF := va_free (wc := (ow a cI cJ ou ho ke hc tr fo fr st co ro cA cD su jA jD)) hD hS hA [7, 8, 9, 10, 11, 12, 13, 14, 15, 16, 17, 18, 19, 20, 21, 22, 23] rfl
  refine cW_i [7, 8, 9, 10, 11, 12, 13, 14, 15, 16, 17, 18, 19, 20, 21, 22, 23] [0, 1, 2, 3, 4, 5, 6] (vx_runSW (As := [.ref (a 15), .int (xs (nI i + 1).toNatClampNeg), .ref (a 16)]) (rest := []) ⟨hx, hb, hml, hown, hts⟩ (kL_solved (l := l) (D := D) (cI := cI) (cJ := cJ) hlt N a (ou := ou) (ho := ho) (ke := ke) (hc := hc) (tr := tr) (fo := fo) (fr := fr) (st := st) (co := co) (ro := ro) (cA := cA) (cD := cD) (su := su) (jA := jA) (jD := jD) hC1 H.size) (vx_cwSW 3 hts gL_law_L_solved rfl rfl rfl (by decide +kernel) ⟨Nat.le_of_ble_eq_true rfl, Nat.le_of_ble_eq_true rfl⟩) (preST [.ref (a 15), .int (xs (nI i + 1).toNatClampNeg), .ref (a 16)] hTX hS (fun q h => hF q h) hN hK (hP.sub (ws' := (ow a cI cJ ou ho ke hc tr fo fr st co ro cA cD su jA jD)) [7, 8, 9, 10, 11, 12, 13, 14, 15, 16, 17, 18, 19, 20, 21, 22, 23] rfl) (hD.sub (ws' := (ow a cI cJ ou ho ke hc tr fo fr st co ro cA cD su jA jD)) [7, 8, 9, 10, 11, 12, 13, 14, 15, 16, 17, 18, 19, 20, 21, 22, 23] (by decide) rfl)) rfl rfl hl.1 rfl (lv_room (Nat.le_of_ble_eq_true rfl)) dL_law_866 ⟨by dsimp only [room_1]; omega, by dsimp only [room_1]; omega⟩) hP hD hS hA rfl (wr := (mw b cI th w h ms mu mb me mf mt mv ml mk)) rfl (by decide) (by decide) (fun r u H locs hw hP hD hS => ?_)
  obtain ⟨u1, hu1⟩ : ∃ z, z = u := ⟨_, rfl⟩
  rw [hw]
  replace hP : va_P D vwCl (mw b cI th w h ms mu mb me mf mt mv ml mk ++ ow a cI cJ o1.2.1 o1.2.2.1 o1.2.2.2.1 o1.2.2.2.2.1 o1.2.2.2.2.2.1 o1.2.2.2.2.2.2.1 o1.2.2.2.2.2.2.2.1 o1.2.2.2.2.2.2.2.2 co ro cA cD su u.1 u.2) H := hP
  replace hD : va_D (fun q : Nat => s.heap.size ≤ q) (mw b cI th w h ms mu mb me mf mt mv ml mk ++ ow a cI cJ o1.2.1 o1.2.2.1 o1.2.2.2.1 o1.2.2.2.2.1 o1.2.2.2.2.2.1 o1.2.2.2.2.2.2.1 o1.2.2.2.2.2.2.2.1 o1.2.2.2.2.2.2.2.2 co ro cA cD su u.1 u.2) := hD
  obtain ⟨uA9, uD9⟩ := u
  replace hP : va_P D vwCl (mw b cI th w h ms mu mb me mf mt mv ml mk ++ ow a cI cJ o1.2.1 o1.2.2.1 o1.2.2.2.1 o1.2.2.2.2.1 o1.2.2.2.2.2.1 o1.2.2.2.2.2.2.1 o1.2.2.2.2.2.2.2.1 o1.2.2.2.2.2.2.2.2 co ro cA cD su uA9 uD9) H := hP
  replace hD : va_D (fun q : Nat => s.heap.size ≤ q) (mw b cI th w h ms mu mb me mf mt mv ml mk ++ ow a cI cJ o1.2.1 o1.2.2.1 o1.2.2.2.1 o1.2.2.2.2.1 o1.2.2.2.2.2.1 o1.2.2.2.2.2.2.1 o1.2.2.2.2.2.2.2.1 o1.2.2.2.2.2.2.2.2 co ro cA cD su uA9 uD9) := hD
  refine lv_istore (lv' := [(5, .int o1.1), (0, .ref b0), (1, .ref (a 15)), (2, .ref (b 0)), (3, .ref (a 16)), (4, .int (nI i))]) hx hb dL_law_869 hl (by decide) rfl (fun ls hl => ?_)
  refine lv_aload_n hx hb dL_law_871 rfl (lv_at hl 3 rfl) ?_
  refine lv_aload_n hx hb dL_law_872 rfl (lv_at hl 1 rfl) ?_
  refine lv_iload hx hb dL_law_873 (lv_at hl 5 rfl) ?_
  refine lv_iconst (v := 1) hx hb dL_law_875 (by decide) ?_
  refine lv_iadd hx hb dL_law_876 ?_
  refine va_sld hx hb hX hbl hbA hS hi1 dL_law_877 ?_
  refine cW_i [0, 1, 2, 3, 4, 5, 6] [7, 8, 9, 10, 11, 12, 13, 14, 15, 16, 17, 18, 19, 20, 21, 22, 23] (va_runV (As := [.int (xs (nI i + 1).toNatClampNeg)]) (rest := []) ⟨hx, hb, hml, hown, hts⟩ (kX5_solved (l := l) (D := D) (cI := cI) (cJ := cJ) N b (th := th) (w := w) (h := h) (ms := ms) (mu := mu) (mb := mb) (me := me) (mf := mf) (mt := mt) (mv := mv) (ml := ml) (mk := mk) hC2 H.size) (cwV 1 hts gL_law_X5_solved rfl rfl rfl (by decide +kernel) ⟨Nat.le_of_ble_eq_true rfl, Nat.le_of_ble_eq_true rfl⟩) (preV [.int (xs (nI i + 1).toNatClampNeg)] hN hK (hP.sub (ws' := (mw b cI th w h ms mu mb me mf mt mv ml mk)) [0, 1, 2, 3, 4, 5, 6] rfl) (hD.sub (ws' := (mw b cI th w h ms mu mb me mf mt mv ml mk)) [0, 1, 2, 3, 4, 5, 6] (by decide) rfl) (ci := 5) (q0 := 0) rfl rfl) rfl rfl hl.1 rfl (lv_room (Nat.le_of_ble_eq_true rfl)) dL_law_878 ⟨by dsimp only [room_1]; omega, by dsimp only [room_1]; omega⟩) hP hD hS hA rfl (wr := (ow a cI cJ o1.2.1 o1.2.2.1 o1.2.2.2.1 o1.2.2.2.2.1 o1.2.2.2.2.2.1 o1.2.2.2.2.2.2.1 o1.2.2.2.2.2.2.2.1 o1.2.2.2.2.2.2.2.2 co ro cA cD su uA9 uD9)) rfl (by decide) (by decide) (fun r u H locs hw hP hD hS => ?_)
  rw [hw]
  replace hP := hP.sub (ws' := mw b cI o2.2.1 w h o2.2.2.1 mu mb me mf o2.2.2.2.1 o2.2.2.2.2.1 o2.2.2.2.2.2.1 o2.2.2.2.2.2.2 ++ ow a cI cJ o1.2.1 o1.2.2.1 o1.2.2.2.1 o1.2.2.2.2.1 o1.2.2.2.2.2.1 o1.2.2.2.2.2.2.1 o1.2.2.2.2.2.2.2.1 o1.2.2.2.2.2.2.2.2 co ro cA cD su uA9 uD9) [17, 18, 19, 20, 21, 22, 23, 0, 1, 2, 3, 4, 5, 6, 7, 8, 9, 10, 11, 12, 13, 14, 15, 16] rfl
  replace hD := hD.sub (ws' := mw b cI o2.2.1 w h o2.2.2.1 mu mb me mf o2.2.2.2.1 o2.2.2.2.2.1 o2.2.2.2.2.2.1 o2.2.2.2.2.2.2 ++ ow a cI cJ o1.2.1 o1.2.2.1 o1.2.2.2.1 o1.2.2.2.2.1 o1.2.2.2.2.2.1 o1.2.2.2.2.2.2.1 o1.2.2.2.2.2.2.2.1 o1.2.2.2.2.2.2.2.2 co ro cA cD su uA9 uD9) [17, 18, 19, 20, 21, 22, 23, 0, 1, 2, 3, 4, 5, 6, 7, 8, 9, 10, 11, 12, 13, 14, 15, 16] (by decide) rfl
  refine lv_istore (lv' := [(6, .int o2.1), (5, .int o1.1), (0, .ref b0), (1, .ref (a 15)), (2, .ref (b 0)), (3, .ref (a 16)), (4, .int (nI i))]) hx hb dL_law_881 hl (by decide) rfl (fun ls hl => ?_)
  refine lv_aload_n hx hb dL_law_883 rfl (lv_at hl 4 rfl) ?_
  refine cR_i (va_runV (As := []) (rest := []) ⟨hx, hb, hml, hown, hts⟩ (kX5_thrown (l := l) (D := D) (cI := cI) (cJ := cJ) N b (th := o2.2.1) (w := w) (h := h) (ms := o2.2.2.1) (mu := mu) (mb := mb) (me := me) (mf := mf) (mt := o2.2.2.2.1) (mv := o2.2.2.2.2.1) (ml := o2.2.2.2.2.2.1) (mk := o2.2.2.2.2.2.2) (o := o2.2.1) rfl H.size) (cwV 0 hts gL_law_X5_thrown rfl rfl rfl (by decide +kernel) ⟨Nat.le_of_ble_eq_true rfl, Nat.le_of_ble_eq_true rfl⟩) (preV [] hN hK (hP.sub (ws' := (mw b cI o2.2.1 w h o2.2.2.1 mu mb me mf o2.2.2.2.1 o2.2.2.2.2.1 o2.2.2.2.2.2.1 o2.2.2.2.2.2.2)) [0, 1, 2, 3, 4, 5, 6] rfl) (hD.sub (ws' := (mw b cI o2.2.1 w h o2.2.2.1 mu mb me mf o2.2.2.2.1 o2.2.2.2.2.1 o2.2.2.2.2.2.1 o2.2.2.2.2.2.2)) [0, 1, 2, 3, 4, 5, 6] (by decide) rfl) (ci := 5) (q0 := 0) rfl rfl) rfl rfl hl.1 rfl (lv_room (Nat.le_of_ble_eq_true rfl)) dL_law_884 ⟨by dsimp only [room_1]; omega, by dsimp only [room_1]; omega⟩) hP hS (fun r u H locs hw hP hS => ?_)
  rw [hw]
  refine lv_iload hx hb dL_law_887 (lv_at hl 1 rfl) ?_
  refine lv_icmp_eq (tgt := 894) hx hb dL_law_889 (by decide) (fun _ => ?_) (fun h9 => absurd hth h9)
  refine lv_iload hx hb dL_law_894 (lv_at hl 1 rfl) ?_
  refine lv_if_ne (tgt := 911) hx hb dL_law_896 (by decide) (fun hk => ?_) (fun hk => ?_)
  · skip
    refine lv_goto (tgt := 1050) hx hb dL_law_911 (by decide) ?_
    refine W.widen (k := cells + 2) (n := slots + 12) (by omega) (by omega) ?_
    exact kk _ _ _ _ _ _ _ _ _ _ _ _ _ _ _ _ _ _ _ _ _ _ _ _ hR _ _ _ hP hD hS (lv_sub hl [2, 3, 4, 5, 6] rfl)
  · skip
    refine lv_aload_n hx hb dL_law_899 rfl (lv_at hl 5 rfl) ?_
    refine lv_iconst (v := 0) hx hb dL_law_900 (by decide) ?_
    refine va_lald (D := D) hx hb hK hP 7 1 rfl rfl (show vp_in (0 : Int32) 1 from vp_in_nI (n := 0) (by omega) (by omega)) dL_law_901 ?_
    refine lv_iload hx hb dL_law_902 (lv_at hl 0 rfl) ?_
    refine lv_i2l hx hb dL_law_904 rfl ?_
    refine W.lcmp hx hb dL_law_905 ?_
    refine lv_if_eq (tgt := 911) hx hb dL_law_906 (by decide) (fun _ => ?_) (fun h9 => absurd ((lg_cmp_eq _ _).mpr (hou hk)) h9)
    refine lv_goto (tgt := 1050) hx hb dL_law_911 (by decide) ?_
    refine W.widen (k := cells + 2) (n := slots + 12) (by omega) (by omega) ?_
    exact kk _ _ _ _ _ _ _ _ _ _ _ _ _ _ _ _ _ _ _ _ _ _ _ _ hR _ _ _ hP hD hS (lv_sub hl [2, 3, 4, 5, 6] rfl)
set_option maxHeartbeats 4000000 in
set_option maxRecDepth 100000 in
/-- next -/
theorem law_14 {p : Program} {l : Launch} {e : Env} {s : State} {m : MethodId} {below : List Frame} {meth : Method} {c : Code} {b0 L : Nat} {xs : Nat → Int32} {D : va_G} {cI cJ : ClassId} {Q : State → Prop} {N : Nat} (hN6 : 600 ≤ N) (C0 : LA p l s m meth c b0 L xs D cI cJ) (a b : Nat → Nat) {i : Nat} (hi : i + 4 ≤ L) (hL : L ≤ 2048)
    {st ho ke ms mu mb me mf mk : RowI} {hc tr fo fr co ro th w h mt mv ml : Int32} {ou su : RowJ} {cA cD : CS} {jA jD : JT} (hr : Rel ke tr fo fr st co ro cA cD su w h ms mu mb me mf)
    {H : Heap} {locs : List Loc} {ls : Array Slot} {cells slots : Nat} (hcl : cells + 2 ≤ 601024) (hsl : slots + 12 ≤ 7293034) (hP : va_P D vwCl (lawW a b cI cJ th w h ms mu mb me mf mt mv ml mk ou ho ke hc tr fo fr st co ro cA cD su jA jD) H) (hD : va_D (fun q : Nat => s.heap.size ≤ q) (lawW a b cI cJ th w h ms mu mb me mf mt mv ml mk ou ho ke hc tr fo fr st co ro cA cD su jA jD)) (hS : va_S (fun q : Nat => s.heap.size ≤ q) s.heap H locs) (hl : lv_has ls 9 (lv5 a b b0 i))
    (kk : KK p l e s m below meth c b0 D cI cJ Q a b i su me mf (cells + 2) (slots + 12)) : W p l e room_1 s m #[Value.ref b0] below meth c H locs cells slots Q (F0 m 914 ls []) := by
  obtain ⟨hx, hb, hr9, hml, hown, hts, hX, hbl, hlocks, hlt, hN, hTX, hK⟩ := C0
  have hA : ∀ q : Nat, s.heap.size ≤ q → (fun q : Nat => s.heap.size ≤ q) q := fun _ h => h
  have hbA : ¬ (fun q : Nat => s.heap.size ≤ q) b0 := Nat.not_le.mpr hbl
  replace hP : va_P D vwCl (mw b cI th w h ms mu mb me mf mt mv ml mk ++ ow a cI cJ ou ho ke hc tr fo fr st co ro cA cD su jA jD) H := hP
  replace hD : va_D (fun q : Nat => s.heap.size ≤ q) (mw b cI th w h ms mu mb me mf mt mv ml mk ++ ow a cI cJ ou ho ke hc tr fo fr st co ro cA cD su jA jD) := hD
  replace hl : lv_has ls 9 [(0, .ref b0), (1, .ref (a 15)), (2, .ref (b 0)), (3, .ref (a 16)), (4, .int (nI i))] := hl
  obtain ⟨o1, o2, hC1, hC2, heq, hR⟩ := t_next hN6 hr th
  refine lv_aload_n hx hb dL_law_914 rfl (lv_at hl 1 rfl) ?_
  refine cW_i [8, 9, 10, 11, 12, 13, 14, 15, 16, 17, 18, 19, 20, 21, 22, 23] [0, 1, 2, 3, 4, 5, 6, 7] (va_runV (As := []) (rest := []) ⟨hx, hb, hml, hown, hts⟩ (kX4_next (l := l) (D := D) (cI := cI) (cJ := cJ) N a (ho := ho) (ke := ke) (hc := hc) (tr := tr) (fo := fo) (fr := fr) (st := st) (co := co) (ro := ro) (cA := cA) (cD := cD) (su := su) (jA := jA) (jD := jD) hC1 H.size) (cwV 0 hts gL_law_X4_next rfl rfl rfl (by decide +kernel) ⟨Nat.le_of_ble_eq_true rfl, Nat.le_of_ble_eq_true rfl⟩) (preV [] hN hK (hP.sub (ws' := (xw a cI cJ ho ke hc tr fo fr st co ro cA cD su jA jD)) [8, 9, 10, 11, 12, 13, 14, 15, 16, 17, 18, 19, 20, 21, 22, 23] rfl) (hD.sub (ws' := (xw a cI cJ ho ke hc tr fo fr st co ro cA cD su jA jD)) [8, 9, 10, 11, 12, 13, 14, 15, 16, 17, 18, 19, 20, 21, 22, 23] (by decide) rfl) (ci := 4) (q0 := 3) rfl rfl) rfl rfl hl.1 rfl (lv_room (Nat.le_of_ble_eq_true rfl)) dL_law_915 ⟨by dsimp only [room_1]; omega, by dsimp only [room_1]; omega⟩) hP hD hS hA rfl (wr := ((mw b cI th w h ms mu mb me mf mt mv ml mk) ++ [(a 16, .inl (cJ, 1, .inr (.inl ou)))])) rfl (by decide) (by decide) (fun r u H locs hw hP hD hS => ?_)
  obtain ⟨uA9, uD9⟩ := u
  rw [hw]
  replace hP : va_P D vwCl (mw b cI th w h ms mu mb me mf mt mv ml mk ++ ow a cI cJ ou ho ke hc tr fo fr st co ro cA cD su uA9 uD9) H := hP
  replace hD : va_D (fun q : Nat => s.heap.size ≤ q) (mw b cI th w h ms mu mb me mf mt mv ml mk ++ ow a cI cJ ou ho ke hc tr fo fr st co ro cA cD su uA9 uD9) := hD
  refine lv_aload_n hx hb dL_law_918 rfl (lv_at hl 2 rfl) ?_
  refine cW_i [0, 1, 2, 3, 4, 5, 6] [7, 8, 9, 10, 11, 12, 13, 14, 15, 16, 17, 18, 19, 20, 21, 22, 23] (va_runV (As := []) (rest := [.int o1]) ⟨hx, hb, hml, hown, hts⟩ (kX5_next (l := l) (D := D) (cI := cI) (cJ := cJ) N b (th := th) (w := w) (h := h) (ms := ms) (mu := mu) (mb := mb) (me := me) (mf := mf) (mt := mt) (mv := mv) (ml := ml) (mk := mk) hC2 H.size) (cwV 0 hts gL_law_X5_next rfl rfl rfl (by decide +kernel) ⟨Nat.le_of_ble_eq_true rfl, Nat.le_of_ble_eq_true rfl⟩) (preV [] hN hK (hP.sub (ws' := (mw b cI th w h ms mu mb me mf mt mv ml mk)) [0, 1, 2, 3, 4, 5, 6] rfl) (hD.sub (ws' := (mw b cI th w h ms mu mb me mf mt mv ml mk)) [0, 1, 2, 3, 4, 5, 6] (by decide) rfl) (ci := 5) (q0 := 0) rfl rfl) rfl rfl hl.1 rfl (lv_room (Nat.le_of_ble_eq_true rfl)) dL_law_919 ⟨by dsimp only [room_1]; omega, by dsimp only [room_1]; omega⟩) hP hD hS hA rfl (wr := (ow a cI cJ ou ho ke hc tr fo fr st co ro cA cD su uA9 uD9)) rfl (by decide) (by decide) (fun r u H locs hw hP hD hS => ?_)
  rw [hw]
  replace hP := hP.sub (ws' := mw b cI o2.2.1 w h o2.2.2 mu mb me mf mt mv ml mk ++ ow a cI cJ ou ho ke hc tr fo fr st co ro cA cD su uA9 uD9) [17, 18, 19, 20, 21, 22, 23, 0, 1, 2, 3, 4, 5, 6, 7, 8, 9, 10, 11, 12, 13, 14, 15, 16] rfl
  replace hD := hD.sub (ws' := mw b cI o2.2.1 w h o2.2.2 mu mb me mf mt mv ml mk ++ ow a cI cJ ou ho ke hc tr fo fr st co ro cA cD su uA9 uD9) [17, 18, 19, 20, 21, 22, 23, 0, 1, 2, 3, 4, 5, 6, 7, 8, 9, 10, 11, 12, 13, 14, 15, 16] (by decide) rfl
  refine lv_icmp_eq (tgt := 1050) hx hb dL_law_922 (by decide) (fun _ => ?_) (fun h9 => absurd heq h9)
  refine W.widen (k := cells + 2) (n := slots + 12) (by omega) (by omega) ?_
  rw [hR] at hP hD
  exact kk _ _ _ _ _ _ _ _ _ _ _ _ _ _ _ _ _ _ _ _ _ _ _ _ hr _ _ _ hP hD hS (lv_sub hl [0, 1, 2, 3, 4] rfl)
set_option maxHeartbeats 4000000 in
set_option maxRecDepth 100000 in
/-- would -/
theorem law_15 {p : Program} {l : Launch} {e : Env} {s : State} {m : MethodId} {below : List Frame} {meth : Method} {c : Code} {b0 L : Nat} {xs : Nat → Int32} {D : va_G} {cI cJ : ClassId} {Q : State → Prop} {N : Nat} (hN6 : 600 ≤ N) (C0 : LA p l s m meth c b0 L xs D cI cJ) (a b : Nat → Nat) {i : Nat} (hi : i + 4 ≤ L) (hL : L ≤ 2048)
    {st ho ke ms mu mb me mf mk : RowI} {hc tr fo fr co ro th w h mt mv ml : Int32} {ou su : RowJ} {cA cD : CS} {jA jD : JT} (hr : Rel ke tr fo fr st co ro cA cD su w h ms mu mb me mf)
    {H : Heap} {locs : List Loc} {ls : Array Slot} {cells slots : Nat} (hcl : cells + 2 ≤ 601024) (hsl : slots + 12 ≤ 7293034) (hP : va_P D vwCl (lawW a b cI cJ th w h ms mu mb me mf mt mv ml mk ou ho ke hc tr fo fr st co ro cA cD su jA jD) H) (hD : va_D (fun q : Nat => s.heap.size ≤ q) (lawW a b cI cJ th w h ms mu mb me mf mt mv ml mk ou ho ke hc tr fo fr st co ro cA cD su jA jD)) (hS : va_S (fun q : Nat => s.heap.size ≤ q) s.heap H locs) (hl : lv_has ls 9 (lv5 a b b0 i))
    (kk : KK p l e s m below meth c b0 D cI cJ Q a b i su me mf (cells + 2) (slots + 12)) : W p l e room_1 s m #[Value.ref b0] below meth c H locs cells slots Q (F0 m 927 ls []) := by
  obtain ⟨hx, hb, hr9, hml, hown, hts, hX, hbl, hlocks, hlt, hN, hTX, hK⟩ := C0
  have hA : ∀ q : Nat, s.heap.size ≤ q → (fun q : Nat => s.heap.size ≤ q) q := fun _ h => h
  have hbA : ¬ (fun q : Nat => s.heap.size ≤ q) b0 := Nat.not_le.mpr hbl
  have hi1 : vp_in (nI i + 1) L := by rw [show (1 : Int32) = nI 1 from rfl, nI_add]; exact vp_in_nI (by omega) (by omega)
  have hi2 : vp_in (nI i + 2) L := by rw [show (2 : Int32) = nI 2 from rfl, nI_add]; exact vp_in_nI (by omega) (by omega)
  replace hP : va_P D vwCl (mw b cI th w h ms mu mb me mf mt mv ml mk ++ ow a cI cJ ou ho ke hc tr fo fr st co ro cA cD su jA jD) H := hP
  replace hD : va_D (fun q : Nat => s.heap.size ≤ q) (mw b cI th w h ms mu mb me mf mt mv ml mk ++ ow a cI cJ ou ho ke hc tr fo fr st co ro cA cD su jA jD) := hD
  replace hl : lv_has ls 9 [(0, .ref b0), (1, .ref (a 15)), (2, .ref (b 0)), (3, .ref (a 16)), (4, .int (nI i))] := hl
  obtain ⟨o1, o2, hC1, hC2, hth, hou, hR⟩ := t_would hN6 hr ou ho hc th mt mv ml mk (xs (nI i + 1).toNatClampNeg) (xs (nI i + 2).toNatClampNeg)
  refine lv_aload_n hx hb dL_law_927 rfl (lv_at hl 1 rfl) ?_
  refine lv_aload_n hx hb dL_law_928 rfl (lv_at hl 0 rfl) ?_
  refine lv_iload hx hb dL_law_929 (lv_at hl 4 rfl) ?_
  refine lv_iconst (v := 1) hx hb dL_law_931 (by decide) ?_
  refine lv_iadd hx hb dL_law_932 ?_
  refine va_sld hx hb hX hbl hbA hS hi1 dL_law_933 ?_
  refine lv_aload_n hx hb dL_law_934 rfl (lv_at hl 0 rfl) ?_
  refine lv_iload hx hb dL_law_935 (lv_at hl 4 rfl) ?_
  refine lv_iconst (v := 2) hx hb dL_law_937 (by decide) ?_
  refine lv_iadd hx hb dL_law_938 ?_
  refine va_sld hx hb hX hbl hbA hS hi2 dL_law_939 ?_
  refine lv_aload_n hx hb dL_law_940 rfl (lv_at hl 3 rfl) ?_
  have hF := va_free (wc := (ow a cI cJ ou ho ke hc tr fo fr st co ro cA cD su jA jD)) hD hS hA [7, 8, 9, 10, 11, 12, 13, 14, 15, 16, 17, 18, 19, 20, 21, 22, 23] rfl
  refine cW_i [7, 8, 9, 10, 11, 12, 13, 14, 15, 16, 17, 18, 19, 20, 21, 22, 23] [0, 1, 2, 3, 4, 5, 6] (vx_runSW (As := [.ref (a 15), .int (xs (nI i + 1).toNatClampNeg), .int (xs (nI i + 2).toNatClampNeg), .ref (a 16)]) (rest := []) ⟨hx, hb, hml, hown, hts⟩ (kL_would (l := l) (D := D) (cI := cI) (cJ := cJ) hlt N a (ou := ou) (ho := ho) (ke := ke) (hc := hc) (tr := tr) (fo := fo) (fr := fr) (st := st) (co := co) (ro := ro) (cA := cA) (cD := cD) (su := su) (jA := jA) (jD := jD) hC1 H.size) (vx_cwSW 4 hts gL_law_L_would rfl rfl rfl (by decide +kernel) ⟨Nat.le_of_ble_eq_true rfl, Nat.le_of_ble_eq_true rfl⟩) (preST [.ref (a 15), .int (xs (nI i + 1).toNatClampNeg), .int (xs (nI i + 2).toNatClampNeg), .ref (a 16)] hTX hS (fun q h => hF q h) hN hK (hP.sub (ws' := (ow a cI cJ ou ho ke hc tr fo fr st co ro cA cD su jA jD)) [7, 8, 9, 10, 11, 12, 13, 14, 15, 16, 17, 18, 19, 20, 21, 22, 23] rfl) (hD.sub (ws' := (ow a cI cJ ou ho ke hc tr fo fr st co ro cA cD su jA jD)) [7, 8, 9, 10, 11, 12, 13, 14, 15, 16, 17, 18, 19, 20, 21, 22, 23] (by decide) rfl)) rfl rfl hl.1 rfl (lv_room (Nat.le_of_ble_eq_true rfl)) dL_law_941 ⟨by dsimp only [room_1]; omega, by dsimp only [room_1]; omega⟩) hP hD hS hA rfl (wr := (mw b cI th w h ms mu mb me mf mt mv ml mk)) rfl (by decide) (by decide) (fun r u H locs hw hP hD hS => ?_)
  obtain ⟨u1, hu1⟩ : ∃ z, z = u := ⟨_, rfl⟩
  rw [hw]
  replace hP : va_P D vwCl (mw b cI th w h ms mu mb me mf mt mv ml mk ++ ow a cI cJ o1.2.1 o1.2.2.1 o1.2.2.2.1 o1.2.2.2.2.1 o1.2.2.2.2.2.1 o1.2.2.2.2.2.2.1 o1.2.2.2.2.2.2.2.1 o1.2.2.2.2.2.2.2.2 co ro cA cD su u.1 u.2) H := hP
  replace hD : va_D (fun q : Nat => s.heap.size ≤ q) (mw b cI th w h ms mu mb me mf mt mv ml mk ++ ow a cI cJ o1.2.1 o1.2.2.1 o1.2.2.2.1 o1.2.2.2.2.1 o1.2.2.2.2.2.1 o1.2.2.2.2.2.2.1 o1.2.2.2.2.2.2.2.1 o1.2.2.2.2.2.2.2.2 co ro cA cD su u.1 u.2) := hD
  obtain ⟨uA9, uD9⟩ := u
  replace hP : va_P D vwCl (mw b cI th w h ms mu mb me mf mt mv ml mk ++ ow a cI cJ o1.2.1 o1.2.2.1 o1.2.2.2.1 o1.2.2.2.2.1 o1.2.2.2.2.2.1 o1.2.2.2.2.2.2.1 o1.2.2.2.2.2.2.2.1 o1.2.2.2.2.2.2.2.2 co ro cA cD su uA9 uD9) H := hP
  replace hD : va_D (fun q : Nat => s.heap.size ≤ q) (mw b cI th w h ms mu mb me mf mt mv ml mk ++ ow a cI cJ o1.2.1 o1.2.2.1 o1.2.2.2.1 o1.2.2.2.2.1 o1.2.2.2.2.2.1 o1.2.2.2.2.2.2.1 o1.2.2.2.2.2.2.2.1 o1.2.2.2.2.2.2.2.2 co ro cA cD su uA9 uD9) := hD
  refine lv_istore (lv' := [(5, .int o1.1), (0, .ref b0), (1, .ref (a 15)), (2, .ref (b 0)), (3, .ref (a 16)), (4, .int (nI i))]) hx hb dL_law_944 hl (by decide) rfl (fun ls hl => ?_)
  refine lv_aload_n hx hb dL_law_946 rfl (lv_at hl 3 rfl) ?_
  refine lv_aload_n hx hb dL_law_947 rfl (lv_at hl 1 rfl) ?_
  refine lv_iload hx hb dL_law_948 (lv_at hl 5 rfl) ?_
  refine lv_iconst (v := 1) hx hb dL_law_950 (by decide) ?_
  refine lv_iadd hx hb dL_law_951 ?_
  refine va_sld hx hb hX hbl hbA hS hi1 dL_law_952 ?_
  refine lv_aload_n hx hb dL_law_953 rfl (lv_at hl 1 rfl) ?_
  refine lv_iload hx hb dL_law_954 (lv_at hl 5 rfl) ?_
  refine lv_iconst (v := 2) hx hb dL_law_956 (by decide) ?_
  refine lv_iadd hx hb dL_law_957 ?_
  refine va_sld hx hb hX hbl hbA hS hi2 dL_law_958 ?_
  refine cW_i [0, 1, 2, 3, 4, 5, 6] [7, 8, 9, 10, 11, 12, 13, 14, 15, 16, 17, 18, 19, 20, 21, 22, 23] (va_runV (As := [.int (xs (nI i + 1).toNatClampNeg), .int (xs (nI i + 2).toNatClampNeg)]) (rest := []) ⟨hx, hb, hml, hown, hts⟩ (kX5_would (l := l) (D := D) (cI := cI) (cJ := cJ) N b (th := th) (w := w) (h := h) (ms := ms) (mu := mu) (mb := mb) (me := me) (mf := mf) (mt := mt) (mv := mv) (ml := ml) (mk := mk) hC2 H.size) (cwV 2 hts gL_law_X5_would rfl rfl rfl (by decide +kernel) ⟨Nat.le_of_ble_eq_true rfl, Nat.le_of_ble_eq_true rfl⟩) (preV [.int (xs (nI i + 1).toNatClampNeg), .int (xs (nI i + 2).toNatClampNeg)] hN hK (hP.sub (ws' := (mw b cI th w h ms mu mb me mf mt mv ml mk)) [0, 1, 2, 3, 4, 5, 6] rfl) (hD.sub (ws' := (mw b cI th w h ms mu mb me mf mt mv ml mk)) [0, 1, 2, 3, 4, 5, 6] (by decide) rfl) (ci := 5) (q0 := 0) rfl rfl) rfl rfl hl.1 rfl (lv_room (Nat.le_of_ble_eq_true rfl)) dL_law_959 ⟨by dsimp only [room_1]; omega, by dsimp only [room_1]; omega⟩) hP hD hS hA rfl (wr := (ow a cI cJ o1.2.1 o1.2.2.1 o1.2.2.2.1 o1.2.2.2.2.1 o1.2.2.2.2.2.1 o1.2.2.2.2.2.2.1 o1.2.2.2.2.2.2.2.1 o1.2.2.2.2.2.2.2.2 co ro cA cD su uA9 uD9)) rfl (by decide) (by decide) (fun r u H locs hw hP hD hS => ?_)
  rw [hw]
  replace hP := hP.sub (ws' := mw b cI o2.2.1 w h o2.2.2.1 mu mb me mf o2.2.2.2.1 o2.2.2.2.2.1 o2.2.2.2.2.2.1 o2.2.2.2.2.2.2 ++ ow a cI cJ o1.2.1 o1.2.2.1 o1.2.2.2.1 o1.2.2.2.2.1 o1.2.2.2.2.2.1 o1.2.2.2.2.2.2.1 o1.2.2.2.2.2.2.2.1 o1.2.2.2.2.2.2.2.2 co ro cA cD su uA9 uD9) [17, 18, 19, 20, 21, 22, 23, 0, 1, 2, 3, 4, 5, 6, 7, 8, 9, 10, 11, 12, 13, 14, 15, 16] rfl
  replace hD := hD.sub (ws' := mw b cI o2.2.1 w h o2.2.2.1 mu mb me mf o2.2.2.2.1 o2.2.2.2.2.1 o2.2.2.2.2.2.1 o2.2.2.2.2.2.2 ++ ow a cI cJ o1.2.1 o1.2.2.1 o1.2.2.2.1 o1.2.2.2.2.1 o1.2.2.2.2.2.1 o1.2.2.2.2.2.2.1 o1.2.2.2.2.2.2.2.1 o1.2.2.2.2.2.2.2.2 co ro cA cD su uA9 uD9) [17, 18, 19, 20, 21, 22, 23, 0, 1, 2, 3, 4, 5, 6, 7, 8, 9, 10, 11, 12, 13, 14, 15, 16] (by decide) rfl
  refine lv_istore (lv' := [(6, .int o2.1), (5, .int o1.1), (0, .ref b0), (1, .ref (a 15)), (2, .ref (b 0)), (3, .ref (a 16)), (4, .int (nI i))]) hx hb dL_law_962 hl (by decide) rfl (fun ls hl => ?_)
  refine lv_aload_n hx hb dL_law_964 rfl (lv_at hl 4 rfl) ?_
  refine cR_i (va_runV (As := []) (rest := []) ⟨hx, hb, hml, hown, hts⟩ (kX5_thrown (l := l) (D := D) (cI := cI) (cJ := cJ) N b (th := o2.2.1) (w := w) (h := h) (ms := o2.2.2.1) (mu := mu) (mb := mb) (me := me) (mf := mf) (mt := o2.2.2.2.1) (mv := o2.2.2.2.2.1) (ml := o2.2.2.2.2.2.1) (mk := o2.2.2.2.2.2.2) (o := o2.2.1) rfl H.size) (cwV 0 hts gL_law_X5_thrown rfl rfl rfl (by decide +kernel) ⟨Nat.le_of_ble_eq_true rfl, Nat.le_of_ble_eq_true rfl⟩) (preV [] hN hK (hP.sub (ws' := (mw b cI o2.2.1 w h o2.2.2.1 mu mb me mf o2.2.2.2.1 o2.2.2.2.2.1 o2.2.2.2.2.2.1 o2.2.2.2.2.2.2)) [0, 1, 2, 3, 4, 5, 6] rfl) (hD.sub (ws' := (mw b cI o2.2.1 w h o2.2.2.1 mu mb me mf o2.2.2.2.1 o2.2.2.2.2.1 o2.2.2.2.2.2.1 o2.2.2.2.2.2.2)) [0, 1, 2, 3, 4, 5, 6] (by decide) rfl) (ci := 5) (q0 := 0) rfl rfl) rfl rfl hl.1 rfl (lv_room (Nat.le_of_ble_eq_true rfl)) dL_law_965 ⟨by dsimp only [room_1]; omega, by dsimp only [room_1]; omega⟩) hP hS (fun r u H locs hw hP hS => ?_)
  rw [hw]
  refine lv_iload hx hb dL_law_968 (lv_at hl 1 rfl) ?_
  refine lv_icmp_eq (tgt := 975) hx hb dL_law_970 (by decide) (fun _ => ?_) (fun h9 => absurd hth h9)
  refine lv_iload hx hb dL_law_975 (lv_at hl 1 rfl) ?_
  refine lv_if_ne (tgt := 992) hx hb dL_law_977 (by decide) (fun hk => ?_) (fun hk => ?_)
  · skip
    refine lv_goto (tgt := 1050) hx hb dL_law_992 (by decide) ?_
    refine W.widen (k := cells + 2) (n := slots + 12) (by omega) (by omega) ?_
    exact kk _ _ _ _ _ _ _ _ _ _ _ _ _ _ _ _ _ _ _ _ _ _ _ _ hR _ _ _ hP hD hS (lv_sub hl [2, 3, 4, 5, 6] rfl)
  · skip
    refine lv_aload_n hx hb dL_law_980 rfl (lv_at hl 5 rfl) ?_
    refine lv_iconst (v := 0) hx hb dL_law_981 (by decide) ?_
    refine va_lald (D := D) hx hb hK hP 7 1 rfl rfl (show vp_in (0 : Int32) 1 from vp_in_nI (n := 0) (by omega) (by omega)) dL_law_982 ?_
    refine lv_iload hx hb dL_law_983 (lv_at hl 0 rfl) ?_
    refine lv_i2l hx hb dL_law_985 rfl ?_
    refine W.lcmp hx hb dL_law_986 ?_
    refine lv_if_eq (tgt := 992) hx hb dL_law_987 (by decide) (fun _ => ?_) (fun h9 => absurd ((lg_cmp_eq _ _).mpr (hou hk)) h9)
    refine lv_goto (tgt := 1050) hx hb dL_law_992 (by decide) ?_
    refine W.widen (k := cells + 2) (n := slots + 12) (by omega) (by omega) ?_
    exact kk _ _ _ _ _ _ _ _ _ _ _ _ _ _ _ _ _ _ _ _ _ _ _ _ hR _ _ _ hP hD hS (lv_sub hl [2, 3, 4, 5, 6] rfl)
set_option maxHeartbeats 4000000 in
set_option maxRecDepth 100000 in
/-- digest -/
theorem law_17 {p : Program} {l : Launch} {e : Env} {s : State} {m : MethodId} {below : List Frame} {meth : Method} {c : Code} {b0 L : Nat} {xs : Nat → Int32} {D : va_G} {cI cJ : ClassId} {Q : State → Prop} {N : Nat} (hN6 : 600 ≤ N) (C0 : LA p l s m meth c b0 L xs D cI cJ) (a b : Nat → Nat) {i : Nat} (hi : i + 4 ≤ L) (hL : L ≤ 2048)
    {st ho ke ms mu mb me mf mk : RowI} {hc tr fo fr co ro th w h mt mv ml : Int32} {ou su : RowJ} {cA cD : CS} {jA jD : JT} (hr : Rel ke tr fo fr st co ro cA cD su w h ms mu mb me mf)
    {H : Heap} {locs : List Loc} {ls : Array Slot} {cells slots : Nat} (hcl : cells + 2 ≤ 601024) (hsl : slots + 12 ≤ 7293034) (hP : va_P D vwCl (lawW a b cI cJ th w h ms mu mb me mf mt mv ml mk ou ho ke hc tr fo fr st co ro cA cD su jA jD) H) (hD : va_D (fun q : Nat => s.heap.size ≤ q) (lawW a b cI cJ th w h ms mu mb me mf mt mv ml mk ou ho ke hc tr fo fr st co ro cA cD su jA jD)) (hS : va_S (fun q : Nat => s.heap.size ≤ q) s.heap H locs) (hl : lv_has ls 9 (lv5 a b b0 i))
    (kk : KK p l e s m below meth c b0 D cI cJ Q a b i su me mf (cells + 2) (slots + 12)) : W p l e room_1 s m #[Value.ref b0] below meth c H locs cells slots Q (F0 m 1036 ls []) := by
  obtain ⟨hx, hb, hr9, hml, hown, hts, hX, hbl, hlocks, hlt, hN, hTX, hK⟩ := C0
  have hA : ∀ q : Nat, s.heap.size ≤ q → (fun q : Nat => s.heap.size ≤ q) q := fun _ h => h
  have hbA : ¬ (fun q : Nat => s.heap.size ≤ q) b0 := Nat.not_le.mpr hbl
  replace hP : va_P D vwCl (mw b cI th w h ms mu mb me mf mt mv ml mk ++ ow a cI cJ ou ho ke hc tr fo fr st co ro cA cD su jA jD) H := hP
  replace hD : va_D (fun q : Nat => s.heap.size ≤ q) (mw b cI th w h ms mu mb me mf mt mv ml mk ++ ow a cI cJ ou ho ke hc tr fo fr st co ro cA cD su jA jD) := hD
  replace hl : lv_has ls 9 [(0, .ref b0), (1, .ref (a 15)), (2, .ref (b 0)), (3, .ref (a 16)), (4, .int (nI i))] := hl
  obtain ⟨o1, o2, hC1, hC2, heq, hR⟩ := t_digest hN6 hr ho hc th mt mv ml mk
  refine lv_aload_n hx hb dL_law_1036 rfl (lv_at hl 1 rfl) ?_
  refine cW_l [8, 9, 10, 11, 12, 13, 14, 15, 16, 17, 18, 19, 20, 21, 22, 23] [0, 1, 2, 3, 4, 5, 6, 7] (va_runV (As := []) (rest := []) ⟨hx, hb, hml, hown, hts⟩ (kX4_digest (l := l) (D := D) (cI := cI) (cJ := cJ) N a (ho := ho) (ke := ke) (hc := hc) (tr := tr) (fo := fo) (fr := fr) (st := st) (co := co) (ro := ro) (cA := cA) (cD := cD) (su := su) (jA := jA) (jD := jD) hC1 H.size) (cwV 0 hts gL_law_X4_digest rfl rfl rfl (by decide +kernel) ⟨Nat.le_of_ble_eq_true rfl, Nat.le_of_ble_eq_true rfl⟩) (preV [] hN hK (hP.sub (ws' := (xw a cI cJ ho ke hc tr fo fr st co ro cA cD su jA jD)) [8, 9, 10, 11, 12, 13, 14, 15, 16, 17, 18, 19, 20, 21, 22, 23] rfl) (hD.sub (ws' := (xw a cI cJ ho ke hc tr fo fr st co ro cA cD su jA jD)) [8, 9, 10, 11, 12, 13, 14, 15, 16, 17, 18, 19, 20, 21, 22, 23] (by decide) rfl) (ci := 4) (q0 := 3) rfl rfl) rfl rfl hl.1 rfl (lv_room (Nat.le_of_ble_eq_true rfl)) dL_law_1037 ⟨by dsimp only [room_1]; omega, by dsimp only [room_1]; omega⟩) hP hD hS hA rfl (wr := ((mw b cI th w h ms mu mb me mf mt mv ml mk) ++ [(a 16, .inl (cJ, 1, .inr (.inl ou)))])) rfl (by decide) (by decide) (fun r u H locs hw hP hD hS => ?_)
  obtain ⟨uA9, uD9⟩ := u
  rw [hw]
  replace hP : va_P D vwCl (mw b cI th w h ms mu mb me mf mt mv ml mk ++ ow a cI cJ ou o1.2.1 o1.2.2.1 o1.2.2.2.1 o1.2.2.2.2.1 o1.2.2.2.2.2.1 o1.2.2.2.2.2.2.1 o1.2.2.2.2.2.2.2 co ro cA cD su uA9 uD9) H := hP
  replace hD : va_D (fun q : Nat => s.heap.size ≤ q) (mw b cI th w h ms mu mb me mf mt mv ml mk ++ ow a cI cJ ou o1.2.1 o1.2.2.1 o1.2.2.2.1 o1.2.2.2.2.1 o1.2.2.2.2.2.1 o1.2.2.2.2.2.2.1 o1.2.2.2.2.2.2.2 co ro cA cD su uA9 uD9) := hD
  refine lv_aload_n hx hb dL_law_1040 rfl (lv_at hl 2 rfl) ?_
  refine cW_l [0, 1, 2, 3, 4, 5, 6] [7, 8, 9, 10, 11, 12, 13, 14, 15, 16, 17, 18, 19, 20, 21, 22, 23] (va_runV (As := []) (rest := [.long o1.1]) ⟨hx, hb, hml, hown, hts⟩ (kX5_digest (l := l) (D := D) (cI := cI) (cJ := cJ) N b (th := th) (w := w) (h := h) (ms := ms) (mu := mu) (mb := mb) (me := me) (mf := mf) (mt := mt) (mv := mv) (ml := ml) (mk := mk) hC2 H.size) (cwV 0 hts gL_law_X5_digest rfl rfl rfl (by decide +kernel) ⟨Nat.le_of_ble_eq_true rfl, Nat.le_of_ble_eq_true rfl⟩) (preV [] hN hK (hP.sub (ws' := (mw b cI th w h ms mu mb me mf mt mv ml mk)) [0, 1, 2, 3, 4, 5, 6] rfl) (hD.sub (ws' := (mw b cI th w h ms mu mb me mf mt mv ml mk)) [0, 1, 2, 3, 4, 5, 6] (by decide) rfl) (ci := 5) (q0 := 0) rfl rfl) rfl rfl hl.1 rfl (lv_room (Nat.le_of_ble_eq_true rfl)) dL_law_1041 ⟨by dsimp only [room_1]; omega, by dsimp only [room_1]; omega⟩) hP hD hS hA rfl (wr := (ow a cI cJ ou o1.2.1 o1.2.2.1 o1.2.2.2.1 o1.2.2.2.2.1 o1.2.2.2.2.2.1 o1.2.2.2.2.2.2.1 o1.2.2.2.2.2.2.2 co ro cA cD su uA9 uD9)) rfl (by decide) (by decide) (fun r u H locs hw hP hD hS => ?_)
  rw [hw]
  replace hP := hP.sub (ws' := mw b cI o2.2.1 w h o2.2.2.1 mu mb me mf o2.2.2.2.1 o2.2.2.2.2.1 o2.2.2.2.2.2.1 o2.2.2.2.2.2.2 ++ ow a cI cJ ou o1.2.1 o1.2.2.1 o1.2.2.2.1 o1.2.2.2.2.1 o1.2.2.2.2.2.1 o1.2.2.2.2.2.2.1 o1.2.2.2.2.2.2.2 co ro cA cD su uA9 uD9) [17, 18, 19, 20, 21, 22, 23, 0, 1, 2, 3, 4, 5, 6, 7, 8, 9, 10, 11, 12, 13, 14, 15, 16] rfl
  replace hD := hD.sub (ws' := mw b cI o2.2.1 w h o2.2.2.1 mu mb me mf o2.2.2.2.1 o2.2.2.2.2.1 o2.2.2.2.2.2.1 o2.2.2.2.2.2.2 ++ ow a cI cJ ou o1.2.1 o1.2.2.1 o1.2.2.2.1 o1.2.2.2.2.1 o1.2.2.2.2.2.1 o1.2.2.2.2.2.2.1 o1.2.2.2.2.2.2.2 co ro cA cD su uA9 uD9) [17, 18, 19, 20, 21, 22, 23, 0, 1, 2, 3, 4, 5, 6, 7, 8, 9, 10, 11, 12, 13, 14, 15, 16] (by decide) rfl
  refine W.lcmp hx hb dL_law_1044 ?_
  refine lv_if_eq (tgt := 1050) hx hb dL_law_1045 (by decide) (fun _ => ?_) (fun h9 => absurd ((lg_cmp_eq _ _).mpr (heq)) h9)
  refine W.widen (k := cells + 2) (n := slots + 12) (by omega) (by omega) ?_
  exact kk _ _ _ _ _ _ _ _ _ _ _ _ _ _ _ _ _ _ _ _ _ _ _ _ hR _ _ _ hP hD hS (lv_sub hl [0, 1, 2, 3, 4] rfl)
