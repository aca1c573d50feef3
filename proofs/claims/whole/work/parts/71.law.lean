set_option maxHeartbeats 4000000 in
set_option maxRecDepth 100000 in
/-- setFloor -/
theorem law_0 {p : Program} {l : Launch} {e : Env} {s : State} {m : MethodId} {below : List Frame} {meth : Method} {c : Code} {b0 L : Nat} {xs : Nat → Int32} {D : va_G} {cI cJ : ClassId} {Q : State → Prop} {N : Nat} (hN6 : 600 ≤ N) (C0 : LA p l s m meth c b0 L xs D cI cJ) (a b : Nat → Nat) {i : Nat} (hi : i + 4 ≤ L) (hL : L ≤ 2048)
    {st ho ke ms mu mb me mf mk : RowI} {hc tr fo fr co ro th w h mt mv ml : Int32} {ou su : RowJ} {cA cD : CS} {jA jD : JT} (hr : Rel ke tr fo fr st co ro cA cD su w h ms mu mb me mf)
    {H : Heap} {locs : List Loc} {ls : Array Slot} {cells slots : Nat} (hcl : cells + 2 ≤ 601024) (hsl : slots + 12 ≤ 7293034) (hP : va_P D vwCl (lawW a b cI cJ th w h ms mu mb me mf mt mv ml mk ou ho ke hc tr fo fr st co ro cA cD su jA jD) H) (hD : va_D (fun q : Nat => s.heap.size ≤ q) (lawW a b cI cJ th w h ms mu mb me mf mt mv ml mk ou ho ke hc tr fo fr st co ro cA cD su jA jD)) (hS : va_S (fun q : Nat => s.heap.size ≤ q) s.heap H locs) (hl : lv_has ls 9 (lv5 a b b0 i))
    (kk : KK p l e s m below meth c b0 D cI cJ Q a b i su me mf (cells + 2) (slots + 12)) : W p l e room_1 s m #[Value.ref b0] below meth c H locs cells slots Q (F0 m 124 ls []) := by
  obtain ⟨hx, hb, hr9, hml, hown, hts, hX, hbl, hlocks, hlt, hN, hTX, hK⟩ := C0
  have hA : ∀ q : Nat, s.heap.size ≤ q → (fun q : Nat => s.heap.size ≤ q) q := fun _ h => h
  have hbA : ¬ (fun q : Nat => s.heap.size ≤ q) b0 := Nat.not_le.mpr hbl
  have hi1 : vp_in (nI i + 1) L := by rw [show (1 : Int32) = nI 1 from rfl, nI_add]; exact vp_in_nI (by omega) (by omega)
  have hi2 : vp_in (nI i + 2) L := by rw [show (2 : Int32) = nI 2 from rfl, nI_add]; exact vp_in_nI (by omega) (by omega)
  replace hP : va_P D vwCl (mw b cI th w h ms mu mb me mf mt mv ml mk ++ ow a cI cJ ou ho ke hc tr fo fr st co ro cA cD su jA jD) H := hP
  replace hD : va_D (fun q : Nat => s.heap.size ≤ q) (mw b cI th w h ms mu mb me mf mt mv ml mk ++ ow a cI cJ ou ho ke hc tr fo fr st co ro cA cD su jA jD) := hD
  replace hl : lv_has ls 9 [(0, .ref b0), (1, .ref (a 15)), (2, .ref (b 0)), (3, .ref (a 16)), (4, .int (nI i))] := hl
  obtain ⟨o1, o2, hC1, hC2, hth, hou, hR⟩ := t_setFloor hN6 hr ou th (xs (nI i + 1).toNatClampNeg) (xs (nI i + 2).toNatClampNeg)
  refine lv_aload_n hx hb dL_law_124 rfl (lv_at hl 1 rfl) ?_
  refine lv_aload_n hx hb dL_law_125 rfl (lv_at hl 0 rfl) ?_
  refine lv_iload hx hb dL_law_126 (lv_at hl 4 rfl) ?_
  refine lv_iconst (v := 1) hx hb dL_law_128 (by decide) ?_
  refine lv_iadd hx hb dL_law_129 ?_
  refine va_sld hx hb hX hbl hbA hS hi1 dL_law_130 ?_
  refine lv_aload_n hx hb dL_law_131 rfl (lv_at hl 0 rfl) ?_
  refine lv_iload hx hb dL_law_132 (lv_at hl 4 rfl) ?_
  refine lv_iconst (v := 2) hx hb dL_law_134 (by decide) ?_
  refine lv_iadd hx hb dL_law_135 ?_
  refine va_sld hx hb hX hbl hbA hS hi2 dL_law_136 ?_
  refine lv_aload_n hx hb dL_law_137 rfl (lv_at hl 3 rfl) ?_
  have hF := va_free (wc := (ow a cI cJ ou ho ke hc tr fo fr st co ro cA cD su jA jD)) hD hS hA [7, 8, 9, 10, 11, 12, 13, 14, 15, 16, 17, 18, 19, 20, 21, 22, 23] rfl
  refine cW_i [7, 8, 9, 10, 11, 12, 13, 14, 15, 16, 17, 18, 19, 20, 21, 22, 23] [0, 1, 2, 3, 4, 5, 6] (vx_runSW (As := [.ref (a 15), .int (xs (nI i + 1).toNatClampNeg), .int (xs (nI i + 2).toNatClampNeg), .ref (a 16)]) (rest := []) ⟨hx, hb, hml, hown, hts⟩ (kL_setFloor (l := l) (D := D) (cI := cI) (cJ := cJ) hlt N a (ou := ou) (ho := ho) (ke := ke) (hc := hc) (tr := tr) (fo := fo) (fr := fr) (st := st) (co := co) (ro := ro) (cA := cA) (cD := cD) (su := su) (jA := jA) (jD := jD) hC1 H.size) (vx_cwSW 4 hts gL_law_L_setFloor rfl rfl rfl (by decide +kernel) ⟨Nat.le_of_ble_eq_true rfl, Nat.le_of_ble_eq_true rfl⟩) (preST [.ref (a 15), .int (xs (nI i + 1).toNatClampNeg), .int (xs (nI i + 2).toNatClampNeg), .ref (a 16)] hTX hS (fun q h => hF q h) hN hK (hP.sub (ws' := (ow a cI cJ ou ho ke hc tr fo fr st co ro cA cD su jA jD)) [7, 8, 9, 10, 11, 12, 13, 14, 15, 16, 17, 18, 19, 20, 21, 22, 23] rfl) (hD.sub (ws' := (ow a cI cJ ou ho ke hc tr fo fr st co ro cA cD su jA jD)) [7, 8, 9, 10, 11, 12, 13, 14, 15, 16, 17, 18, 19, 20, 21, 22, 23] (by decide) rfl)) rfl rfl hl.1 rfl (lv_room (Nat.le_of_ble_eq_true rfl)) dL_law_138 ⟨by dsimp only [room_1]; omega, by dsimp only [room_1]; omega⟩) hP hD hS hA rfl (wr := (mw b cI th w h ms mu mb me mf mt mv ml mk)) rfl (by decide) (by decide) (fun r u H locs hw hP hD hS => ?_)
  obtain ⟨u1, hu1⟩ : ∃ z, z = u := ⟨_, rfl⟩
  rw [hw]
  replace hP : va_P D vwCl (mw b cI th w h ms mu mb me mf mt mv ml mk ++ ow a cI cJ o1.2.1 ho ke hc tr fo o1.2.2.1 o1.2.2.2.1 o1.2.2.2.2.1 o1.2.2.2.2.2.1 o1.2.2.2.2.2.2.1 o1.2.2.2.2.2.2.2 su jA jD) H := hP
  replace hD : va_D (fun q : Nat => s.heap.size ≤ q) (mw b cI th w h ms mu mb me mf mt mv ml mk ++ ow a cI cJ o1.2.1 ho ke hc tr fo o1.2.2.1 o1.2.2.2.1 o1.2.2.2.2.1 o1.2.2.2.2.2.1 o1.2.2.2.2.2.2.1 o1.2.2.2.2.2.2.2 su jA jD) := hD
  refine lv_istore (lv' := [(5, .int o1.1), (0, .ref b0), (1, .ref (a 15)), (2, .ref (b 0)), (3, .ref (a 16)), (4, .int (nI i))]) hx hb dL_law_141 hl (by decide) rfl (fun ls hl => ?_)
  refine lv_aload_n hx hb dL_law_143 rfl (lv_at hl 3 rfl) ?_
  refine lv_aload_n hx hb dL_law_144 rfl (lv_at hl 1 rfl) ?_
  refine lv_iload hx hb dL_law_145 (lv_at hl 5 rfl) ?_
  refine lv_iconst (v := 1) hx hb dL_law_147 (by decide) ?_
  refine lv_iadd hx hb dL_law_148 ?_
  refine va_sld hx hb hX hbl hbA hS hi1 dL_law_149 ?_
  refine lv_aload_n hx hb dL_law_150 rfl (lv_at hl 1 rfl) ?_
  refine lv_iload hx hb dL_law_151 (lv_at hl 5 rfl) ?_
  refine lv_iconst (v := 2) hx hb dL_law_153 (by decide) ?_
  refine lv_iadd hx hb dL_law_154 ?_
  refine va_sld hx hb hX hbl hbA hS hi2 dL_law_155 ?_
  refine cW_i [0, 1, 2, 3, 4, 5, 6] [7, 8, 9, 10, 11, 12, 13, 14, 15, 16, 17, 18, 19, 20, 21, 22, 23] (va_runV (As := [.int (xs (nI i + 1).toNatClampNeg), .int (xs (nI i + 2).toNatClampNeg)]) (rest := []) ⟨hx, hb, hml, hown, hts⟩ (kX5_setFloor (l := l) (D := D) (cI := cI) (cJ := cJ) N b (th := th) (w := w) (h := h) (ms := ms) (mu := mu) (mb := mb) (me := me) (mf := mf) (mt := mt) (mv := mv) (ml := ml) (mk := mk) hC2 H.size) (cwV 2 hts gL_law_X5_setFloor rfl rfl rfl (by decide +kernel) ⟨Nat.le_of_ble_eq_true rfl, Nat.le_of_ble_eq_true rfl⟩) (preV [.int (xs (nI i + 1).toNatClampNeg), .int (xs (nI i + 2).toNatClampNeg)] hN hK (hP.sub (ws' := (mw b cI th w h ms mu mb me mf mt mv ml mk)) [0, 1, 2, 3, 4, 5, 6] rfl) (hD.sub (ws' := (mw b cI th w h ms mu mb me mf mt mv ml mk)) [0, 1, 2, 3, 4, 5, 6] (by decide) rfl) (ci := 5) (q0 := 0) rfl rfl) rfl rfl hl.1 rfl (lv_room (Nat.le_of_ble_eq_true rfl)) dL_law_156 ⟨by dsimp only [room_1]; omega, by dsimp only [room_1]; omega⟩) hP hD hS hA rfl (wr := (ow a cI cJ o1.2.1 ho ke hc tr fo o1.2.2.1 o1.2.2.2.1 o1.2.2.2.2.1 o1.2.2.2.2.2.1 o1.2.2.2.2.2.2.1 o1.2.2.2.2.2.2.2 su jA jD)) rfl (by decide) (by decide) (fun r u H locs hw hP hD hS => ?_)
  rw [hw]
  replace hP := hP.sub (ws' := mw b cI o2.2.1 o2.2.2.1 o2.2.2.2.1 o2.2.2.2.2.1 o2.2.2.2.2.2.1 o2.2.2.2.2.2.2 me mf mt mv ml mk ++ ow a cI cJ o1.2.1 ho ke hc tr fo o1.2.2.1 o1.2.2.2.1 o1.2.2.2.2.1 o1.2.2.2.2.2.1 o1.2.2.2.2.2.2.1 o1.2.2.2.2.2.2.2 su jA jD) [17, 18, 19, 20, 21, 22, 23, 0, 1, 2, 3, 4, 5, 6, 7, 8, 9, 10, 11, 12, 13, 14, 15, 16] rfl
  replace hD := hD.sub (ws' := mw b cI o2.2.1 o2.2.2.1 o2.2.2.2.1 o2.2.2.2.2.1 o2.2.2.2.2.2.1 o2.2.2.2.2.2.2 me mf mt mv ml mk ++ ow a cI cJ o1.2.1 ho ke hc tr fo o1.2.2.1 o1.2.2.2.1 o1.2.2.2.2.1 o1.2.2.2.2.2.1 o1.2.2.2.2.2.2.1 o1.2.2.2.2.2.2.2 su jA jD) [17, 18, 19, 20, 21, 22, 23, 0, 1, 2, 3, 4, 5, 6, 7, 8, 9, 10, 11, 12, 13, 14, 15, 16] (by decide) rfl
  refine lv_istore (lv' := [(6, .int o2.1), (5, .int o1.1), (0, .ref b0), (1, .ref (a 15)), (2, .ref (b 0)), (3, .ref (a 16)), (4, .int (nI i))]) hx hb dL_law_159 hl (by decide) rfl (fun ls hl => ?_)
  refine lv_aload_n hx hb dL_law_161 rfl (lv_at hl 4 rfl) ?_
  refine cR_i (va_runV (As := []) (rest := []) ⟨hx, hb, hml, hown, hts⟩ (kX5_thrown (l := l) (D := D) (cI := cI) (cJ := cJ) N b (th := o2.2.1) (w := o2.2.2.1) (h := o2.2.2.2.1) (ms := o2.2.2.2.2.1) (mu := o2.2.2.2.2.2.1) (mb := o2.2.2.2.2.2.2) (me := me) (mf := mf) (mt := mt) (mv := mv) (ml := ml) (mk := mk) (o := o2.2.1) rfl H.size) (cwV 0 hts gL_law_X5_thrown rfl rfl rfl (by decide +kernel) ⟨Nat.le_of_ble_eq_true rfl, Nat.le_of_ble_eq_true rfl⟩) (preV [] hN hK (hP.sub (ws' := (mw b cI o2.2.1 o2.2.2.1 o2.2.2.2.1 o2.2.2.2.2.1 o2.2.2.2.2.2.1 o2.2.2.2.2.2.2 me mf mt mv ml mk)) [0, 1, 2, 3, 4, 5, 6] rfl) (hD.sub (ws' := (mw b cI o2.2.1 o2.2.2.1 o2.2.2.2.1 o2.2.2.2.2.1 o2.2.2.2.2.2.1 o2.2.2.2.2.2.2 me mf mt mv ml mk)) [0, 1, 2, 3, 4, 5, 6] (by decide) rfl) (ci := 5) (q0 := 0) rfl rfl) rfl rfl hl.1 rfl (lv_room (Nat.le_of_ble_eq_true rfl)) dL_law_162 ⟨by dsimp only [room_1]; omega, by dsimp only [room_1]; omega⟩) hP hS (fun r u H locs hw hP hS => ?_)
  rw [hw]
  refine lv_iload hx hb dL_law_165 (lv_at hl 1 rfl) ?_
  refine lv_icmp_eq (tgt := 172) hx hb dL_law_167 (by decide) (fun _ => ?_) (fun h9 => absurd hth h9)
  refine lv_iload hx hb dL_law_172 (lv_at hl 1 rfl) ?_
  refine lv_if_ne (tgt := 189) hx hb dL_law_174 (by decide) (fun hk => ?_) (fun hk => ?_)
  · skip
    refine lv_goto (tgt := 1050) hx hb dL_law_189 (by decide) ?_
    refine W.widen (k := cells + 2) (n := slots + 12) (by omega) (by omega) ?_
    exact kk _ _ _ _ _ _ _ _ _ _ _ _ _ _ _ _ _ _ _ _ _ _ _ _ hR _ _ _ hP hD hS (lv_sub hl [2, 3, 4, 5, 6] rfl)
  · skip
    refine lv_aload_n hx hb dL_law_177 rfl (lv_at hl 5 rfl) ?_
    refine lv_iconst (v := 0) hx hb dL_law_178 (by decide) ?_
    refine va_lald (D := D) hx hb hK hP 7 1 rfl rfl (show vp_in (0 : Int32) 1 from vp_in_nI (n := 0) (by omega) (by omega)) dL_law_179 ?_
    refine lv_iload hx hb dL_law_180 (lv_at hl 0 rfl) ?_
    refine lv_i2l hx hb dL_law_182 rfl ?_
    refine W.lcmp hx hb dL_law_183 ?_
    refine lv_if_eq (tgt := 189) hx hb dL_law_184 (by decide) (fun _ => ?_) (fun h9 => absurd ((lg_cmp_eq _ _).mpr (hou hk)) h9)
    refine lv_goto (tgt := 1050) hx hb dL_law_189 (by decide) ?_
    refine W.widen (k := cells + 2) (n := slots + 12) (by omega) (by omega) ?_
    exact kk _ _ _ _ _ _ _ _ _ _ _ _ _ _ _ _ _ _ _ _ _ _ _ _ hR _ _ _ hP hD hS (lv_sub hl [2, 3, 4, 5, 6] rfl)
