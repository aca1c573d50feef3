/-! ===== the law's loop ===== -/
set_option maxHeartbeats 4000000 in
set_option maxRecDepth 100000 in
/-- one turn behind the switch's value -/
theorem law_switch {p : Program} {l : Launch} {e : Env} {s : State} {m : MethodId} {below : List Frame} {meth : Method} {c : Code} {b0 L : Nat} {xs : Nat → Int32} {D : va_G} {cI cJ : ClassId} {Q : State → Prop} {N : Nat} (hN6 : 600 ≤ N) (C0 : LA p l s m meth c b0 L xs D cI cJ) (a b : Nat → Nat) {i : Nat} (hi : i + 4 ≤ L) (hL : L ≤ 2048)
    {st ho ke ms mu mb me mf mk : RowI} {hc tr fo fr co ro th w h mt mv ml : Int32} {ou su : RowJ} {cA cD : CS} {jA jD : JT} (hr : Rel ke tr fo fr st co ro cA cD su w h ms mu mb me mf)
    {H : Heap} {locs : List Loc} {ls : Array Slot} {cells slots : Nat} (hcl : cells + 2 ≤ 601024) (hsl : slots + 12 ≤ 7293034) (hP : va_P D vwCl (lawW a b cI cJ th w h ms mu mb me mf mt mv ml mk ou ho ke hc tr fo fr st co ro cA cD su jA jD) H) (hD : va_D (fun q : Nat => s.heap.size ≤ q) (lawW a b cI cJ th w h ms mu mb me mf mt mv ml mk ou ho ke hc tr fo fr st co ro cA cD su jA jD)) (hS : va_S (fun q : Nat => s.heap.size ≤ q) s.heap H locs) (hl : lv_has ls 9 (lv5 a b b0 i)) {d0 : Drawn} (hd0 : s.drawn.sameBut d0 lw_cs)
    (kk : ∀ d' : Drawn, s.drawn.sameBut d' lw_cs → KK p l e (s.setDrawn d') m below meth c b0 D cI cJ Q a b i su me mf (cells + 2) (slots + 12)) {j : Nat} (hj : j < 32) {x : Int32} (hxj : x = nI j) : W p l e room_1 (s.setDrawn d0) m #[Value.ref b0] below meth c H locs cells slots Q (F0 m 39 ls [.int x]) := by
  obtain ⟨hx, hb, hr9, hml, hown, hts, hX, hbl, hlocks, hlt, hN, hTX, hK⟩ := C0.draw d0
  have C1 := C0.draw d0
  subst hxj
  have k0 := kk d0 hd0
  have hc : j = 0 ∨ j = 1 ∨ j = 2 ∨ j = 3 ∨ j = 4 ∨ j = 5 ∨ j = 6 ∨ j = 7 ∨ j = 8 ∨ j = 9 ∨ j = 10 ∨ j = 11 ∨ j = 12 ∨ j = 13 ∨ j = 14 ∨ j = 15 ∨ j = 16 ∨ j = 17 ∨ 18 ≤ j := by omega
  rcases hc with rfl | rfl | rfl | rfl | rfl | rfl | rfl | rfl | rfl | rfl | rfl | rfl | rfl | rfl | rfl | rfl | rfl | rfl | hj2
  · refine lv_tableIn (tgt := 124) hx hb dL_law_39 (by decide) (by decide) rfl (by decide) ?_
    exact law_0 hN6 C1 a b hi hL hr hcl hsl hP hD hS hl k0
  · refine lv_tableIn (tgt := 192) hx hb dL_law_39 (by decide) (by decide) rfl (by decide) ?_
    exact law_1 hN6 C1 a b hi hL hr hcl hsl hP hD hS hl k0
  · refine lv_tableIn (tgt := 255) hx hb dL_law_39 (by decide) (by decide) rfl (by decide) ?_
    exact law_2 hN6 C1 a b hi hL hr hcl hsl hP hD hS hl k0
  · refine lv_tableIn (tgt := 351) hx hb dL_law_39 (by decide) (by decide) rfl (by decide) ?_
    exact law_3 hN6 C1 a b hi hL hr hcl hsl hP hD hS hl k0
  · refine lv_tableIn (tgt := 419) hx hb dL_law_39 (by decide) (by decide) rfl (by decide) ?_
    exact law_4 hN6 C1 a b hi hL hr hcl hsl hP hD hS hl k0
  · refine lv_tableIn (tgt := 432) hx hb dL_law_39 (by decide) (by decide) rfl (by decide) ?_
    exact law_5 hN6 C1 a b hi hL hr hcl hsl hP hD hS hl k0
  · refine lv_tableIn (tgt := 488) hx hb dL_law_39 (by decide) (by decide) rfl (by decide) ?_
    exact law_6 hN6 C1 a b hi hL hr hcl hsl hP hD hS hl k0
  · refine lv_tableIn (tgt := 584) hx hb dL_law_39 (by decide) (by decide) rfl (by decide) ?_
    exact law_7 hN6 C1 a b hi hL hr hcl hsl hP hD hS hl k0
  · refine lv_tableIn (tgt := 640) hx hb dL_law_39 (by decide) (by decide) rfl (by decide) ?_
    exact law_8 hN6 C1 a b hi hL hr hcl hsl hP hD hS hl k0
  · refine lv_tableIn (tgt := 696) hx hb dL_law_39 (by decide) (by decide) rfl (by decide) ?_
    exact law_9 hN6 C1 a b hi hL hr hcl hsl hP hD hS hl k0
  · refine lv_tableIn (tgt := 764) hx hb dL_law_39 (by decide) (by decide) rfl (by decide) ?_
    exact law_10 hN6 C1 a b hi hL hr hcl hsl hP hD hS hl k0
  · refine lv_tableIn (tgt := 832) hx hb dL_law_39 (by decide) (by decide) rfl (by decide) ?_
    exact law_11 hN6 C1 a b hi hL hr hcl hsl hP hD hS hl k0
  · refine lv_tableIn (tgt := 845) hx hb dL_law_39 (by decide) (by decide) rfl (by decide) ?_
    exact law_12 hN6 C1 a b hi hL hr hcl hsl hP hD hS hl k0
  · refine lv_tableIn (tgt := 858) hx hb dL_law_39 (by decide) (by decide) rfl (by decide) ?_
    exact law_13 hN6 C1 a b hi hL hr hcl hsl hP hD hS hl k0
  · refine lv_tableIn (tgt := 914) hx hb dL_law_39 (by decide) (by decide) rfl (by decide) ?_
    exact law_14 hN6 C1 a b hi hL hr hcl hsl hP hD hS hl k0
  · refine lv_tableIn (tgt := 927) hx hb dL_law_39 (by decide) (by decide) rfl (by decide) ?_
    exact law_15 hN6 C1 a b hi hL hr hcl hsl hP hD hS hl k0
  · refine lv_tableIn (tgt := 995) hx hb dL_law_39 (by decide) (by decide) rfl (by decide) ?_
    exact law_16 hN6 C0 a b hr hcl hsl hP hD hS hl hd0 kk
  · refine lv_tableIn (tgt := 1036) hx hb dL_law_39 (by decide) (by decide) rfl (by decide) ?_
    exact law_17 hN6 C1 a b hi hL hr hcl hsl hP hD hS hl k0
  · refine lv_tableOut (tgt := 1050) hx hb dL_law_39 (Or.inr (by rw [nI_toInt (by omega)]; omega)) (by decide) ?_
    refine W.widen (k := cells + 2) (n := slots + 12) (by omega) (by omega) ?_
    exact k0 _ _ _ _ _ _ _ _ _ _ _ _ _ _ _ _ _ _ _ _ _ _ _ _ hr _ _ _ hP hD hS hl
set_option maxHeartbeats 4000000 in
set_option maxRecDepth 100000 in
theorem law_loop {p : Program} {l : Launch} {e : Env} {s : State} {m : MethodId} {below : List Frame} {meth : Method} {c : Code} {b0 L : Nat} {xs : Nat → Int32} {D : va_G} {cI cJ : ClassId} {N : Nat} (hN6 : 600 ≤ N) (C0 : LA p l s m meth c b0 L xs D cI cJ) (a b : Nat → Nat) (hL : L ≤ 2048) {su : RowJ} {me mf : RowI} :
    ∀ (n i cells slots : Nat), L < i + 4 * n → i ≤ L + 4 → cells + 2 * n ≤ 601024 → slots + 12 * n ≤ 7293034 → ∀ (th w h : Int32) (ms mu mb : RowI) (mt mv ml : Int32) (mk : RowI) (ou : RowJ) (ho ke : RowI) (hc tr fo fr : Int32) (st : RowI) (co ro : Int32) (cA cD : CS) (jA jD : JT), Rel ke tr fo fr st co ro cA cD su w h ms mu mb me mf → ∀ (H : Heap) (locs : List Loc) (ls : Array Slot) (d0 : Drawn), s.drawn.sameBut d0 lw_cs →
    va_P D vwCl (lawW a b cI cJ th w h ms mu mb me mf mt mv ml mk ou ho ke hc tr fo fr st co ro cA cD su jA jD) H → va_D (fun q : Nat => s.heap.size ≤ q) (lawW a b cI cJ th w h ms mu mb me mf mt mv ml mk ou ho ke hc tr fo fr st co ro cA cD su jA jD) → va_S (fun q : Nat => s.heap.size ≤ q) s.heap H locs → lv_has ls 9 (lv5 a b b0 i) →
    W p l e room_1 (s.setDrawn d0) m #[Value.ref b0] below meth c H locs cells slots (lw_Z below #[Value.ref b0] s) (F0 m 23 ls []) := by
  intro n
  induction n with
  | zero =>
    intro i cells slots hn hi hcl hsl th w h ms mu mb mt mv ml mk ou ho ke hc tr fo fr st co ro cA cD jA jD hr H locs ls d0 hd0 hP hD hS hl
    obtain ⟨hx, hb, hr9, hml, hown, hts, hX, hbl, hlocks, hlt, hN, hTX, hK⟩ := C0.draw d0
    have hbA : ¬ (fun q : Nat => s.heap.size ≤ q) b0 := Nat.not_le.mpr hbl
    have hl : lv_has ls 9 [(0, .ref b0), (1, .ref (a 15)), (2, .ref (b 0)), (3, .ref (a 16)), (4, .int (nI i))] := hl
    refine lv_iload hx hb dL_law_23 (lv_at hl 4 rfl) ?_
    refine lv_aload_n hx hb dL_law_25 rfl (lv_at hl 0 rfl) ?_
    refine va_slen hx hb hX hbl hbA hS dL_law_26 ?_
    refine lv_iconst (v := 4) hx hb dL_law_27 (by decide) ?_
    refine lv_isub hx hb dL_law_28 ?_
    refine lv_icmp_gt (tgt := 1056) hx hb dL_law_29 (by decide) (fun _ => ?_) (fun h9 => ?_)
    · refine lv_iconst (v := 1) hx hb dL_law_1056 (by decide) ?_
      refine W.widen (k := 601024) (n := 7293034) (by omega) (by omega) ?_
      refine va_forget (fun q hq => hS.2.2 q hq) ?_
      exact lw_ret hd0 hx hb hr9 hlocks dL_law_1057
    · exfalso
      apply h9
      rw [Int32.lt_iff_toInt_lt, nI_toInt (by omega)]
      have e := pk_sub_toInt (a := L) (b := 4) (by omega) (by omega)
      have e2 : (Int32.ofNat L - 4).toInt = (L : Int) - (4 : Nat) := e
      rw [e2]
      omega
  | succ n ih =>
    intro i cells slots hn hi hcl hsl th w h ms mu mb mt mv ml mk ou ho ke hc tr fo fr st co ro cA cD jA jD hr H locs ls d0 hd0 hP hD hS hl
    obtain ⟨hx, hb, hr9, hml, hown, hts, hX, hbl, hlocks, hlt, hN, hTX, hK⟩ := C0.draw d0
    have hbA : ¬ (fun q : Nat => s.heap.size ≤ q) b0 := Nat.not_le.mpr hbl
    have hl : lv_has ls 9 [(0, .ref b0), (1, .ref (a 15)), (2, .ref (b 0)), (3, .ref (a 16)), (4, .int (nI i))] := hl
    have e := pk_sub_toInt (a := L) (b := 4) (by omega) (by omega)
    have e2 : (Int32.ofNat L - 4).toInt = (L : Int) - (4 : Nat) := e
    refine lv_iload hx hb dL_law_23 (lv_at hl 4 rfl) ?_
    refine lv_aload_n hx hb dL_law_25 rfl (lv_at hl 0 rfl) ?_
    refine va_slen hx hb hX hbl hbA hS dL_law_26 ?_
    refine lv_iconst (v := 4) hx hb dL_law_27 (by decide) ?_
    refine lv_isub hx hb dL_law_28 ?_
    refine lv_icmp_gt (tgt := 1056) hx hb dL_law_29 (by decide) (fun _ => ?_) (fun h9 => ?_)
    · refine lv_iconst (v := 1) hx hb dL_law_1056 (by decide) ?_
      refine W.widen (k := 601024) (n := 7293034) (by omega) (by omega) ?_
      refine va_forget (fun q hq => hS.2.2 q hq) ?_
      exact lw_ret hd0 hx hb hr9 hlocks dL_law_1057
    · rw [Int32.lt_iff_toInt_lt, nI_toInt (by omega), e2] at h9
      have hi4 : i + 4 ≤ L := by omega
      have hi0 : vp_in (nI i) L := vp_in_nI (by omega) (by omega)
      refine lv_aload_n hx hb dL_law_32 rfl (lv_at hl 0 rfl) ?_
      refine lv_iload hx hb dL_law_33 (lv_at hl 4 rfl) ?_
      refine va_sld hx hb hX hbl hbA hS hi0 dL_law_35 ?_
      refine lv_bipush (v := 31) hx hb dL_law_36 (by decide) ?_
      refine lv_iand hx hb dL_law_38 ?_
      obtain ⟨j, hj, hxj⟩ := pk_andE (xs (nI i).toNatClampNeg) (m := 31) 5 (by decide)
      refine law_switch hN6 C0 a b hi4 hL hr (by omega) (by omega) hP hD hS hl hd0 (fun d' hd' => ?_) hj hxj
      intro th w h ms mu mb mt mv ml mk ou ho ke hc tr fo fr st co ro cA cD jA jD hr H locs ls hP hD hS hl
      obtain ⟨hx, hb, hr9, hml, hown, hts, hX, hbl, hlocks, hlt, hN, hTX, hK⟩ := C0.draw d'
      have hl : lv_has ls 9 [(0, .ref b0), (1, .ref (a 15)), (2, .ref (b 0)), (3, .ref (a 16)), (4, .int (nI i))] := hl
      refine lv_iinc (v := nI (i + 4)) (lv' := [(4, .int (nI (i + 4))), (0, .ref b0), (1, .ref (a 15)), (2, .ref (b 0)), (3, .ref (a 16))]) hx hb dL_law_1050 hl (k := 4) rfl (by rw [show Int32.ofInt 4 = nI 4 from rfl, nI_add]) (by decide) rfl (fun ls hl => ?_)
      refine lv_goto (tgt := 23) hx hb dL_law_1053 (by decide) ?_
      exact ih (i + 4) (cells + 2) (slots + 12) (by omega) (by omega) (by omega) (by omega) _ _ _ _ _ _ _ _ _ _ _ _ _ _ _ _ _ _ _ _ _ _ _ _ hr H locs ls d' hd' hP hD hS (lv_sub hl [1, 2, 3, 4, 0] rfl)
