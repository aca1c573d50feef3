/-! ===== the law's loop and its end ===== -/
def FCt (t : Nat) : Nat := if t = 2 ∨ t = 5 then 253080 else 0
def FSt (t : Nat) : Nat := if t = 2 ∨ t = 5 then 1659080 else 0
def RCm : Nat → Nat
  | 0 => 9767
  | m + 1 => 7030 + FCt (5 - m) + RCm m
def RSm : Nat → Nat
  | 0 => 62975
  | m + 1 => 43276 + FSt (5 - m) + RSm m
theorem force_t : ∀ t, t < 6 → (2 : Int32) ≤ (nI t - nI t / (3 : Int32) * (3 : Int32)) → 253080 ≤ FCt t ∧ 1659080 ≤ FSt t := by decide +kernel
set_option maxHeartbeats 4000000 in
set_option maxRecDepth 100000 in
theorem law_loop {p : Program} {l : Launch} {e : Env} {s : State} {m : MethodId} {below : List Frame} {meth : Method} {c0 : Code} {b0 L : Nat} {xs : Nat → Int32} {D : va_G} {cI cJ cB cM : ClassId} (hlt : l.stackTraces = false) (hL : L < 2 ^ 31) (a : Nat → Nat) {su : RowJ} (hx : p.tables.exec = Jvm.exec) (hb : c0.code = cL_law) (hr9 : meth.sig.returnType = ret) (hml : c0.maxLocals = 24) (hown : s.vm.findClass RL = some m.cls) (hts : ∀ w ∈ wsL_law, w.before #[Value.ref b0] s = true) (hlocks : meth.locks = false) (hTX : TX (fun q : Nat => s.heap.size ≤ q) s s.heap) (hX : va_X b0 L xs s s.heap) (hbl : b0 < s.heap.size) (hN : NZ s) (hK : va_K D vwCl (tysZ cI cJ cB cM) s) :
    ∀ (k t : Nat), t + k = 6 → ∀ (ho ke : RowI) (hc tr fo fr : Int32) (st : RowI) (co ro : Int32) (cA cD : CS) (wI hI : Int32) (Wn Hn : Nat) (gS gA gD : RowR), R21 ke tr fo fr st co ro cA cD su wI hI Wn Hn gS gA gD → ∀ (jA jD : JT) (c : Nat → Nat) (r : Nat → Nat → Nat) (kc ks : Nat), kc + RCm k ≤ 761434 → ks + RSm k ≤ 6817166 → ∀ (H : Heap) (locs : List Loc) (ls : Array Slot),
    va_P D vwCl ((xw a cI cJ ho ke hc tr fo fr st co ro cA cD su jA jD ++ (z4 c cM wI hI Hn r)) ++ (zpl cI Wn Hn r gS gA gD)) H → va_D (fun q : Nat => s.heap.size ≤ q) ((xw a cI cJ ho ke hc tr fo fr st co ro cA cD su jA jD ++ (z4 c cM wI hI Hn r)) ++ (zpl cI Wn Hn r gS gA gD)) → va_S (fun q : Nat => s.heap.size ≤ q) s.heap H locs → lv_has ls 24 [(0, .ref b0), (1, .ref (a 15)), (2, .ref (c 0)), (3, .int (nI t))] →
    W p l e room_1 s m #[Value.ref b0] below meth c0 H locs kc ks (lw_Z below #[Value.ref b0] s) (F0 m 22 ls []) := by
  have hA : ∀ q : Nat, s.heap.size ≤ q → (fun q : Nat => s.heap.size ≤ q) q := fun _ h => h
  have hbA : ¬ (fun q : Nat => s.heap.size ≤ q) b0 := Nat.not_le.mpr hbl
  intro k
  induction k with
  | zero =>
    intro t ht ho ke hc tr fo fr st co ro cA cD wI hI Wn Hn gS gA gD hR jA jD c r kc ks hkc hks H locs ls hP hD hS hl
    obtain rfl : t = 6 := by omega
    have hkc : kc + 9767 ≤ 761434 := hkc
    have hks : ks + 62975 ≤ 6817166 := hks
    have hM := same_n (N := 600) (Nat.le_refl _) hR
    have hF := va_freeP (cx := (xw a cI cJ ho ke hc tr fo fr st co ro cA cD su jA jD ++ (z4 c cM wI hI Hn r))) hD hS hA [0, 1, 2, 3, 4, 5, 6, 7, 8, 9, 10, 11, 12, 13, 14, 15, 16, 17, 18, 19] rfl
    refine lv_iload_n hx hb dL_law_22 rfl (lv_at hl 3 rfl) ?_
    refine lv_bipush (v := 6) hx hb dL_law_23 (by decide) ?_
    refine lv_icmp_ge (tgt := 1179) hx hb dL_law_25 (by decide) (fun _ => ?_) (fun h9 => absurd (show (6 : Int32) ≤ nI 6 by decide) h9)
    refine lv_aload_n hx hb dL_law_1179 rfl (lv_at hl 2 rfl) ?_
    refine lv_aload_n hx hb dL_law_1180 rfl (lv_at hl 1 rfl) ?_
    refine W.base ?_
    refine va_calliD (Drawn.sameBut.refl s.drawn lw_cs) (va_runV_D (As := [.ref (a 15)]) (rest := []) ⟨hx, hb, hml, hown, hts⟩ (kX5_isSame (l := l) (D := D) (cI := cI) (cJ := cJ) (cB := cB) (cM := cM) hlt 600 a c r (ho := ho) (ke := ke) (hc := hc) (tr := tr) (fo := fo) (fr := fr) (st := st) (co := co) (ro := ro) (cA := cA) (cD := cD) (su := su) (jA := jA) (jD := jD) hM H.size) (cwV 1 hts gL_law_X5_isSame rfl rfl rfl (by decide +kernel) ⟨Nat.le_of_ble_eq_true rfl, Nat.le_of_ble_eq_true rfl⟩) (preVY [.ref (a 15)] hTX hS hF hN hK hP hD (ci := 5) (q0 := 16) rfl rfl) rfl rfl hl.1 rfl (lv_room (Nat.le_of_ble_eq_true rfl)) dL_law_1181 ⟨by show _ + 9767 ≤ 761434; omega, by show _ + 62975 ≤ 6817166; omega⟩) hS (fun q _ h => hF q h) hF (fun r0 u t2 H1 locs1 ht2 hvm hw hB hz1 hk1 hS1 d' hd' => ?_)
    obtain ⟨hw, -⟩ := hw
    have hw : r0 = 1 := hw
    rw [hw]
    refine W.widen (k := 761434) (n := 6817166) (by show _ + 9767 ≤ _; omega) (by show _ + 62975 ≤ _; omega) ?_
    refine va_forget (fun q hq => hS1.2.2 q hq) ?_
    exact lw_ret hd' hx hb hr9 hlocks dL_law_1184
  | succ k ih =>
    intro t ht ho ke hc tr fo fr st co ro cA cD wI hI Wn Hn gS gA gD hR jA jD c r kc ks hkc hks H locs ls hP hD hS hl
    have e5 : 5 - k = t := by omega
    have hkc : kc + (7030 + FCt (5 - k) + RCm k) ≤ 761434 := hkc
    have hks : ks + (43276 + FSt (5 - k) + RSm k) ≤ 6817166 := hks
    rw [e5] at hkc hks
    refine lv_iload_n hx hb dL_law_22 rfl (lv_at hl 3 rfl) ?_
    refine lv_bipush (v := 6) hx hb dL_law_23 (by decide) ?_
    refine lv_icmp_ge (tgt := 1179) hx hb dL_law_25 (by decide) (fun h9 => absurd h9 (show ¬ (6 : Int32) ≤ nI t from nI_ge (a := t) (b := 6) (by omega) (by omega))) (fun _ => ?_)
    obtain ⟨K22, hK22⟩ : ∃ K22 : KT22, ∀ v3 ho ke hc tr fo fr st co ro cA cD wI hI Wn Hn gS gA gD, (K22 v3 ho ke hc tr fo fr st co ro cA cD wI hI Wn Hn gS gA gD = some (0 : Int32) ↔ v3 = nI (t + 1) ∧ R21 ke tr fo fr st co ro cA cD su wI hI Wn Hn gS gA gD) := by
      classical
      refine ⟨fun v3 ho ke hc tr fo fr st co ro cA cD wI hI Wn Hn gS gA gD => if v3 = nI (t + 1) ∧ R21 ke tr fo fr st co ro cA cD su wI hI Wn Hn gS gA gD then some 0 else none, ?_⟩
      intro v3 ho ke hc tr fo fr st co ro cA cD wI hI Wn Hn gS gA gD
      by_cases q : v3 = nI (t + 1) ∧ R21 ke tr fo fr st co ro cA cD su wI hI Wn Hn gS gA gD
      · exact ⟨fun _ => q, fun _ => if_pos q⟩
      · refine ⟨fun z => ?_, fun z => absurd z q⟩
        dsimp only at z
        rw [if_neg q] at z
        cases z
    have hKH : KH su (nI t) K22 0 := fun ho ke hc tr fo fr st co ro cA cD wI hI Wn Hn gS gA gD h => (hK22 _ _ _ _ _ _ _ _ _ _ _ _ _ _ _ _ _ _ _).mpr ⟨nI_1 t, h⟩
    have hM := law_n (N := 600) (Nat.le_refl _) hL (xs := xs) (t := t) (by omega) hKH ho ke hc tr fo fr st co ro cA cD wI hI Wn Hn gS gA gD hR
    refine bL_law hlt 600 b0 L xs a c r (FCt t) (FSt t) (force_t t (by omega)) (K22 := K22) (RCm k) (RSm k) (fun v3 ho ke hc tr fo fr st co ro cA cD wI hI Wn Hn gS gA gD hq jA jD c r kc ks hkc hks Hq locs ls hP hD hS hl => ?_) hM kc ks (by omega) (by omega) hx hb hml hown hts hlocks hTX hX hbl hbA hN hK hP hD hS hA (lv_sub hl [0, 1, 2, 3] rfl)
    obtain ⟨q1, q2⟩ := (hK22 _ _ _ _ _ _ _ _ _ _ _ _ _ _ _ _ _ _ _).mp hq
    subst q1
    exact ih (t + 1) (by omega) ho ke hc tr fo fr st co ro cA cD wI hI Wn Hn gS gA gD q2 jA jD c r kc ks hkc hks Hq locs ls hP hD hS hl
set_option maxHeartbeats 4000000 in
set_option maxRecDepth 100000 in
theorem whole_start {p : Program} {e : Env} {s : State} {m : MethodId} {below : List Frame} {meth : Method} {c : Code} (l : Launch) (hflags : l.flags = flags0) {b L : Nat} {xs : Nat → Int32} (hL : L ≤ 260) (C0 : lw_At p s m meth c b L xs) : W p l e room_1 s m #[Value.ref b] below meth c s.heap [] 0 0 (lw_Z below #[Value.ref b] s) (entryFrame m ([Value.ref b] : List Value).toArray 24) := by
  obtain ⟨hx, hb, hr, hml, hown, hts0, hX, hbl, hlocks, hgv⟩ := id C0
  have hown : s.vm.findClass RL = some m.cls := hown
  have hts : ∀ w ∈ wsL_law, w.before #[Value.ref b] s = true := fun w h => hts0 w (wsL_law_in w h)
  have hA : ∀ q : Nat, s.heap.size ≤ q → (fun q : Nat => s.heap.size ≤ q) q := fun _ h => h
  have hbA : ¬ (fun q : Nat => s.heap.size ≤ q) b := Nat.not_le.mpr hbl
  obtain ⟨D, cI, cJ, cB, cM, hK⟩ := known hts0
  have hN := nests hts0
  have hTX := throws hts0 (hK.1 4 _ rfl).2.1 hgv
  have hlt : l.stackTraces = false := by
    unfold Launch.stackTraces
    rw [hflags]
    decide
  have hD4 : Dim 4 4 := ⟨by omega, by omega, by omega, by omega⟩
  obtain ⟨su, hM1, hT⟩ := tab_class 600 (Nat.le_refl _)
  obtain ⟨cA, cD, hM2, j1, j2, j3, j4⟩ := clear_n (N := 600) hD4 (Nat.le_refl _) z0 0 0 cs0 cs0
  have hM2 : mX1_clear 600 z0 0 0 cs0 cs0 4 4 = some (zr 36 z0, nI 4, nI 4, cA, cD) := hM2
  have u1 : ∀ k, k < 36 → cA.1 k = 0 := fun k hk => by rw [j3]; exact zr_at 36 k hk
  have u2 : ∀ k, k < 36 → cD.1 k = 0 := fun k hk => by rw [j4]; exact zr_at 36 k hk
  have hST : ST 4 4 (zr 36 z0) cA cD su := ⟨hD4, sr_z (fun k hk => zr_at 36 k hk), j1, j2, ur_z u1, ur_z u2, hT⟩
  have hz0 : ∀ u : RowI, (∀ k, k < 36 → u k = 0) → RZ 4 4 u (fun _ _ => 0) := fun u hu y x hy hx => (hu _ (by omega)).symm
  have hR0 : R21 z0 0 0 0 (zr 36 z0) (nI 4) (nI 4) cA cD su (nI 4) (nI 4) 4 4 (fun _ _ => 0) (fun _ _ => 0) (fun _ _ => 0) := ⟨4, 4, rfl, rfl, rfl, rfl, rfl, rfl, hST, Or.inl rfl, hz0 _ (fun k hk => zr_at 36 k hk), hz0 _ u1, hz0 _ u2⟩
  obtain ⟨ob, hMb, hRb⟩ := build_n (N := 600) (L := L) (Nat.le_refl _) (by omega) xs 26 27 0 (by omega) (by omega) 0 (zr 36 z0) (nI 4) (nI 4) cA cD (nI 4) (nI 4) 4 4 (fun _ _ => 0) (fun _ _ => 0) (fun _ _ => 0) hR0
  have hMb : mL_build_e L xs 600 0 (zr 36 z0) (nI 4) (nI 4) cA cD 4 4 4 4 (fun _ _ => 0) (fun _ _ => 0) (fun _ _ => 0) = some ob := hMb
  have hS : va_S (fun q : Nat => s.heap.size ≤ q) s.heap s.heap [] := va_S.rf
  have hP : va_P D vwCl [] s.heap := fun k q h => by simp at h
  have hD : va_D (fun q : Nat => s.heap.size ≤ q) [] := ⟨fun i j p q h => by simp at h, fun k q h => by simp at h⟩
  have hl := lv_entry ([.ref b]) (n := 24) (Nat.le_of_ble_eq_true rfl)
  rw [lg_entry_eq]
  generalize (lg_sl ([.ref b]) ++ List.replicate (24 - (lg_sl ([.ref b])).length) Slot.unset).toArray = ls at hl ⊢
  have hl : lv_has ls 24 [(0, .ref b)] := hl
  refine va_new (D := D) (ci := 4) (fs := [.null, .null]) (C := RX4) (T := TX4) (N := 2) hx hb hts inlX4 tyX4 tyX4_ok hown (hts (.classLink RL 36 RX4) (by decide +kernel)) (hts (.instantiable RX4 2) (by decide +kernel)) (hts (.initialized RX4) (by decide +kernel)) hK hP hD hS hA rfl (by decide +kernel) (Nat.le_of_ble_eq_true rfl) (Nat.le_of_ble_eq_true rfl) dL_law_0 (fun q0 H hP hD hS => ?_)
  replace hP : va_P D vwCl (nX0 q0) H := hP
  replace hD : va_D (fun q : Nat => s.heap.size ≤ q) (nX0 q0) := hD
  refine lv_dup hx hb dL_law_3 rfl ?_
  refine cW_v [0] [] (va_runI (As := []) (rest := [.ref q0]) ⟨hx, hb, hml, hown, hts⟩ (kX4_init (l := l) (D := D) (cI := cI) (cJ := cJ) 600 q0 hM1 hM2 H.size) (cwI 0 hts gL_law_X4_init rfl rfl rfl (hts (.initialized RX4) (by decide +kernel)) (hts (.methodLink RL 70 yX4_init) (by decide +kernel)) (hts (.instanceMethod yX4_init) (by decide +kernel)) rfl (by decide +kernel) ⟨Nat.le_of_ble_eq_true rfl, Nat.le_of_ble_eq_true rfl⟩) (preS (.ref q0 :: []) hN.1 (KX hK) hP hD) rfl rfl hl.1 rfl (lv_room (Nat.le_of_ble_eq_true rfl)) dL_law_4 ⟨Nat.le_of_ble_eq_true rfl, Nat.le_of_ble_eq_true rfl⟩) hP hD hS hA rfl (wr := []) rfl (by decide) (by decide) (fun a H locs hw hP hD hS => ?_)
  rw [← hw]
  replace hP : va_P D vwCl (xw a cI cJ z0 z0 0 0 0 0 (zr 36 z0) (nI 4) (nI 4) cA cD su j0 j0) H := hP
  replace hD : va_D (fun q : Nat => s.heap.size ≤ q) (xw a cI cJ z0 z0 0 0 0 0 (zr 36 z0) (nI 4) (nI 4) cA cD su j0 j0) := hD
  refine lv_astore_n (lv' := [(1, .ref (a 15)), (0, .ref b)]) hx hb dL_law_7 rfl hl (by decide) rfl (fun ls hl => ?_)
  refine lv_aload_n hx hb dL_law_8 rfl (lv_at hl 0 rfl) ?_
  refine lv_aload_n hx hb dL_law_9 rfl (lv_at hl 1 rfl) ?_
  refine W.widen (k := 16) (n := 3941) (by decide) (by decide) ?_
  have hF := va_free (wc := (xw a cI cJ z0 z0 0 0 0 0 (zr 36 z0) (nI 4) (nI 4) cA cD su j0 j0)) hD hS hA [0, 1, 2, 3, 4, 5, 6, 7, 8, 9, 10, 11, 12, 13, 14, 15] rfl
  refine va_callr (va_runS (As := [.ref (a 15), .ref b]) (rest := []) ⟨hx, hb, hml, hown, hts⟩ (kL_build (l := l) (D := D) (cI := cI) (cJ := cJ) (cB := cB) (cM := cM) hlt 600 b L xs a (ho := z0) (ke := z0) (hc := 0) (tr := 0) (fo := 0) (jA := j0) (jD := j0) (su := su) hMb H.size) (va_cwS 2 hts gL_law_L_build rfl rfl rfl (by decide +kernel) ⟨Nat.le_of_ble_eq_true rfl, Nat.le_of_ble_eq_true rfl⟩) (preSB [.ref (a 15), .ref b] hX hbl hbA hTX hS hF hN hK hP hD) rfl rfl hl.1 rfl (lv_room (Nat.le_of_ble_eq_true rfl)) dL_law_10 ⟨Nat.le_of_ble_eq_true rfl, Nat.le_of_ble_eq_true rfl⟩) hS (fun q _ h => hF q h) hF (fun u b2 t2 H1 locs1 ht2 hvm hw hB hz1 hk1 hS1 => ?_)
  obtain ⟨uA, uD, c9, r9⟩ := u
  obtain ⟨hb2, hP1, hD1⟩ := hB
  have hb2 : b2 = c9 0 := hb2
  subst hb2
  rw [ht2] at hP1
  have hD2 : va_D (fun q : Nat => s.heap.size ≤ q) _ := ⟨hD1.1, fun k q h => hF _ (hD1.2 k q h)⟩
  refine W.widen (k := 55534) (n := 367851) (by decide) (by decide) ?_
  refine lv_astore_n (lv' := [(2, .ref (c9 0)), (1, .ref (a 15)), (0, .ref b)]) hx hb dL_law_13 rfl hl (by decide) rfl (fun ls hl => ?_)
  refine lv_aload_n hx hb dL_law_14 rfl (lv_at hl 0 rfl) ?_
  refine lv_ifnonnull (tgt := 20) hx hb dL_law_15 (by decide) ?_
  refine lv_iconst (v := 0) hx hb dL_law_20 (by decide) ?_
  refine lv_istore_n (lv' := [(3, .int 0), (2, .ref (c9 0)), (1, .ref (a 15)), (0, .ref b)]) hx hb dL_law_21 rfl hl (by decide) rfl (fun ls hl => ?_)
  exact law_loop hlt (by omega) a hx hb hr hml hown hts hlocks hTX hX hbl hN hK 6 0 (by omega) _ _ _ _ _ _ _ _ _ _ _ _ _ _ _ _ _ _ hRb uA uD c9 r9 55534 367851 (by decide) (by decide) H1 locs1 ls hP1 hD2 hS1 (lv_sub hl [3, 2, 1, 0] rfl)
