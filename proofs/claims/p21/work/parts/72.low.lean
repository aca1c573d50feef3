def mL_below (N : Nat) (p1 : Int32) (p2 : Int32) : Option Int32 :=
  (if p2 = 0 then none else
  some ((p1 &&& (2147483647 : Int32)) - (p1 &&& (2147483647 : Int32)) / p2 * p2))
abbrev rmL_below : Room := { frames := 0, cells := 0, slots := 0, locals := 0 }
set_option maxHeartbeats 4000000 in
set_option maxRecDepth 100000 in
theorem kL_below {l : Launch} {D : va_G} {cI cJ : ClassId} (N : Nat) {p1 : Int32} {p2 : Int32} {o : Int32} (hM : mL_below N p1 p2 = some o) (sz : Nat) : Met l yL_below wsL_below rmL_below (va_Pc [.int p1, .int p2] (Pre D cI cJ (zw) sz)) (va_Qi (fun (r : Int32) (_ : Unit) => r = o) (fun _ _ => True) (fun _ => False)) 0 0 (fun _ => False) := by
  refine xofR (cc := cL_below) (maxL := 2) (ret := (some .int)) rfl (by decide) rfl ?_
  intro p e s m args below meth c ls Q A hQ hAe hx hb hr hml hown hts hlocks hN hK H locs hP hD hS hl
  replace hown : s.vm.findClass RL = some m.cls := hown
  replace hl : lv_has ls 2 [(0, .int p1), (1, .int p2)] := hl
  rw [mL_below] at hM
  refine lv_iload_n hx hb dL_below_0 rfl (lv_at hl 0 rfl) ?_
  refine lv_ldc (v := (2147483647 : Int32)) hx hb hown (hts (.constant RL 7 (2147483647)) (by decide +kernel)) dL_below_1 ?_
  refine lv_iand hx hb dL_below_3 ?_
  refine lv_iload_n hx hb dL_below_4 rfl (lv_at hl 1 rfl) ?_
  obtain ⟨hz5, hM⟩ := it_x hM
  refine lv_irem hx hb dL_below_5 hz5 ?_
  obtain rfl := Option.some.inj hM
  subst hQ hAe
  exact W.iret (v := ((p1 &&& (2147483647 : Int32)) - (p1 &&& (2147483647 : Int32)) / p2 * p2)) hx hb hr (fun t ht hW => ⟨⟨((p1 &&& (2147483647 : Int32)) - (p1 &&& (2147483647 : Int32)) / p2 * p2), (), rfl, rfl, trivial⟩, hS.F ht⟩) hS.2.2 dL_below_6
def mX5_many_4 (N : Nat) (p1 : Int32) : Nat → Int32 → Int32 → Option Int32
  | 0 => fun _ _ => none
  | n + 1 => fun v1 v2 => (if (10 : Int32) ≤ v2 then
  some v1
  else
  (mX5_many_4 N p1 n (v1 + ((p1 >>> (v2 &&& 31)) &&& (1 : Int32))) (v2 + 1)))
def mX5_many (N : Nat) (p1 : Int32) : Option Int32 :=
  (mX5_many_4 N p1 N (0 : Int32) (1 : Int32))
abbrev rmX5_many : Room := { frames := 0, cells := 0, slots := 0, locals := 0 }
set_option maxHeartbeats 4000000 in
set_option maxRecDepth 100000 in
theorem kX5_many {l : Launch} {D : va_G} {cI cJ : ClassId} (N : Nat) {p1 : Int32} {o : Int32} (hM : mX5_many N p1 = some o) (sz : Nat) : Met l yX5_many wsX5_many rmX5_many (va_Pc [.int p1] (Pre D cI cJ (zw) sz)) (va_Qi (fun (r : Int32) (_ : Unit) => r = o) (fun _ _ => True) (fun _ => False)) 0 0 (fun _ => False) := by
  refine xofR (cc := cX5_many) (maxL := 3) (ret := (some .int)) rfl (by decide) rfl ?_
  intro p e s m args below meth c ls Q A hQ hAe hx hb hr hml hown hts hlocks hN hK H locs hP hD hS hl
  replace hown : s.vm.findClass RX5 = some m.cls := hown
  replace hl : lv_has ls 3 [(0, .int p1)] := hl
  have c4 : ∀ (n : Nat), ∀ (v1 : Int32) (v2 : Int32), mX5_many_4 N p1 n v1 v2 = some o → ∀ (H : Heap) (locs : List Loc) (ls : Array Slot), va_P D vwCl (zw) H → va_S A s.heap H locs → lv_has ls 3 [(0, .int p1), (1, .int v1), (2, .int v2)] → W p l e rmX5_many s m args below meth c H locs 0 0 Q (F0 m 4 ls []) := by
    intro n
    induction n with
    | zero =>
      intro v1 v2 hM
      rw [mX5_many_4] at hM
      cases hM
    | succ n ih =>
      intro v1 v2 hM H locs ls hP hS hl
      rw [mX5_many_4] at hM
      refine lv_iload_n hx hb dX5_many_4 rfl (lv_at hl 2 rfl) ?_
      refine lv_bipush (v := 10) hx hb dX5_many_5 (by decide) ?_
      refine lv_icmp_ge (tgt := 24) hx hb dX5_many_7 (by decide) (fun hcc => ?_) (fun hcc => ?_)
      · replace hM := it_p hcc hM
        refine lv_iload_n hx hb dX5_many_24 rfl (lv_at hl 1 rfl) ?_
        obtain rfl := Option.some.inj hM
        subst hQ hAe
        exact W.iret (v := v1) hx hb hr (fun t ht hW => ⟨⟨v1, (), rfl, rfl, trivial⟩, hS.F ht⟩) hS.2.2 dX5_many_25
      · replace hM := it_n hcc hM
        refine lv_iload_n hx hb dX5_many_10 rfl (lv_at hl 1 rfl) ?_
        refine lv_iload_n hx hb dX5_many_11 rfl (lv_at hl 0 rfl) ?_
        refine lv_iload_n hx hb dX5_many_12 rfl (lv_at hl 2 rfl) ?_
        refine lv_ishr hx hb dX5_many_13 ?_
        refine lv_iconst (v := 1) hx hb dX5_many_14 (by decide) ?_
        refine lv_iand hx hb dX5_many_15 ?_
        refine lv_iadd hx hb dX5_many_16 ?_
        refine lv_istore_n (lv' := [(1, .int (v1 + ((p1 >>> (v2 &&& 31)) &&& (1 : Int32)))), (0, .int p1), (2, .int v2)]) hx hb dX5_many_17 rfl hl (by decide) rfl (fun ls hl => ?_)
        refine lv_iinc (v := (v2 + 1)) (lv' := [(2, .int (v2 + 1)), (1, .int (v1 + ((p1 >>> (v2 &&& 31)) &&& (1 : Int32)))), (0, .int p1)]) hx hb dX5_many_18 hl (k := 2) rfl (by rfl) (by decide) rfl (fun ls hl => ?_)
        refine lv_goto (tgt := 4) hx hb dX5_many_21 (by decide) ?_
        exact ih (v1 + ((p1 >>> (v2 &&& 31)) &&& (1 : Int32))) (v2 + 1) hM H locs ls hP hS (lv_sub hl [2, 1, 0] rfl)
  rw [mX5_many] at hM
  refine lv_iconst (v := 0) hx hb dX5_many_0 (by decide) ?_
  refine lv_istore_n (lv' := [(1, .int (0 : Int32)), (0, .int p1)]) hx hb dX5_many_1 rfl hl (by decide) rfl (fun ls hl => ?_)
  refine lv_iconst (v := 1) hx hb dX5_many_2 (by decide) ?_
  refine lv_istore_n (lv' := [(2, .int (1 : Int32)), (1, .int (0 : Int32)), (0, .int p1)]) hx hb dX5_many_3 rfl hl (by decide) rfl (fun ls hl => ?_)
  exact c4 N (0 : Int32) (1 : Int32) hM H locs ls hP hS (lv_sub hl [2, 1, 0] rfl)
