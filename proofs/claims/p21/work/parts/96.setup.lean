/-! ===== the law's entry: the classes, the tables' words, what a throw reads ===== -/
theorem nst_in : ∀ w ∈ nst, w ∈ lw_tbl := by decide +kernel
theorem nsz_in : Cond.methodLinkNest RL 60 yX5_init RL ∈ lw_tbl := by decide +kernel
theorem xst_in : ∀ w ∈ xst, w ∈ lw_tbl := by decide +kernel
theorem xsr_in : ∀ q ∈ xsr, Cond.stringRef RX4 q.1 q.2 ∈ lw_tbl := by decide +kernel
theorem ty_in : Cond.arrayClass .int ∈ lw_tbl ∧ Cond.arrayClass .long ∈ lw_tbl ∧ Cond.arrayClass .boolean ∈ lw_tbl ∧ Cond.arrayOver (.array .int) ∈ lw_tbl := by decide +kernel
theorem th_in : Cond.laysStatic Bundle.tN "UNASSIGNED_STACK" Bundle.steD ∈ lw_tbl ∧ Cond.laysStatic Bundle.tN "SUPPRESSED_SENTINEL" Bundle.listD ∈ lw_tbl ∧ Cond.initialized Bundle.tN ∈ lw_tbl := by decide +kernel
theorem ins_in : Cond.instantiable RX0 9 ∈ lw_tbl ∧ Cond.instantiable RX1 5 ∈ lw_tbl ∧ Cond.instantiable RX2 1 ∈ lw_tbl ∧ Cond.instantiable RX3 7 ∈ lw_tbl ∧ Cond.instantiable RX4 2 ∈ lw_tbl ∧ Cond.instantiable RX5 8 ∈ lw_tbl := by decide +kernel
theorem known {s : State} {args : Array Value} (hts : ∀ w ∈ lw_tbl, w.before args s = true) : ∃ (D : va_G) (cI cJ cB cM : ClassId), va_K D vwCl (tysZ cI cJ cB cM) s := by
  obtain ⟨n0, n1, n2, n3, n4, n5⟩ := ins_in
  obtain ⟨c0, i0, h0⟩ := u_known (C := RX0) (T := TX0) (N := 9) (n := 9) hts inX0 (hts _ n0)
  obtain ⟨c1, i1, h1⟩ := u_known (C := RX1) (T := TX1) (N := 5) (n := 5) hts inX1 (hts _ n1)
  obtain ⟨c2, i2, h2⟩ := u_known (C := RX2) (T := TX2) (N := 1) (n := 1) hts inX2 (hts _ n2)
  obtain ⟨c3, i3, h3⟩ := u_known (C := RX3) (T := TX3) (N := 7) (n := 7) hts inX3 (hts _ n3)
  obtain ⟨c4, i4, h4⟩ := u_known (C := RX4) (T := TX4) (N := 2) (n := 2) hts inX4 (hts _ n4)
  obtain ⟨c5, i5, h5⟩ := u_known (C := RX5) (T := TX5) (N := 8) (n := 8) hts inX5 (hts _ n5)
  obtain ⟨cI, kI, compI, fI1, fI2, fI3⟩ := Cond.arrayClass_spec (hts _ ty_in.1)
  obtain ⟨cJ, kJ, compJ, fJ1, fJ2, fJ3⟩ := Cond.arrayClass_spec (hts _ ty_in.2.1)
  obtain ⟨cB, kB, compB, fB1, fB2, fB3⟩ := Cond.arrayClass_spec (hts _ ty_in.2.2.1)
  obtain ⟨compM, cM, kM, fM0, fM2, fM3, fM1⟩ := Cond.arrayOver_specA (hts _ ty_in.2.2.2)
  refine ⟨(fun k => match k with | 0 => c0 | 1 => c1 | 2 => c2 | 3 => c3 | 4 => c4 | _ => c5, fun k => match k with | 0 => i0 | 1 => i1 | 2 => i2 | 3 => i3 | 4 => i4 | _ => i5), cI, cJ, cB, cM, ?_, ?_⟩
  · intro k q hq
    match k, hq with
    | 0, hq => cases hq; exact h0
    | 1, hq => cases hq; exact h1
    | 2, hq => cases hq; exact h2
    | 3, hq => cases hq; exact h3
    | 4, hq => cases hq; exact h4
    | 5, hq => cases hq; exact h5
    | k + 6, hq => simp [vwCl] at hq
  · intro k q hq
    match k, hq with
    | 0, hq => cases hq; exact ⟨fun n z => ⟨fun k h => (by cases h), kI, fI2, compI, fI3⟩, fI1⟩
    | 1, hq => cases hq; exact ⟨fun n z => ⟨fun k h => (by cases h), kJ, fJ2, compJ, fJ3⟩, fJ1⟩
    | 2, hq => cases hq; exact ⟨fun n z => ⟨fun k h => (by cases h), kB, fB2, compB, fB3⟩, fB1⟩
    | 3, hq => cases hq; exact ⟨fun n z => ⟨fun k h => (by cases h), kM, fM2, compM, fM3⟩, fM1⟩
    | k + 4, hq => simp at hq
theorem nests {s : State} {args : Array Value} (hts : ∀ w ∈ lw_tbl, w.before args s = true) : NZ s := by
  refine ⟨?_, va_AOA.of (hts _ ty_in.2.2.2), va_Nw.of rfl (hts _ nsz_in)⟩
  intro w hw
  have h1 := hts w (nst_in w hw)
  simp only [nst, List.mem_cons, List.not_mem_nil, or_false] at hw
  rcases hw with rfl | rfl | rfl | rfl | rfl | rfl | rfl <;> exact va_Nw.of rfl h1
theorem throws {s : State} {args : Array Value} {cX : ClassId} (hts : ∀ w ∈ lw_tbl, w.before args s = true) (hX4 : s.vm.findClass RX4 = some cX) (hgv : (Jvm.Cond.and given_1 narrow_1).before args s = true) : TX (fun q : Nat => s.heap.size ≤ q) s s.heap := by
  have hf := flat_of_before _ hgv
  have hA : ∀ a : Nat, a < s.heap.size → ¬ (fun q : Nat => s.heap.size ≤ q) a := fun a h => Nat.not_le.mpr h
  obtain ⟨t1, t2, t3⟩ := th_in
  refine ⟨vx_Zqof (hts _ t1) (hts _ t3) (hf _ (by decide +kernel)) hA, vx_Zqof (hts _ t2) (hts _ t3) (hf _ (by decide +kernel)) hA, ?_, ?_, trivial⟩
  · intro w hw
    have h1 := hts w (xst_in w hw)
    simp only [xst, List.mem_cons, List.not_mem_nil, or_false] at hw
    rcases hw with rfl | rfl | rfl | rfl | rfl | rfl <;> exact va_Nw.of rfl h1
  · intro q hq
    have h1 := hts _ (xsr_in q hq)
    obtain ⟨k, cf, i, sa, -, -, -, -, -, hev⟩ := Cond.stringRef_spec hX4 h1
    exact ⟨sa, vk_R.of h1 hev⟩
