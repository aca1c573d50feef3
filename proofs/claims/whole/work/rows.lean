section
-- ===== PART A: goes FIRST, ahead of the names: the tables' words, and 'selects' of the private methods out of them =====
/-- a private method of a class that the tables say can be made, by its rows of tables_1 -/
def lw_okq (q : MethodName × Nat) : Prop := (q.1.cls ≠ "java/lang/invoke/MethodHandle" ∧ q.1.cls ≠ "java/lang/invoke/VarHandle") ∧ Cond.instantiable q.1.cls q.2 ∈ tables_1 ∧ Cond.privateMethod q.1 ∈ tables_1 ∧ Cond.instanceMethod q.1 ∈ tables_1
theorem lw_p0 : lw_okq (⟨"CryptSums$Partitions", "keepSums", "(IIJ)V"⟩, 1) := ⟨⟨by decide +kernel, by decide +kernel⟩, List.mem_of_getElem? (i := 30) (by decide +kernel), List.mem_of_getElem? (i := 36) (by decide +kernel), List.mem_of_getElem? (i := 37) (by decide +kernel)⟩
theorem lw_p1 : lw_okq (⟨"CryptSums$Partitions", "addHighest", "(II)V"⟩, 1) := ⟨⟨by decide +kernel, by decide +kernel⟩, List.mem_of_getElem? (i := 30) (by decide +kernel), List.mem_of_getElem? (i := 40) (by decide +kernel), List.mem_of_getElem? (i := 41) (by decide +kernel)⟩
theorem lw_p2 : lw_okq (⟨"CryptSums$Partitions", "sumsOf", "(II)J"⟩, 1) := ⟨⟨by decide +kernel, by decide +kernel⟩, List.mem_of_getElem? (i := 30) (by decide +kernel), List.mem_of_getElem? (i := 44) (by decide +kernel), List.mem_of_getElem? (i := 45) (by decide +kernel)⟩
theorem lw_p3 : lw_okq (⟨"CryptSums$Floor", "joinCells", "()V"⟩, 5) := ⟨⟨by decide +kernel, by decide +kernel⟩, List.mem_of_getElem? (i := 24) (by decide +kernel), List.mem_of_getElem? (i := 100) (by decide +kernel), List.mem_of_getElem? (i := 101) (by decide +kernel)⟩
theorem lw_p4 : lw_okq (⟨"CryptSums$Corridors", "look", "(I)V"⟩, 9) := ⟨⟨by decide +kernel, by decide +kernel⟩, List.mem_of_getElem? (i := 54) (by decide +kernel), List.mem_of_getElem? (i := 191) (by decide +kernel), List.mem_of_getElem? (i := 192) (by decide +kernel)⟩
theorem lw_p5 : lw_okq (⟨"CryptSums$Corridors", "sawAlike", "()Z"⟩, 9) := ⟨⟨by decide +kernel, by decide +kernel⟩, List.mem_of_getElem? (i := 54) (by decide +kernel), List.mem_of_getElem? (i := 195) (by decide +kernel), List.mem_of_getElem? (i := 196) (by decide +kernel)⟩
theorem lw_p6 : lw_okq (⟨"CryptSums$Floor", "wellOf", "(LCryptSums$Corridors;)I"⟩, 5) := ⟨⟨by decide +kernel, by decide +kernel⟩, List.mem_of_getElem? (i := 24) (by decide +kernel), List.mem_of_getElem? (i := 233) (by decide +kernel), List.mem_of_getElem? (i := 234) (by decide +kernel)⟩
theorem lw_p7 : lw_okq (⟨"CryptSums$Floor", "corridorsOf", "(LCryptSums$Corridors;)I"⟩, 5) := ⟨⟨by decide +kernel, by decide +kernel⟩, List.mem_of_getElem? (i := 24) (by decide +kernel), List.mem_of_getElem? (i := 245) (by decide +kernel), List.mem_of_getElem? (i := 246) (by decide +kernel)⟩
theorem lw_p8 : lw_okq (⟨"CryptSums$Search", "collectHoles", "()V"⟩, 7) := ⟨⟨by decide +kernel, by decide +kernel⟩, List.mem_of_getElem? (i := 127) (by decide +kernel), List.mem_of_getElem? (i := 249) (by decide +kernel), List.mem_of_getElem? (i := 250) (by decide +kernel)⟩
theorem lw_p9 : lw_okq (⟨"CryptSums$Search", "keepFilling", "()V"⟩, 7) := ⟨⟨by decide +kernel, by decide +kernel⟩, List.mem_of_getElem? (i := 127) (by decide +kernel), List.mem_of_getElem? (i := 259) (by decide +kernel), List.mem_of_getElem? (i := 260) (by decide +kernel)⟩
theorem lw_p10 : lw_okq (⟨"CryptSums$Search", "isOver", "()Z"⟩, 7) := ⟨⟨by decide +kernel, by decide +kernel⟩, List.mem_of_getElem? (i := 127) (by decide +kernel), List.mem_of_getElem? (i := 269) (by decide +kernel), List.mem_of_getElem? (i := 270) (by decide +kernel)⟩
theorem lw_p11 : lw_okq (⟨"CryptSums$Search", "isUnknown", "()Z"⟩, 7) := ⟨⟨by decide +kernel, by decide +kernel⟩, List.mem_of_getElem? (i := 127) (by decide +kernel), List.mem_of_getElem? (i := 273) (by decide +kernel), List.mem_of_getElem? (i := 274) (by decide +kernel)⟩
theorem lw_p12 : lw_okq (⟨"CryptSums$Floor", "openCells", "()I"⟩, 5) := ⟨⟨by decide +kernel, by decide +kernel⟩, List.mem_of_getElem? (i := 24) (by decide +kernel), List.mem_of_getElem? (i := 316) (by decide +kernel), List.mem_of_getElem? (i := 317) (by decide +kernel)⟩
theorem lw_p13 : lw_okq (⟨"CryptSums$Floor", "stonesLaid", "()I"⟩, 5) := ⟨⟨by decide +kernel, by decide +kernel⟩, List.mem_of_getElem? (i := 24) (by decide +kernel), List.mem_of_getElem? (i := 324) (by decide +kernel), List.mem_of_getElem? (i := 325) (by decide +kernel)⟩
theorem lw_p14 : lw_okq (⟨"CryptSums$Floor", "summedOf", "(LCryptSums$Corridors;)I"⟩, 5) := ⟨⟨by decide +kernel, by decide +kernel⟩, List.mem_of_getElem? (i := 24) (by decide +kernel), List.mem_of_getElem? (i := 328) (by decide +kernel), List.mem_of_getElem? (i := 329) (by decide +kernel)⟩
theorem lw_p15 : lw_okq (⟨"CryptSums$Floor", "holesWithChoices", "(I)I"⟩, 5) := ⟨⟨by decide +kernel, by decide +kernel⟩, List.mem_of_getElem? (i := 24) (by decide +kernel), List.mem_of_getElem? (i := 336) (by decide +kernel), List.mem_of_getElem? (i := 337) (by decide +kernel)⟩
def lw_privs_1 : List (MethodName × Nat) := [(⟨"CryptSums$Partitions", "keepSums", "(IIJ)V"⟩, 1), (⟨"CryptSums$Partitions", "addHighest", "(II)V"⟩, 1), (⟨"CryptSums$Partitions", "sumsOf", "(II)J"⟩, 1), (⟨"CryptSums$Floor", "joinCells", "()V"⟩, 5), (⟨"CryptSums$Corridors", "look", "(I)V"⟩, 9), (⟨"CryptSums$Corridors", "sawAlike", "()Z"⟩, 9), (⟨"CryptSums$Floor", "wellOf", "(LCryptSums$Corridors;)I"⟩, 5), (⟨"CryptSums$Floor", "corridorsOf", "(LCryptSums$Corridors;)I"⟩, 5), (⟨"CryptSums$Search", "collectHoles", "()V"⟩, 7), (⟨"CryptSums$Search", "keepFilling", "()V"⟩, 7), (⟨"CryptSums$Search", "isOver", "()Z"⟩, 7), (⟨"CryptSums$Search", "isUnknown", "()Z"⟩, 7), (⟨"CryptSums$Floor", "openCells", "()I"⟩, 5), (⟨"CryptSums$Floor", "stonesLaid", "()I"⟩, 5), (⟨"CryptSums$Floor", "summedOf", "(LCryptSums$Corridors;)I"⟩, 5), (⟨"CryptSums$Floor", "holesWithChoices", "(I)I"⟩, 5)]
theorem lw_r1 : ∀ q ∈ lw_privs_1, lw_okq q := List.forall_mem_cons.mpr ⟨lw_p0, List.forall_mem_cons.mpr ⟨lw_p1, List.forall_mem_cons.mpr ⟨lw_p2, List.forall_mem_cons.mpr ⟨lw_p3, List.forall_mem_cons.mpr ⟨lw_p4, List.forall_mem_cons.mpr ⟨lw_p5, List.forall_mem_cons.mpr ⟨lw_p6, List.forall_mem_cons.mpr ⟨lw_p7, List.forall_mem_cons.mpr ⟨lw_p8, List.forall_mem_cons.mpr ⟨lw_p9, List.forall_mem_cons.mpr ⟨lw_p10, List.forall_mem_cons.mpr ⟨lw_p11, List.forall_mem_cons.mpr ⟨lw_p12, List.forall_mem_cons.mpr ⟨lw_p13, List.forall_mem_cons.mpr ⟨lw_p14, List.forall_mem_cons.mpr ⟨lw_p15, fun _ h => absurd h List.not_mem_nil⟩⟩⟩⟩⟩⟩⟩⟩⟩⟩⟩⟩⟩⟩⟩⟩
theorem lw_p16 : lw_okq (⟨"CryptSums", "stirCell", "(JI)J"⟩, 2) := ⟨⟨by decide +kernel, by decide +kernel⟩, List.mem_of_getElem? (i := 16) (by decide +kernel), List.mem_of_getElem? (i := 345) (by decide +kernel), List.mem_of_getElem? (i := 346) (by decide +kernel)⟩
theorem lw_p17 : lw_okq (⟨"java/lang/Throwable", "fillInStackTrace", "(I)Ljava/lang/Throwable;"⟩, 6) := ⟨⟨by decide +kernel, by decide +kernel⟩, List.mem_of_getElem? (i := 409) (by decide +kernel), List.mem_of_getElem? (i := 407) (by decide +kernel), List.mem_of_getElem? (i := 408) (by decide +kernel)⟩
theorem lw_p18 : lw_okq (⟨"CryptSums", "checkCell", "(I)V"⟩, 2) := ⟨⟨by decide +kernel, by decide +kernel⟩, List.mem_of_getElem? (i := 16) (by decide +kernel), List.mem_of_getElem? (i := 448) (by decide +kernel), List.mem_of_getElem? (i := 449) (by decide +kernel)⟩
theorem lw_p19 : lw_okq (⟨"CryptSums", "checkOpen", "(I)V"⟩, 2) := ⟨⟨by decide +kernel, by decide +kernel⟩, List.mem_of_getElem? (i := 16) (by decide +kernel), List.mem_of_getElem? (i := 498) (by decide +kernel), List.mem_of_getElem? (i := 499) (by decide +kernel)⟩
theorem lw_p20 : lw_okq (⟨"CryptSumsModel", "link", "()V"⟩, 12) := ⟨⟨by decide +kernel, by decide +kernel⟩, List.mem_of_getElem? (i := 593) (by decide +kernel), List.mem_of_getElem? (i := 603) (by decide +kernel), List.mem_of_getElem? (i := 604) (by decide +kernel)⟩
theorem lw_p21 : lw_okq (⟨"CryptSumsModel", "no", "(I)I"⟩, 12) := ⟨⟨by decide +kernel, by decide +kernel⟩, List.mem_of_getElem? (i := 593) (by decide +kernel), List.mem_of_getElem? (i := 655) (by decide +kernel), List.mem_of_getElem? (i := 656) (by decide +kernel)⟩
theorem lw_p22 : lw_okq (⟨"CryptSumsModel", "isCell", "(I)Z"⟩, 12) := ⟨⟨by decide +kernel, by decide +kernel⟩, List.mem_of_getElem? (i := 593) (by decide +kernel), List.mem_of_getElem? (i := 663) (by decide +kernel), List.mem_of_getElem? (i := 664) (by decide +kernel)⟩
theorem lw_p23 : lw_okq (⟨"CryptSumsModel", "single", "()I"⟩, 12) := ⟨⟨by decide +kernel, by decide +kernel⟩, List.mem_of_getElem? (i := 593) (by decide +kernel), List.mem_of_getElem? (i := 679) (by decide +kernel), List.mem_of_getElem? (i := 680) (by decide +kernel)⟩
theorem lw_p24 : lw_okq (⟨"CryptSumsModel", "canOf", "(I)I"⟩, 12) := ⟨⟨by decide +kernel, by decide +kernel⟩, List.mem_of_getElem? (i := 593) (by decide +kernel), List.mem_of_getElem? (i := 683) (by decide +kernel), List.mem_of_getElem? (i := 684) (by decide +kernel)⟩
theorem lw_p25 : lw_okq (⟨"CryptSumsModel", "stands", "(II)Z"⟩, 12) := ⟨⟨by decide +kernel, by decide +kernel⟩, List.mem_of_getElem? (i := 593) (by decide +kernel), List.mem_of_getElem? (i := 687) (by decide +kernel), List.mem_of_getElem? (i := 688) (by decide +kernel)⟩
theorem lw_p26 : lw_okq (⟨"CryptSumsModel", "isWell", "(II)Z"⟩, 12) := ⟨⟨by decide +kernel, by decide +kernel⟩, List.mem_of_getElem? (i := 593) (by decide +kernel), List.mem_of_getElem? (i := 691) (by decide +kernel), List.mem_of_getElem? (i := 692) (by decide +kernel)⟩
theorem lw_p27 : lw_okq (⟨"CryptSumsModel", "beginOf", "(II)I"⟩, 12) := ⟨⟨by decide +kernel, by decide +kernel⟩, List.mem_of_getElem? (i := 593) (by decide +kernel), List.mem_of_getElem? (i := 695) (by decide +kernel), List.mem_of_getElem? (i := 696) (by decide +kernel)⟩
theorem lw_p28 : lw_okq (⟨"CryptSumsModel", "isOpen", "(I)Z"⟩, 12) := ⟨⟨by decide +kernel, by decide +kernel⟩, List.mem_of_getElem? (i := 593) (by decide +kernel), List.mem_of_getElem? (i := 699) (by decide +kernel), List.mem_of_getElem? (i := 700) (by decide +kernel)⟩
theorem lw_p29 : lw_okq (⟨"CryptSumsModel", "behind", "(II)I"⟩, 12) := ⟨⟨by decide +kernel, by decide +kernel⟩, List.mem_of_getElem? (i := 593) (by decide +kernel), List.mem_of_getElem? (i := 703) (by decide +kernel), List.mem_of_getElem? (i := 704) (by decide +kernel)⟩
theorem lw_p30 : lw_okq (⟨"CryptSumsModel", "isMade", "(III)Z"⟩, 12) := ⟨⟨by decide +kernel, by decide +kernel⟩, List.mem_of_getElem? (i := 593) (by decide +kernel), List.mem_of_getElem? (i := 707) (by decide +kernel), List.mem_of_getElem? (i := 708) (by decide +kernel)⟩
theorem lw_p31 : lw_okq (⟨"CryptSumsModel", "corridorTold", "(III)I"⟩, 12) := ⟨⟨by decide +kernel, by decide +kernel⟩, List.mem_of_getElem? (i := 593) (by decide +kernel), List.mem_of_getElem? (i := 723) (by decide +kernel), List.mem_of_getElem? (i := 724) (by decide +kernel)⟩
def lw_privs_2 : List (MethodName × Nat) := [(⟨"CryptSums", "stirCell", "(JI)J"⟩, 2), (⟨"java/lang/Throwable", "fillInStackTrace", "(I)Ljava/lang/Throwable;"⟩, 6), (⟨"CryptSums", "checkCell", "(I)V"⟩, 2), (⟨"CryptSums", "checkOpen", "(I)V"⟩, 2), (⟨"CryptSumsModel", "link", "()V"⟩, 12), (⟨"CryptSumsModel", "no", "(I)I"⟩, 12), (⟨"CryptSumsModel", "isCell", "(I)Z"⟩, 12), (⟨"CryptSumsModel", "single", "()I"⟩, 12), (⟨"CryptSumsModel", "canOf", "(I)I"⟩, 12), (⟨"CryptSumsModel", "stands", "(II)Z"⟩, 12), (⟨"CryptSumsModel", "isWell", "(II)Z"⟩, 12), (⟨"CryptSumsModel", "beginOf", "(II)I"⟩, 12), (⟨"CryptSumsModel", "isOpen", "(I)Z"⟩, 12), (⟨"CryptSumsModel", "behind", "(II)I"⟩, 12), (⟨"CryptSumsModel", "isMade", "(III)Z"⟩, 12), (⟨"CryptSumsModel", "corridorTold", "(III)I"⟩, 12)]
theorem lw_r2 : ∀ q ∈ lw_privs_2, lw_okq q := List.forall_mem_cons.mpr ⟨lw_p16, List.forall_mem_cons.mpr ⟨lw_p17, List.forall_mem_cons.mpr ⟨lw_p18, List.forall_mem_cons.mpr ⟨lw_p19, List.forall_mem_cons.mpr ⟨lw_p20, List.forall_mem_cons.mpr ⟨lw_p21, List.forall_mem_cons.mpr ⟨lw_p22, List.forall_mem_cons.mpr ⟨lw_p23, List.forall_mem_cons.mpr ⟨lw_p24, List.forall_mem_cons.mpr ⟨lw_p25, List.forall_mem_cons.mpr ⟨lw_p26, List.forall_mem_cons.mpr ⟨lw_p27, List.forall_mem_cons.mpr ⟨lw_p28, List.forall_mem_cons.mpr ⟨lw_p29, List.forall_mem_cons.mpr ⟨lw_p30, List.forall_mem_cons.mpr ⟨lw_p31, fun _ h => absurd h List.not_mem_nil⟩⟩⟩⟩⟩⟩⟩⟩⟩⟩⟩⟩⟩⟩⟩⟩
theorem lw_p32 : lw_okq (⟨"CryptSumsModel", "counted", "(I)I"⟩, 12) := ⟨⟨by decide +kernel, by decide +kernel⟩, List.mem_of_getElem? (i := 593) (by decide +kernel), List.mem_of_getElem? (i := 735) (by decide +kernel), List.mem_of_getElem? (i := 736) (by decide +kernel)⟩
theorem lw_p33 : lw_okq (⟨"CryptSumsModel", "corridors", "(I)I"⟩, 12) := ⟨⟨by decide +kernel, by decide +kernel⟩, List.mem_of_getElem? (i := 593) (by decide +kernel), List.mem_of_getElem? (i := 739) (by decide +kernel), List.mem_of_getElem? (i := 740) (by decide +kernel)⟩
theorem lw_p34 : lw_okq (⟨"CryptSumsModel", "forcedOf", "(II)I"⟩, 12) := ⟨⟨by decide +kernel, by decide +kernel⟩, List.mem_of_getElem? (i := 593) (by decide +kernel), List.mem_of_getElem? (i := 751) (by decide +kernel), List.mem_of_getElem? (i := 752) (by decide +kernel)⟩
theorem lw_p35 : lw_okq (⟨"CryptSumsModel", "look", "()V"⟩, 12) := ⟨⟨by decide +kernel, by decide +kernel⟩, List.mem_of_getElem? (i := 593) (by decide +kernel), List.mem_of_getElem? (i := 759) (by decide +kernel), List.mem_of_getElem? (i := 760) (by decide +kernel)⟩
theorem lw_p36 : lw_okq (⟨"CryptSumsModel", "isAllWell", "()Z"⟩, 12) := ⟨⟨by decide +kernel, by decide +kernel⟩, List.mem_of_getElem? (i := 593) (by decide +kernel), List.mem_of_getElem? (i := 763) (by decide +kernel), List.mem_of_getElem? (i := 764) (by decide +kernel)⟩
theorem lw_p37 : lw_okq (⟨"CryptSumsModel", "fill", "(I)V"⟩, 12) := ⟨⟨by decide +kernel, by decide +kernel⟩, List.mem_of_getElem? (i := 593) (by decide +kernel), List.mem_of_getElem? (i := 767) (by decide +kernel), List.mem_of_getElem? (i := 768) (by decide +kernel)⟩
theorem lw_p38 : lw_okq (⟨"CryptSumsModel", "isOver", "()Z"⟩, 12) := ⟨⟨by decide +kernel, by decide +kernel⟩, List.mem_of_getElem? (i := 593) (by decide +kernel), List.mem_of_getElem? (i := 774) (by decide +kernel), List.mem_of_getElem? (i := 775) (by decide +kernel)⟩
theorem lw_p39 : lw_okq (⟨"CryptSumsModel", "told", "()I"⟩, 12) := ⟨⟨by decide +kernel, by decide +kernel⟩, List.mem_of_getElem? (i := 593) (by decide +kernel), List.mem_of_getElem? (i := 778) (by decide +kernel), List.mem_of_getElem? (i := 779) (by decide +kernel)⟩
theorem lw_p40 : lw_okq (⟨"CryptSumsModel", "solvedAt", "(I)I"⟩, 12) := ⟨⟨by decide +kernel, by decide +kernel⟩, List.mem_of_getElem? (i := 593) (by decide +kernel), List.mem_of_getElem? (i := 790) (by decide +kernel), List.mem_of_getElem? (i := 791) (by decide +kernel)⟩
def lw_privs_3 : List (MethodName × Nat) := [(⟨"CryptSumsModel", "counted", "(I)I"⟩, 12), (⟨"CryptSumsModel", "corridors", "(I)I"⟩, 12), (⟨"CryptSumsModel", "forcedOf", "(II)I"⟩, 12), (⟨"CryptSumsModel", "look", "()V"⟩, 12), (⟨"CryptSumsModel", "isAllWell", "()Z"⟩, 12), (⟨"CryptSumsModel", "fill", "(I)V"⟩, 12), (⟨"CryptSumsModel", "isOver", "()Z"⟩, 12), (⟨"CryptSumsModel", "told", "()I"⟩, 12), (⟨"CryptSumsModel", "solvedAt", "(I)I"⟩, 12)]
theorem lw_r3 : ∀ q ∈ lw_privs_3, lw_okq q := List.forall_mem_cons.mpr ⟨lw_p32, List.forall_mem_cons.mpr ⟨lw_p33, List.forall_mem_cons.mpr ⟨lw_p34, List.forall_mem_cons.mpr ⟨lw_p35, List.forall_mem_cons.mpr ⟨lw_p36, List.forall_mem_cons.mpr ⟨lw_p37, List.forall_mem_cons.mpr ⟨lw_p38, List.forall_mem_cons.mpr ⟨lw_p39, List.forall_mem_cons.mpr ⟨lw_p40, fun _ h => absurd h List.not_mem_nil⟩⟩⟩⟩⟩⟩⟩⟩⟩
def lw_privs : List (MethodName × Nat) := lw_privs_1 ++ (lw_privs_2 ++ (lw_privs_3))
def lw_tbl : List Cond := k2_sels lw_privs ++ tables_1
theorem lw_privs_ok : ∀ q ∈ lw_privs, lw_okq q := by
  show ∀ q ∈ lw_privs_1 ++ (lw_privs_2 ++ (lw_privs_3)), lw_okq q
  exact List.forall_mem_append.mpr ⟨lw_r1, List.forall_mem_append.mpr ⟨lw_r2, lw_r3⟩⟩
/-- the streams that the claim lets the run draw from -/
abbrev lw_cs : List Choice := [Jvm.Choice.named "NaN.bits"]
theorem lw_bits : nanBits ∈ lw_cs := by first | decide | exact List.mem_cons_self | simp [lw_cs, nanBits]
-- ===== end of PART A; then your names; then what follows =====
end
section
/-! ===== BEGIN words of one list among another's, by their places ===== -/
theorem goodIn_r {big : List Cond} (ws : List Cond) (ps : List Nat) (hp : ws = ps.filterMap (fun i => big[i]?)) (h : ws.all goodWord = true) : GoodIn big ws := by
  intro w hw
  have h1 := List.all_eq_true.mp h w hw
  rw [hp] at hw
  obtain ⟨i, -, hi⟩ := List.mem_filterMap.mp hw
  have hm : w ∈ big := by first | exact List.mem_of_getElem? hi | exact List.getElem?_mem hi
  exact ⟨hm, good_of_word h1⟩
theorem goodIn_app {big a b : List Cond} (ha : GoodIn big a) (hb : GoodIn big b) : GoodIn big (a ++ b) := fun w h => (List.mem_append.mp h).elim (ha w) (hb w)
theorem goodIn_ca {big a b : List Cond} {c : Cond} (ha : GoodIn big (c :: a)) (hb : GoodIn big b) : GoodIn big (c :: (a ++ b)) := fun w h => (List.mem_cons.mp h).elim (fun e => ha w (List.mem_cons.mpr (Or.inl e))) (fun h => (List.mem_append.mp h).elim (fun h => ha w (List.mem_cons.mpr (Or.inr h))) (hb w))
theorem goodIn_sub {big ws : List Cond} (hm : ∀ w ∈ ws, w ∈ big) (h : ws.all goodWord = true) : GoodIn big ws := fun w hw => ⟨hm w hw, good_of_word (List.all_eq_true.mp h w hw)⟩
/-! ===== END ===== -/

/-! ===== BEGIN exceptions that leave a method, and their catching by the caller (launches without stack traces) ===== -/
section VXA
/-! The laws vx_back, vx_callV, vx_callS, vx_callSW, vx_throw0, vx_throwS follow proofs of the library, with one case more: JvmDerived/Free/Laws.lean (Back.of_free), Shelf42/LK1.lean (callV, callS), Shelf/KitTraced.lean (throwNew0V, throwNewS). -/
/-- where a method has thrown q: the class by its name, the cell, what was written, the world -/
def vx_T (XC : String → State → State → Prop) (st : State) (q : Addr) (t : State) (mc ms : Nat) (free : Addr → Prop) : Prop :=
  ∃ (E : String) (ce : Cell) (L : List Loc), XC E st t ∧ t.heap[q]? = some ce ∧ ce.vm = .none ∧ st.vm.findClass E = some ce.cls ∧ st.WarmedH t.vm ∧ st.sameButNew ({ t with vm := st.vm } : State) L mc ms ∧ ∀ z ∈ L, free z.base
def vx_Q (Qc : Array Value → State → Outcome → State → Prop) (XC : String → State → State → Prop) (mc ms : Nat) (free : Addr → Prop) : Array Value → State → Outcome → State → Prop := fun a st o t =>
  (Qc a st o t ∧ ∃ L, FrameEnd st o t L mc ms ∧ ∀ q ∈ L, free q.base) ∨ ∃ q, o = .threw q ∧ vx_T XC st q t mc ms free
/-- a callee that returns or throws -/
def vx_Met (l : Launch) (y : MethodName) (ws : List Cond) (rm : Room) (Pc : Array Value → State → Prop) (Qc : Array Value → State → Outcome → State → Prop) (XC : String → State → State → Prop) (mc ms : Nat) (free : Addr → Prop) : Prop :=
  MetFree l y (headSpec ws rm) Pc (fun _ _ _ _ _ => True) (vx_Q Qc XC mc ms free)
def vx_Post (XC : String → State → State → Prop) (mc ms : Nat) (free : Addr → Prop) : Pt → Array Value → Addr → Pt → Prop := fun A a q B =>
  ∃ (g : JFrame) (mk : MethodId) (t : State) (L : List Loc) (E : String) (ce : Cell), B.U.heap = t.heap ∧ B.U.vm = t.vm ∧ XC E (A.U.calling g mk a) t ∧ t.heap[q]? = some ce ∧ ce.vm = .none ∧ A.U.vm.findClass E = some ce.cls ∧ B.locs = A.locs ++ L ∧ (∀ z ∈ L, free z.base) ∧ B.cells = A.cells + mc ∧ B.slots = A.slots + ms
def vx_Back (l : Launch) (R : Room) (p : Program) (e : Env) (below : List Frame) (s : State) (sargs : Array Value) (y : MethodName) (len W9 : Nat)
    (Pre : Pt → Array Value → Prop) (Post : Pt → Array Value → Option Value → Pt → Prop) (PostX : Pt → Array Value → Addr → Pt → Prop) : Prop :=
  ∀ (m : MethodId) (meth : Method) (c : Code) (A : Pt) (g : JFrame) (ig : Instr) (mk : MethodId) (a : Array Value),
    Stand p l e R s m sargs below meth c A.U A.locs A.cells A.slots → g.method = m → g.locals.size = c.maxLocals → decode c.code g.pc = .ok (ig, len) →
    2 * g.monitorRoom + (g.stack.map fun v => v.category).sum ≤ W9 → A.U.methodNamed? y = some mk → Pre A a →
    (∃ (v : Option Value) (B : Pt), Stand p l e R s m sargs below meth c B.U B.locs B.cells B.slots ∧ Post A a v B ∧
      Steps p.tables e below (doInvoke e (A.U.setTop g) [] mk a).1 (B.U.setTop { g with pc := g.pc + len, stack := v.toList ++ g.stack })) ∨
    (∃ (q : Addr) (B : Pt), Stand p l e R s m sargs below meth c B.U B.locs B.cells B.slots ∧ PostX A a q B ∧
      Steps p.tables e below (doInvoke e (A.U.setTop g) [] mk a).1 ((B.U.setTop g).pushFrame (.throwing q)))
section Payer
variable {l : Launch} {R : Room} {p : Program} {e : Env} {below : List Frame} {s : State} {sargs : Array Value} {y : MethodName} {len W9 : Nat}
theorem vx_back {ws : List Cond} {rm : Room} {Pc : Array Value → State → Prop} {Qc : Array Value → State → Outcome → State → Prop} {XC : String → State → State → Prop} {mc ms : Nat} {free : Addr → Prop} {bytes : ByteArray} {maxL : Nat} {ret : Option FieldType}
    (hM : vx_Met l y ws rm Pc Qc XC mc ms free) (hblind : FrameBlind Pc) (hrc : rm.cells = mc) (hrs : rm.slots = ms)
    (hframes : rm.frames + 1 ≤ R.frames) (hlocals : W9 + (maxL + 11) + rm.locals ≤ R.locals)
    (hws : ∀ w ∈ ws, ∀ a' U, s.WarmedH U.vm → w.before a' U = true) (hcode : Cond.code y bytes maxL ret ∈ ws) (hinit : ∀ a' U, s.WarmedH U.vm → (Cond.initialized y.cls).before a' U = true) :
    vx_Back l R p e below s sargs y len W9 (PreOf R mc ms Pc) (PostOf Qc mc ms free) (vx_Post XC mc ms free) := by
  intro m meth c A g ig mk a X hg hsize hdg hW hn hp
  have h1 : (headSpec ws rm).pre.before a A.U = true := atoms_intro fun w hw => hws w hw _ _ X.warmed
  have h2 : (Cond.code y bytes maxL ret).before a A.U = true := hws _ hcode _ _ X.warmed
  have h3 : (Cond.initialized y.cls).before a A.U = true := hinit _ _ X.warmed
  have h4 : A.cells + (headSpec ws rm).room.cells ≤ R.cells := by rw [show (headSpec ws rm).room.cells = mc from hrc]; exact hp.1
  have h5 : A.slots + (headSpec ws rm).room.slots ≤ R.slots := by rw [show (headSpec ws rm).room.slots = ms from hrs]; exact hp.2.1
  have hPc : Pc a (A.U.calling g mk a) := hblind _ _ _ _ hp.2.2
  obtain ⟨U, Ls, c0, s0⟩ := A
  dsimp only [Pt.U, Pt.locs, Pt.cells, Pt.slots] at h1 h2 h3 h4 h5 X hn hPc ⊢
  obtain ⟨methY, cY, hmY, hcY, -, hlY, -, -, -, -⟩ := Cond.code_spec hn h2
  obtain ⟨kY, hkY, -⟩ := className_of_methodNamed hn
  have hinitY : kY.init = .initialized := Cond.initialized_spec (findClass_of_methodNamed hn) hkY h3
  have h : At U g.method c below := by rw [hg]; exact X.here
  have hlocals9 : W9 + (maxL + 11) + (headSpec ws rm).room.locals ≤ R.locals := hlocals
  have happ : (headSpec ws rm).appliesLoose y e.platform (U.calling g mk a) = true :=
    Spec.appliesLoose_calling (g := g) h hdg hn hkY hinitY
      (X.room_calling (g := g) (R' := (headSpec ws rm).room) hsize hmY hcY hframes (by rw [hlY]; omega) h4 h5) h1
  obtain ⟨mid, hmid⟩ := h.above
  have hfr : (U.setTop g).frames = (.java g :: mid) ++ below := by rw [State.frames_setTop' g h.top, hmid]; rfl
  obtain ⟨o, s₂, hsteps, -, hend, hq⟩ := Steps.callFree hM p X.admits X.cas X.clock (acts := []) hfr happ hPc trivial
  have hq' : vx_Q Qc XC mc ms free a (U.calling g mk a) o s₂ := hq
  rw [State.frames_setTop' g h.top] at hend
  obtain ⟨g₀, hg0⟩ := Option.isSome_iff_exists.mp h.top
  obtain ⟨r, hr⟩ := State.topJava?_eq_some.mp hg0
  have hr' : (({ U with heap := s₂.heap, slotsUsed := s₂.slotsUsed } : State).setVm s₂.vm).frames = .java g₀ :: r := hr
  rcases hq' with ⟨hqc, L, hfe, hL⟩ | ⟨q, rfl, E, ce, L, hx, hce, hcv, hcl, hW₂, hsm, hL⟩
  · obtain ⟨⟨v, rfl⟩, hW₂, e2, q2, q3, q4, q5, q6⟩ := id hfe
    have e3 : s₂ = ({ (U.calling g mk a).setFrames s₂.frames with heap := s₂.heap, slotsUsed := s₂.slotsUsed } : State).setVm s₂.vm := by
      have : s₂ = ({ s₂ with vm := (U.calling g mk a).vm } : State).setVm s₂.vm := rfl
      rw [e2] at this
      exact this
    obtain ⟨c₂, i₂, len₂, hc₂, hd₂, hf₂⟩ := hend
    have hW' : U.WarmedH s₂.vm := hW₂
    have hcc : c₂ = c := by
      have h1 : s₂.code? g.method = U.code? g.method := by
        rw [State.code?_eq, State.code?_eq, hW'.alike.method?]
      exact Option.some.inj (hc₂.symm.trans (h1.trans h.code))
    subst hcc
    have hlen : len₂ = len := by rw [hdg] at hd₂; cases hd₂; rfl
    subst hlen
    have hs₂ : s₂ = (({ U with heap := s₂.heap, slotsUsed := s₂.slotsUsed } : State).setVm s₂.vm).setTop { g with pc := g.pc + len₂, stack := v.toList ++ g.stack } := by
      refine e3.trans ?_
      rw [hf₂, State.calling_eq h.top, State.setFrames_setFrames, State.setTop_of_frames _ hr', hr]
      rfl
    have hsame : U.sameButNew ({ U with heap := s₂.heap, slotsUsed := s₂.slotsUsed } : State) L mc ms := by
      refine ⟨?_, q2, q3, q4, q5, q6⟩
      obtain ⟨t, ht, -⟩ := State.frames_cons hr
      show ({ U with heap := s₂.heap, slotsUsed := s₂.slotsUsed } : State) = { U.setFrames U.frames with heap := s₂.heap, slotsUsed := s₂.slotsUsed }
      rw [State.setFrames_self ht]
    subst hg
    refine Or.inl ⟨v, ⟨(({ U with heap := s₂.heap, slotsUsed := s₂.slotsUsed } : State).setVm s₂.vm), Ls ++ L, c0 + mc, s0 + ms⟩,
      ⟨X.admits, X.cas, X.clock, X.frames, X.room, X.hears, X.method, X.code, (X.here.setHeapUsed s₂.heap s₂.slotsUsed).setVm hW'.alike, X.tail, State.WarmedH.trans X.warmed hW', X.limits, X.bytes, X.same.trans (hsame.setVm s.vm)⟩,
      ⟨g, mk, s₂, L, rfl, rfl, hqc, rfl, hL, rfl, rfl⟩, ?_⟩
    show Steps p.tables e below _ ((({ U with heap := s₂.heap, slotsUsed := s₂.slotsUsed } : State).setVm s₂.vm).setTop { g with pc := g.pc + len₂, stack := v.toList ++ g.stack })
    rw [← hs₂]
    exact hsteps
  · obtain ⟨e2, q2, q3, q4, q5, q6⟩ := id hsm
    have e3 : s₂ = ({ (U.calling g mk a).setFrames s₂.frames with heap := s₂.heap, slotsUsed := s₂.slotsUsed } : State).setVm s₂.vm := by
      have : s₂ = ({ s₂ with vm := (U.calling g mk a).vm } : State).setVm s₂.vm := rfl
      rw [e2] at this
      exact this
    have hf₂ : s₂.frames = .throwing q :: .java g :: U.frames.tail := hend
    have hW' : U.WarmedH s₂.vm := hW₂
    have hs₂ : s₂ = ((({ U with heap := s₂.heap, slotsUsed := s₂.slotsUsed } : State).setVm s₂.vm).setTop g).pushFrame (.throwing q) := by
      refine e3.trans ?_
      rw [hf₂, State.calling_eq h.top, State.setFrames_setFrames, State.pushFrame, State.frames_setTop _ hr', State.setTop_of_frames _ hr', State.setFrames_setFrames, hr]
      rfl
    have hsame : U.sameButNew ({ U with heap := s₂.heap, slotsUsed := s₂.slotsUsed } : State) L mc ms := by
      refine ⟨?_, q2, q3, q4, q5, q6⟩
      obtain ⟨t, ht, -⟩ := State.frames_cons hr
      show ({ U with heap := s₂.heap, slotsUsed := s₂.slotsUsed } : State) = { U.setFrames U.frames with heap := s₂.heap, slotsUsed := s₂.slotsUsed }
      rw [State.setFrames_self ht]
    subst hg
    refine Or.inr ⟨q, ⟨(({ U with heap := s₂.heap, slotsUsed := s₂.slotsUsed } : State).setVm s₂.vm), Ls ++ L, c0 + mc, s0 + ms⟩,
      ⟨X.admits, X.cas, X.clock, X.frames, X.room, X.hears, X.method, X.code, (X.here.setHeapUsed s₂.heap s₂.slotsUsed).setVm hW'.alike, X.tail, State.WarmedH.trans X.warmed hW', X.limits, X.bytes, X.same.trans (hsame.setVm s.vm)⟩,
      ⟨g, mk, s₂, L, E, ce, rfl, rfl, hx, hce, hcv, hcl, rfl, hL, rfl, rfl⟩, ?_⟩
    show Steps p.tables e below _ (((({ U with heap := s₂.heap, slotsUsed := s₂.slotsUsed } : State).setVm s₂.vm).setTop g).pushFrame (.throwing q))
    rw [← hs₂]
    exact hsteps
end Payer
section Calls
variable {p : Program} {l : Launch} {e : Env} {R : Room} {s : State} {m : MethodId} {args : Array Value} {below : List Frame} {meth : Method} {c : Code} {T : State} {locs : List Loc} {cells slots : Nat}
theorem vx_callV (X : Stand p l e R s m args below meth c T locs cells slots) (hexec : p.tables.exec = Jvm.exec) {own C : String} {index : Nat} {y : MethodName} {bytes : ByteArray} {maxL : Nat} {ret : Option FieldType}
    (hown : s.vm.findClass own = some m.cls) (hlink : (Cond.methodLink own index y).before args s = true) (hinst : (Cond.instanceMethod y).before args s = true) (hsel : (Cond.selects C y y).before args s = true)
    (hcode : (Cond.code y bytes maxL ret).before args s = true) (hy : y.cls ≠ "java/lang/invoke/MethodHandle" ∧ y.cls ≠ "java/lang/invoke/VarHandle")
    {W9 : Nat} {Pre : Pt → Array Value → Prop} {Post : Pt → Array Value → Option Value → Pt → Prop} {PostX : Pt → Array Value → Addr → Pt → Prop} (hK : vx_Back l R p e below s args y 3 W9 Pre Post PostX)
    {b : Addr} {cellB : Cell} (hcell : T.heap[b]? = some cellB) (hobj : cellB.vm.isStatics = false) (hcls : s.vm.findClass C = some cellB.cls)
    {g : JFrame} (hg : g.method = m) (hsize : g.locals.size = c.maxLocals) {argsL rest : List Value} (hlen : ∀ sig, parseMethodDescriptor y.desc = some sig → argsL.length = sig.parameters.length)
    (hstack : g.stack = argsL.reverse ++ .ref b :: rest) (hW : 2 * g.monitorRoom + (rest.map fun v => v.category).sum ≤ W9) (hdg : decode c.code g.pc = .ok (.invokevirtual index, 3))
    (hpre : ∀ vm₁, s.WarmedH vm₁ → Pre ⟨T.setVm vm₁, locs, cells, slots⟩ (Value.ref b :: argsL).toArray) :
    (∃ (v : Option Value) (vm₁ : Vm) (B : Pt), s.WarmedH vm₁ ∧ Stand p l e R s m args below meth c B.U B.locs B.cells B.slots ∧ Post ⟨T.setVm vm₁, locs, cells, slots⟩ (Value.ref b :: argsL).toArray v B ∧
      ∀ target, Steps p.tables e below (B.U.setTop { g with pc := g.pc + 3, stack := v.toList ++ rest }) target → Steps p.tables e below (T.setTop g) target) ∨
    (∃ (q : Addr) (vm₁ : Vm) (B : Pt), s.WarmedH vm₁ ∧ Stand p l e R s m args below meth c B.U B.locs B.cells B.slots ∧ PostX ⟨T.setVm vm₁, locs, cells, slots⟩ (Value.ref b :: argsL).toArray q B ∧
      Steps p.tables e below (T.setTop g) ((B.U.setTop { g with stack := rest }).pushFrame (.throwing q))) := by
  obtain ⟨mk, methM, hnamed, hmethM, hstM, habM⟩ := Cond.instanceMethod_spec hinst
  obtain ⟨methM', cM, hmethM', -, -, -, -, -, -, hsigM⟩ := Cond.code_spec hnamed hcode
  cases hmethM.symm.trans hmethM'
  obtain ⟨c2, r2, m2, q1, q2, q3, q4, kP, hkP, hkPi⟩ := Cond.selects_spec hsel
  cases hcls.symm.trans q1
  cases (State.methodFound?_of_named hnamed hy).symm.trans q2
  cases hnamed.symm.trans q3
  have hselP : selectMethod e.platform s.vm cellB.cls mk = .method mk := by rw [Launch.admits_selectMethod X.admits]; exact q4
  obtain ⟨vm₁, X₁, hstep₁⟩ := X.invokevirtual hexec hown hlink hnamed hmethM hstM hkP hkPi hy (a := b) (cell := cellB) hcell
    (fun z h => by rw [h] at hobj; cases hobj) hselP hmethM habM hkP hkPi (g := g) hg (argsL := argsL) (rest := rest) (hlen _ hsigM) hstack hdg
  rcases hK m meth c ⟨T.setVm vm₁, locs, cells, slots⟩ { g with stack := rest } (.invokevirtual index) mk (Value.ref b :: argsL).toArray X₁ hg hsize hdg hW (X₁.named hnamed) (hpre vm₁ X₁.warmed) with ⟨v, B, X', hpost, hsteps⟩ | ⟨q, B, X', hpost, hsteps⟩
  · exact Or.inl ⟨v, vm₁, B, X₁.warmed, X', hpost, fun target h => hstep₁ _ fun acts => by rw [doInvoke_state]; exact hsteps.trans h⟩
  · exact Or.inr ⟨q, vm₁, B, X₁.warmed, X', hpost, hstep₁ _ fun acts => by rw [doInvoke_state]; exact hsteps⟩
theorem vx_callS (X : Stand p l e R s m args below meth c T locs cells slots) (hexec : p.tables.exec = Jvm.exec) {own : String} {index : Nat} {y : MethodName} {bytes : ByteArray} {maxL : Nat} {ret : Option FieldType}
    (hown : s.vm.findClass own = some m.cls) (hlink : (Cond.methodLink own index y).before args s = true) (hstat : (Cond.static y).before args s = true) (hinit : (Cond.initialized y.cls).before args s = true)
    (hcode : (Cond.code y bytes maxL ret).before args s = true) (hy : y.cls ≠ "java/lang/invoke/MethodHandle" ∧ y.cls ≠ "java/lang/invoke/VarHandle")
    {W9 : Nat} {Pre : Pt → Array Value → Prop} {Post : Pt → Array Value → Option Value → Pt → Prop} {PostX : Pt → Array Value → Addr → Pt → Prop} (hK : vx_Back l R p e below s args y 3 W9 Pre Post PostX)
    {g : JFrame} (hg : g.method = m) (hsize : g.locals.size = c.maxLocals) {argsL rest : List Value} (hlen : ∀ sig, parseMethodDescriptor y.desc = some sig → argsL.length = sig.parameters.length)
    (hstack : g.stack = argsL.reverse ++ rest) (hW : 2 * g.monitorRoom + (rest.map fun v => v.category).sum ≤ W9) (hdg : decode c.code g.pc = .ok (.invokestatic index, 3))
    (hpre : ∀ vm₁, s.WarmedH vm₁ → Pre ⟨T.setVm vm₁, locs, cells, slots⟩ argsL.toArray) :
    (∃ (v : Option Value) (vm₁ : Vm) (B : Pt), s.WarmedH vm₁ ∧ Stand p l e R s m args below meth c B.U B.locs B.cells B.slots ∧ Post ⟨T.setVm vm₁, locs, cells, slots⟩ argsL.toArray v B ∧
      ∀ target, Steps p.tables e below (B.U.setTop { g with pc := g.pc + 3, stack := v.toList ++ rest }) target → Steps p.tables e below (T.setTop g) target) ∨
    (∃ (q : Addr) (vm₁ : Vm) (B : Pt), s.WarmedH vm₁ ∧ Stand p l e R s m args below meth c B.U B.locs B.cells B.slots ∧ PostX ⟨T.setVm vm₁, locs, cells, slots⟩ argsL.toArray q B ∧
      Steps p.tables e below (T.setTop g) ((B.U.setTop { g with stack := rest }).pushFrame (.throwing q))) := by
  obtain ⟨mk, hnamed⟩ := Cond.code_named hcode
  obtain ⟨methM, cM, hmethM, -, -, -, -, -, -, hsigM⟩ := Cond.code_spec hnamed hcode
  have hstatic : methM.isStatic = true := Cond.static_spec hnamed hmethM hstat
  obtain ⟨kP, hkP, -⟩ := className_of_methodNamed hnamed
  have hinitP : kP.init = .initialized := Cond.initialized_spec (findClass_of_methodNamed hnamed) hkP hinit
  obtain ⟨vm₁, X₁, hstep₁⟩ := X.invokestatic hexec hown hlink hnamed hmethM hstatic hkP hinitP hy (g := g) hg (argsL := argsL) (rest := rest) (hlen _ hsigM) hstack hdg
  rcases hK m meth c ⟨T.setVm vm₁, locs, cells, slots⟩ { g with stack := rest } (.invokestatic index) mk argsL.toArray X₁ hg hsize hdg hW (X₁.named hnamed) (hpre vm₁ X₁.warmed) with ⟨v, B, X', hpost, hsteps⟩ | ⟨q, B, X', hpost, hsteps⟩
  · exact Or.inl ⟨v, vm₁, B, X₁.warmed, X', hpost, fun target h => hstep₁ _ fun acts => by rw [doInvoke_state]; exact hsteps.trans h⟩
  · exact Or.inr ⟨q, vm₁, B, X₁.warmed, X', hpost, hstep₁ _ fun acts => by rw [doInvoke_state]; exact hsteps⟩
end Calls
theorem vx_cls {s : State} {T : State} {vm₁ : Vm} {E : String} {k : ClassId} (hW : s.WarmedH vm₁) (h : (T.setVm vm₁).vm.findClass E = some k) : s.vm.findClass E = some k := by
  have h1 : vm₁.findClass E = some k := h
  rw [hW.alike.findClass] at h1
  exact h1
/-- the method's frame g, with q thrown over it -/
def vx_W (p : Program) (l : Launch) (e : Env) (R : Room) (s : State) (m : MethodId) (args : Array Value) (below : List Frame) (meth : Method) (c : Code) (H : Heap) (locs : List Loc) (cells slots : Nat) (Q : State → Prop) (g : JFrame) (q : Addr) : Prop :=
  ∀ T : State, T.heap = H → Stand p l e R s m args below meth c T locs cells slots → ∃ t, Steps p.tables e below ((T.setTop g).pushFrame (.throwing q)) t ∧ Q t
def vx_Run (p : Program) (l : Launch) (e : Env) (R : Room) (s : State) (m : MethodId) (args : Array Value) (below : List Frame) (meth : Method) (c : Code) (H : Heap) (locs : List Loc) (cells slots mc ms : Nat) (g : JFrame) (rest : List Value) (Qa : State → Outcome → State → Prop) (XC : String → State → State → Prop) (free : Addr → Prop) : Prop :=
  ∀ T : State, T.heap = H → Stand p l e R s m args below meth c T locs cells slots →
    (∃ (v : Option Value) (st₀ t T' : State) (L : List Loc), st₀.heap = H ∧ Stand p l e R s m args below meth c T' (locs ++ L) (cells + mc) (slots + ms) ∧ (∀ q ∈ L, free q.base) ∧ T'.heap = t.heap ∧ T'.vm = t.vm ∧ Qa st₀ (.returned v) t ∧
      Goes p e below T g T' { g with pc := g.pc + 3, stack := v.toList ++ rest }) ∨
    (∃ (q : Addr) (st₀ t T' : State) (L : List Loc) (E : String) (ce : Cell), st₀.heap = H ∧ Stand p l e R s m args below meth c T' (locs ++ L) (cells + mc) (slots + ms) ∧ (∀ z ∈ L, free z.base) ∧ T'.heap = t.heap ∧ T'.vm = t.vm ∧ XC E st₀ t ∧ t.heap[q]? = some ce ∧ ce.vm = .none ∧ s.vm.findClass E = some ce.cls ∧
      Steps p.tables e below (T.setTop g) ((T'.setTop { g with stack := rest }).pushFrame (.throwing q)))
def vx_X {S : Type} (px : S → Prop) (B : String → S → State → Prop) (A : Nat → Prop) : String → State → State → Prop := fun E st t => ∃ u : S, px u ∧ B E u t ∧ va_F A st t
section Runs
variable {p : Program} {l : Launch} {e : Env} {R : Room} {s : State} {m : MethodId} {args : Array Value} {below : List Frame} {meth : Method} {c : Code} {H : Heap} {locs : List Loc} {cells slots : Nat}
variable {y : MethodName} {bytes cc : ByteArray} {maxL nL mc ms n index : Nat} {ret : Option FieldType} {ws : List Cond} {rm : Room} {Pc : Array Value → State → Prop} {Qc : Array Value → State → Outcome → State → Prop} {XC : String → State → State → Prop} {free : Addr → Prop} {Ts : List Cond} {own C : String} {b : Addr} {As rest : List Value} {g : JFrame}
theorem vx_callBack (cb : CallB R s args own index y bytes maxL ret ws rm mc ms n) (hM : vx_Met l y ws rm Pc Qc XC mc ms free) (hbl : FrameBlind Pc) : vx_Back l R p e below s args y 3 8 (PreOf R mc ms Pc) (PostOf Qc mc ms free) (vx_Post XC mc ms free) := by
  obtain ⟨hrc, hrs, hfr, hlo, hws, hcw, -, hini, -⟩ := cb
  exact vx_back (bytes := bytes) (maxL := maxL) (ret := ret) hM hbl hrc hrs hfr hlo hws hcw (fun a' U hW => word_at hW (Or.inl (by first | rfl | simp [Cond.onTables, Cond.keeps, Cond.steady])) hini)
theorem vx_runV (S : CallFix p m c cc nL s args Ts own) (hM : vx_Met l y ws rm Pc Qc XC mc ms free) (cw : CallW R s args own C index y bytes maxL ret ws rm mc ms n) (hp : PreV s H C b Pc As)
    (hg : g.method = m) (hn : As.length = n) (hsize : g.locals.size = nL) (hstack : g.stack = As.reverse ++ .ref b :: rest) (hW : 2 * g.monitorRoom + (rest.map fun v => v.category).sum ≤ 8) (hdg : decode cc g.pc = .ok (.invokevirtual index, 3)) (hf : cells + mc ≤ R.cells ∧ slots + ms ≤ R.slots) :
    vx_Run p l e R s m args below meth c H locs cells slots mc ms g rest (Qc (Value.ref b :: As).toArray) XC free := by
  have hK : vx_Back l R p e below s args y 3 8 (PreOf R mc ms Pc) (PostOf Qc mc ms free) (vx_Post XC mc ms free) := vx_callBack cw.1 hM hp.1
  obtain ⟨⟨-, -, -, -, -, -, hcode, -, hy, hlen, hl⟩, hin, hse⟩ := cw
  obtain ⟨hx, hb, hml, ho, -⟩ := S
  obtain ⟨-, ⟨cellB, hcB, hoB, hclB⟩, hPc⟩ := hp
  intro T hT X
  rcases vx_callV X hx (C := C) (bytes := bytes) (maxL := maxL) (ret := ret) ho hl hin hse hcode hy hK (by rw [hT]; exact hcB) hoB hclB hg (hsize.trans hml.symm) (argsL := As) (rest := rest) (fun sig h => hn.trans (hlen sig h)) hstack hW (by rw [hb]; exact hdg)
    (fun vm₁ hW₁ => ⟨hf.1, hf.2, hPc (T.setVm vm₁) hT hW₁⟩) with ⟨v, vm₁, ⟨U', l2, c2, s2⟩, hW₁, X', ⟨g', mk, t, L, e1, e2, hq, h1, hL, h2, h3⟩, st⟩ | ⟨q, vm₁, ⟨U', l2, c2, s2⟩, hW₁, X', ⟨g', mk, t, L, E, ce, e1, e2, hq, hce, hcv, hcl, h1, hL, h2, h3⟩, st⟩
  · dsimp only [Pt.U, Pt.locs, Pt.cells, Pt.slots] at X' e1 e2 h1 h2 h3 st
    subst h1; subst h2; subst h3
    exact Or.inl ⟨v, (T.setVm vm₁).calling g' mk (Value.ref b :: As).toArray, t, U', L, hT, X', hL, e1, e2, hq, st⟩
  · dsimp only [Pt.U, Pt.locs, Pt.cells, Pt.slots] at X' e1 e2 h1 h2 h3 st hcl
    subst h1; subst h2; subst h3
    exact Or.inr ⟨q, (T.setVm vm₁).calling g' mk (Value.ref b :: As).toArray, t, U', L, E, ce, hT, X', hL, e1, e2, hq, hce, hcv, vx_cls hW₁ hcl, st⟩
theorem vx_runS (S : CallFix p m c cc nL s args Ts own) (hM : vx_Met l y ws rm Pc Qc XC mc ms free) (cw : CallB R s args own index y bytes maxL ret ws rm mc ms n ∧ (Cond.static y).before args s = true) (hp : PreS s H Pc As)
    (hg : g.method = m) (hn : As.length = n) (hsize : g.locals.size = nL) (hstack : g.stack = As.reverse ++ rest) (hW : 2 * g.monitorRoom + (rest.map fun v => v.category).sum ≤ 8) (hdg : decode cc g.pc = .ok (.invokestatic index, 3)) (hf : cells + mc ≤ R.cells ∧ slots + ms ≤ R.slots) :
    vx_Run p l e R s m args below meth c H locs cells slots mc ms g rest (Qc As.toArray) XC free := by
  have hK : vx_Back l R p e below s args y 3 8 (PreOf R mc ms Pc) (PostOf Qc mc ms free) (vx_Post XC mc ms free) := vx_callBack cw.1 hM hp.1
  obtain ⟨⟨-, -, -, -, -, -, hcode, hini, hy, hlen, hl⟩, hstt⟩ := cw
  obtain ⟨hx, hb, hml, ho, -⟩ := S
  intro T hT X
  rcases vx_callS X hx (bytes := bytes) (maxL := maxL) (ret := ret) ho hl hstt hini hcode hy hK hg (hsize.trans hml.symm) (argsL := As) (rest := rest) (fun sig h => hn.trans (hlen sig h)) hstack hW (by rw [hb]; exact hdg)
    (fun vm₁ hW₁ => ⟨hf.1, hf.2, hp.2 (T.setVm vm₁) hT hW₁⟩) with ⟨v, vm₁, ⟨U', l2, c2, s2⟩, hW₁, X', ⟨g', mk, t, L, e1, e2, hq, h1, hL, h2, h3⟩, st⟩ | ⟨q, vm₁, ⟨U', l2, c2, s2⟩, hW₁, X', ⟨g', mk, t, L, E, ce, e1, e2, hq, hce, hcv, hcl, h1, hL, h2, h3⟩, st⟩
  · dsimp only [Pt.U, Pt.locs, Pt.cells, Pt.slots] at X' e1 e2 h1 h2 h3 st
    subst h1; subst h2; subst h3
    exact Or.inl ⟨v, (T.setVm vm₁).calling g' mk As.toArray, t, U', L, hT, X', hL, e1, e2, hq, st⟩
  · dsimp only [Pt.U, Pt.locs, Pt.cells, Pt.slots] at X' e1 e2 h1 h2 h3 st hcl
    subst h1; subst h2; subst h3
    exact Or.inr ⟨q, (T.setVm vm₁).calling g' mk As.toArray, t, U', L, E, ce, hT, X', hL, e1, e2, hq, hce, hcv, vx_cls hW₁ hcl, st⟩
end Runs
section Rows
variable {p : Program} {l : Launch} {e : Env} {R : Room} {s : State} {m : MethodId} {args : Array Value} {below : List Frame} {meth : Method} {c : Code} {H : Heap} {locs : List Loc} {cells slots : Nat} {Q : State → Prop}
variable {mc ms : Nat} {free : Addr → Prop} {A0 A1 : Nat → Prop} {H0 : Heap} {a : Array Value} {pc : Nat} {ls : Array Slot} {st0 rest : List Value}
theorem vx_keep {st₀ t T' : State} {L : List Loc} (h0 : st₀.heap = H) (e1 : T'.heap = t.heap) (hS : va_S A0 H0 H locs) (hA : ∀ q, q < H.size → A1 q → A0 q) (hf : ∀ q, free q → A0 q) (hL : ∀ q ∈ L, free q.base) (hF : va_F A1 st₀ t) :
    H.size ≤ T'.heap.size ∧ (∀ q : Nat, q < H.size → ¬ A1 q → T'.heap[q]? = H[q]?) ∧ va_S A0 H0 T'.heap (locs ++ L) := by
  obtain ⟨hz, hk⟩ := hF
  rw [h0] at hz hk
  exact ⟨by rw [e1]; exact hz, fun q h1 h2 => by rw [e1]; exact hk q h1 h2,
    ⟨Nat.le_trans hS.1 (by rw [e1]; exact hz), fun q h1 h2 => by rw [e1, hk q (Nat.lt_of_lt_of_le h1 hS.1) (fun z => h2 (hA q (Nat.lt_of_lt_of_le h1 hS.1) z))]; exact hS.2.1 q h1 h2, fun q hq => by
      rcases List.mem_append.mp hq with h | h
      · exact hS.2.2 q h
      · exact hf _ (hL q h)⟩⟩
theorem vx_calli {S SX : Type} {post : Int32 → S → Prop} {px : SX → Prop} {B : S → State → Prop} {BX : String → SX → State → Prop} {AX : Nat → Prop} (hr : vx_Run p l e R s m args below meth c H locs cells slots mc ms (F0 m pc ls st0) rest (va_Qi post B A1 a) (vx_X px BX AX) free) (hS : va_S A0 H0 H locs) (hA : ∀ q, q < H.size → A1 q → A0 q) (hf : ∀ q, free q → A0 q) (hAX : ∀ q, q < H.size → AX q → A0 q)
    (kx : ∀ (E : String) (ce : Cell) (q9 : Addr) (u : SX) (t : State) (H1 : Heap) (locs1 : List Loc), t.heap = H1 → s.vm.Alike t.vm → px u → BX E u t → H.size ≤ H1.size → (∀ q : Nat, q < H.size → ¬ AX q → H1[q]? = H[q]?) → va_S A0 H0 H1 locs1 → H1[q9]? = some ce → ce.vm = .none → s.vm.findClass E = some ce.cls → vx_W p l e R s m args below meth c H1 locs1 (cells + mc) (slots + ms) Q (F0 m pc ls rest) q9)
    (kk : ∀ (r : Int32) (u : S) (t : State) (H1 : Heap) (locs1 : List Loc), t.heap = H1 → s.vm.Alike t.vm → post r u → B u t → H.size ≤ H1.size → (∀ q : Nat, q < H.size → ¬ A1 q → H1[q]? = H[q]?) → va_S A0 H0 H1 locs1 → W p l e R s m args below meth c H1 locs1 (cells + mc) (slots + ms) Q (F0 m (pc + 3) ls (.int r :: rest))) : W p l e R s m args below meth c H locs cells slots Q (F0 m pc ls st0) := by
  intro T hT X
  rcases hr T hT X with ⟨v, st₀, t, T', L, h0, X', hL, e1, e2, ⟨⟨r, u, hv, hp, hb⟩, hF⟩, st⟩ | ⟨q, st₀, t, T', L, E, ce, h0, X', hL, e1, e2, ⟨u, hp, hb, hF⟩, hce, hcv, hcl, st⟩
  · cases hv
    obtain ⟨k1, k2, k3⟩ := vx_keep h0 e1 hS hA hf hL hF
    obtain ⟨t2, a1, b1⟩ := kk r u t T'.heap (locs ++ L) e1.symm (by rw [← e2]; exact X'.warmed.alike) hp hb k1 k2 k3 T' rfl X'
    exact ⟨t2, st t2 a1, b1⟩
  · obtain ⟨k1, k2, k3⟩ := vx_keep h0 e1 hS hAX hf hL hF
    obtain ⟨t2, a1, b1⟩ := kx E ce q u t T'.heap (locs ++ L) e1.symm (by rw [← e2]; exact X'.warmed.alike) hp hb k1 k2 k3 (by rw [e1]; exact hce) hcv hcl T' rfl X'
    exact ⟨t2, st.trans a1, b1⟩
theorem vx_calll {S SX : Type} {post : Int64 → S → Prop} {px : SX → Prop} {B : S → State → Prop} {BX : String → SX → State → Prop} {AX : Nat → Prop} (hr : vx_Run p l e R s m args below meth c H locs cells slots mc ms (F0 m pc ls st0) rest (va_Ql post B A1 a) (vx_X px BX AX) free) (hS : va_S A0 H0 H locs) (hA : ∀ q, q < H.size → A1 q → A0 q) (hf : ∀ q, free q → A0 q) (hAX : ∀ q, q < H.size → AX q → A0 q)
    (kx : ∀ (E : String) (ce : Cell) (q9 : Addr) (u : SX) (t : State) (H1 : Heap) (locs1 : List Loc), t.heap = H1 → s.vm.Alike t.vm → px u → BX E u t → H.size ≤ H1.size → (∀ q : Nat, q < H.size → ¬ AX q → H1[q]? = H[q]?) → va_S A0 H0 H1 locs1 → H1[q9]? = some ce → ce.vm = .none → s.vm.findClass E = some ce.cls → vx_W p l e R s m args below meth c H1 locs1 (cells + mc) (slots + ms) Q (F0 m pc ls rest) q9)
    (kk : ∀ (r : Int64) (u : S) (t : State) (H1 : Heap) (locs1 : List Loc), t.heap = H1 → s.vm.Alike t.vm → post r u → B u t → H.size ≤ H1.size → (∀ q : Nat, q < H.size → ¬ A1 q → H1[q]? = H[q]?) → va_S A0 H0 H1 locs1 → W p l e R s m args below meth c H1 locs1 (cells + mc) (slots + ms) Q (F0 m (pc + 3) ls (.long r :: rest))) : W p l e R s m args below meth c H locs cells slots Q (F0 m pc ls st0) := by
  intro T hT X
  rcases hr T hT X with ⟨v, st₀, t, T', L, h0, X', hL, e1, e2, ⟨⟨r, u, hv, hp, hb⟩, hF⟩, st⟩ | ⟨q, st₀, t, T', L, E, ce, h0, X', hL, e1, e2, ⟨u, hp, hb, hF⟩, hce, hcv, hcl, st⟩
  · cases hv
    obtain ⟨k1, k2, k3⟩ := vx_keep h0 e1 hS hA hf hL hF
    obtain ⟨t2, a1, b1⟩ := kk r u t T'.heap (locs ++ L) e1.symm (by rw [← e2]; exact X'.warmed.alike) hp hb k1 k2 k3 T' rfl X'
    exact ⟨t2, st t2 a1, b1⟩
  · obtain ⟨k1, k2, k3⟩ := vx_keep h0 e1 hS hAX hf hL hF
    obtain ⟨t2, a1, b1⟩ := kx E ce q u t T'.heap (locs ++ L) e1.symm (by rw [← e2]; exact X'.warmed.alike) hp hb k1 k2 k3 (by rw [e1]; exact hce) hcv hcl T' rfl X'
    exact ⟨t2, st.trans a1, b1⟩
theorem vx_callf {S SX : Type} {post : UInt32 → S → Prop} {px : SX → Prop} {B : S → State → Prop} {BX : String → SX → State → Prop} {AX : Nat → Prop} (hr : vx_Run p l e R s m args below meth c H locs cells slots mc ms (F0 m pc ls st0) rest (va_Qf post B A1 a) (vx_X px BX AX) free) (hS : va_S A0 H0 H locs) (hA : ∀ q, q < H.size → A1 q → A0 q) (hf : ∀ q, free q → A0 q) (hAX : ∀ q, q < H.size → AX q → A0 q)
    (kx : ∀ (E : String) (ce : Cell) (q9 : Addr) (u : SX) (t : State) (H1 : Heap) (locs1 : List Loc), t.heap = H1 → s.vm.Alike t.vm → px u → BX E u t → H.size ≤ H1.size → (∀ q : Nat, q < H.size → ¬ AX q → H1[q]? = H[q]?) → va_S A0 H0 H1 locs1 → H1[q9]? = some ce → ce.vm = .none → s.vm.findClass E = some ce.cls → vx_W p l e R s m args below meth c H1 locs1 (cells + mc) (slots + ms) Q (F0 m pc ls rest) q9)
    (kk : ∀ (r : UInt32) (u : S) (t : State) (H1 : Heap) (locs1 : List Loc), t.heap = H1 → s.vm.Alike t.vm → post r u → B u t → H.size ≤ H1.size → (∀ q : Nat, q < H.size → ¬ A1 q → H1[q]? = H[q]?) → va_S A0 H0 H1 locs1 → W p l e R s m args below meth c H1 locs1 (cells + mc) (slots + ms) Q (F0 m (pc + 3) ls (.float r :: rest))) : W p l e R s m args below meth c H locs cells slots Q (F0 m pc ls st0) := by
  intro T hT X
  rcases hr T hT X with ⟨v, st₀, t, T', L, h0, X', hL, e1, e2, ⟨⟨r, u, hv, hp, hb⟩, hF⟩, st⟩ | ⟨q, st₀, t, T', L, E, ce, h0, X', hL, e1, e2, ⟨u, hp, hb, hF⟩, hce, hcv, hcl, st⟩
  · cases hv
    obtain ⟨k1, k2, k3⟩ := vx_keep h0 e1 hS hA hf hL hF
    obtain ⟨t2, a1, b1⟩ := kk r u t T'.heap (locs ++ L) e1.symm (by rw [← e2]; exact X'.warmed.alike) hp hb k1 k2 k3 T' rfl X'
    exact ⟨t2, st t2 a1, b1⟩
  · obtain ⟨k1, k2, k3⟩ := vx_keep h0 e1 hS hAX hf hL hF
    obtain ⟨t2, a1, b1⟩ := kx E ce q u t T'.heap (locs ++ L) e1.symm (by rw [← e2]; exact X'.warmed.alike) hp hb k1 k2 k3 (by rw [e1]; exact hce) hcv hcl T' rfl X'
    exact ⟨t2, st.trans a1, b1⟩
theorem vx_calld {S SX : Type} {post : UInt64 → S → Prop} {px : SX → Prop} {B : S → State → Prop} {BX : String → SX → State → Prop} {AX : Nat → Prop} (hr : vx_Run p l e R s m args below meth c H locs cells slots mc ms (F0 m pc ls st0) rest (va_Qd post B A1 a) (vx_X px BX AX) free) (hS : va_S A0 H0 H locs) (hA : ∀ q, q < H.size → A1 q → A0 q) (hf : ∀ q, free q → A0 q) (hAX : ∀ q, q < H.size → AX q → A0 q)
    (kx : ∀ (E : String) (ce : Cell) (q9 : Addr) (u : SX) (t : State) (H1 : Heap) (locs1 : List Loc), t.heap = H1 → s.vm.Alike t.vm → px u → BX E u t → H.size ≤ H1.size → (∀ q : Nat, q < H.size → ¬ AX q → H1[q]? = H[q]?) → va_S A0 H0 H1 locs1 → H1[q9]? = some ce → ce.vm = .none → s.vm.findClass E = some ce.cls → vx_W p l e R s m args below meth c H1 locs1 (cells + mc) (slots + ms) Q (F0 m pc ls rest) q9)
    (kk : ∀ (r : UInt64) (u : S) (t : State) (H1 : Heap) (locs1 : List Loc), t.heap = H1 → s.vm.Alike t.vm → post r u → B u t → H.size ≤ H1.size → (∀ q : Nat, q < H.size → ¬ A1 q → H1[q]? = H[q]?) → va_S A0 H0 H1 locs1 → W p l e R s m args below meth c H1 locs1 (cells + mc) (slots + ms) Q (F0 m (pc + 3) ls (.double r :: rest))) : W p l e R s m args below meth c H locs cells slots Q (F0 m pc ls st0) := by
  intro T hT X
  rcases hr T hT X with ⟨v, st₀, t, T', L, h0, X', hL, e1, e2, ⟨⟨r, u, hv, hp, hb⟩, hF⟩, st⟩ | ⟨q, st₀, t, T', L, E, ce, h0, X', hL, e1, e2, ⟨u, hp, hb, hF⟩, hce, hcv, hcl, st⟩
  · cases hv
    obtain ⟨k1, k2, k3⟩ := vx_keep h0 e1 hS hA hf hL hF
    obtain ⟨t2, a1, b1⟩ := kk r u t T'.heap (locs ++ L) e1.symm (by rw [← e2]; exact X'.warmed.alike) hp hb k1 k2 k3 T' rfl X'
    exact ⟨t2, st t2 a1, b1⟩
  · obtain ⟨k1, k2, k3⟩ := vx_keep h0 e1 hS hAX hf hL hF
    obtain ⟨t2, a1, b1⟩ := kx E ce q u t T'.heap (locs ++ L) e1.symm (by rw [← e2]; exact X'.warmed.alike) hp hb k1 k2 k3 (by rw [e1]; exact hce) hcv hcl T' rfl X'
    exact ⟨t2, st.trans a1, b1⟩
theorem vx_callv {S SX : Type} {post : S → Prop} {px : SX → Prop} {B : S → State → Prop} {BX : String → SX → State → Prop} {AX : Nat → Prop} (hr : vx_Run p l e R s m args below meth c H locs cells slots mc ms (F0 m pc ls st0) rest (va_Qv post B A1 a) (vx_X px BX AX) free) (hS : va_S A0 H0 H locs) (hA : ∀ q, q < H.size → A1 q → A0 q) (hf : ∀ q, free q → A0 q) (hAX : ∀ q, q < H.size → AX q → A0 q)
    (kx : ∀ (E : String) (ce : Cell) (q9 : Addr) (u : SX) (t : State) (H1 : Heap) (locs1 : List Loc), t.heap = H1 → s.vm.Alike t.vm → px u → BX E u t → H.size ≤ H1.size → (∀ q : Nat, q < H.size → ¬ AX q → H1[q]? = H[q]?) → va_S A0 H0 H1 locs1 → H1[q9]? = some ce → ce.vm = .none → s.vm.findClass E = some ce.cls → vx_W p l e R s m args below meth c H1 locs1 (cells + mc) (slots + ms) Q (F0 m pc ls rest) q9)
    (kk : ∀ (u : S) (t : State) (H1 : Heap) (locs1 : List Loc), t.heap = H1 → s.vm.Alike t.vm → post u → B u t → H.size ≤ H1.size → (∀ q : Nat, q < H.size → ¬ A1 q → H1[q]? = H[q]?) → va_S A0 H0 H1 locs1 → W p l e R s m args below meth c H1 locs1 (cells + mc) (slots + ms) Q (F0 m (pc + 3) ls (rest))) : W p l e R s m args below meth c H locs cells slots Q (F0 m pc ls st0) := by
  intro T hT X
  rcases hr T hT X with ⟨v, st₀, t, T', L, h0, X', hL, e1, e2, ⟨⟨u, hv, hp, hb⟩, hF⟩, st⟩ | ⟨q, st₀, t, T', L, E, ce, h0, X', hL, e1, e2, ⟨u, hp, hb, hF⟩, hce, hcv, hcl, st⟩
  · cases hv
    obtain ⟨k1, k2, k3⟩ := vx_keep h0 e1 hS hA hf hL hF
    obtain ⟨t2, a1, b1⟩ := kk u t T'.heap (locs ++ L) e1.symm (by rw [← e2]; exact X'.warmed.alike) hp hb k1 k2 k3 T' rfl X'
    exact ⟨t2, st t2 a1, b1⟩
  · obtain ⟨k1, k2, k3⟩ := vx_keep h0 e1 hS hAX hf hL hF
    obtain ⟨t2, a1, b1⟩ := kx E ce q u t T'.heap (locs ++ L) e1.symm (by rw [← e2]; exact X'.warmed.alike) hp hb k1 k2 k3 (by rw [e1]; exact hce) hcv hcl T' rfl X'
    exact ⟨t2, st.trans a1, b1⟩
/-- caught by the row x of this method's table; the rows ahead don't take it -/
theorem vx_catch {own name : String} {E : String} {ce : Cell} {q : Addr} (hown : s.vm.findClass own = some m.cls) (pre : List ExceptionTableEntry) (x : ExceptionTableEntry) (suf : List ExceptionTableEntry) (hsplit : c.exceptionTable.toList = pre ++ x :: suf)
    (hpass : ∀ z ∈ pre, covers z pc = false ∨ (z.catchType ≠ 0 ∧ ∃ nm : String, (Cond.classLink own z.catchType nm).before args s = true ∧ va_Nc E nm s)) (hx : covers x pc = true) (h0 : x.catchType ≠ 0)
    (hlink : (Cond.classLink own x.catchType name).before args s = true) (hcast : (Cond.castable E name).before args s = true) (hcell : H[q]? = some ce) (hv : ce.vm = .none) (hcl : s.vm.findClass E = some ce.cls)
    (kk : W p l e R s m args below meth c H locs cells slots Q (F0 m x.handlerPc ls [.ref q])) : vx_W p l e R s m args below meth c H locs cells slots Q (F0 m pc ls rest) q := by
  intro T hT X
  have hpl : e.platform.magicAccessors = ({} : Platform).magicAccessors := by rw [X.admits.platform]
  obtain ⟨c3, c4, hc3, hc4, hasg⟩ := Cond.castable_spec hcast
  cases Option.some.inj (hc3.symm.trans hcl)
  obtain ⟨c5, hc5, hcl5⟩ := Cond.classLink_spec hown hlink e.platform hpl
  cases Option.some.inj (hc4.symm.trans hc5)
  obtain ⟨vm', X', st⟩ := X.thenCaughtThrough q (g := F0 m pc ls rest) rfl (Steps.refl _) (by rw [hT]; exact hcell) (by rw [hv]; rfl) (by obtain ⟨k9, h9, -⟩ := Vm.findClass_spec hcl; exact ⟨k9, h9⟩) pre x suf hsplit
    (fun z hz => by
      rcases hpass z hz with h | ⟨hz0, nm, hl1, hn1⟩
      · exact Or.inl h
      · obtain ⟨c6, hc6, hcl6⟩ := Cond.classLink_spec hown hl1 e.platform hpl
        obtain ⟨a8, b8, h1, h2, h3⟩ := hn1
        cases Option.some.inj (h1.symm.trans hcl)
        cases Option.some.inj (h2.symm.trans hc6)
        exact Or.inr ⟨hz0, _, hcl6, h3⟩) hx (Or.inr ⟨h0, c4, hcl5, hasg⟩)
  obtain ⟨t, a1, b1⟩ := kk (T.setVm vm') hT X'
  exact ⟨t, st.trans a1, b1⟩
end Rows
section Ends
variable {p : Program} {l : Launch} {e : Env} {R : Room} {s : State} {m : MethodId} {args : Array Value} {below : List Frame} {meth : Method} {c : Code} {H : Heap} {locs : List Loc} {cells slots : Nat} {Q : State → Prop}
variable {mc ms : Nat} {free : Addr → Prop} {A0 A1 : Nat → Prop} {H0 : Heap} {a : Array Value} {ls : Array Slot} {st0 rest : List Value}
variable {Qc : Array Value → State → Outcome → State → Prop} {XC : String → State → State → Prop}
/-- what a body that may throw owes at its end -/
def vx_MQ (below : List Frame) (Qc : Array Value → State → Outcome → State → Prop) (XC : String → State → State → Prop) (a : Array Value) (s : State) (mc ms : Nat) (free : Addr → Prop) : State → Prop := fun t =>
  ∃ o, t.status = .running ∧ Ended t below o ∧ vx_Q Qc XC mc ms free a s o t
theorem vx_ret {g : JFrame} {mc ms : Nat} (k : W p l e R s m args below meth c H locs cells slots (MQ below Qc args s mc ms free) g) : W p l e R s m args below meth c H locs cells slots (vx_MQ below Qc XC args s mc ms free) g := by
  intro T hT X
  obtain ⟨t, a1, o, b1, b2, b3, b4⟩ := k T hT X
  exact ⟨t, a1, o, b1, b2, Or.inl ⟨b3, b4⟩⟩
/-- not caught here: it goes on to the caller -/
theorem vx_widen {g : JFrame} {q : Addr} {k n : Nat} (h1 : cells ≤ k) (h2 : slots ≤ n) (kk : vx_W p l e R s m args below meth c H locs k n Q g q) : vx_W p l e R s m args below meth c H locs cells slots Q g q := fun T hT X => kk T hT (stand_widen X h1 h2)
theorem vx_out {pc : Nat} {E : String} {ce : Cell} {q : Addr} {mc ms : Nat} (hout : ∀ x ∈ c.exceptionTable.toList, covers x pc = false) (hlocks : meth.locks = false) (hcell : H[q]? = some ce) (hv : ce.vm = .none) (hcl : s.vm.findClass E = some ce.cls)
    (hx : ∀ t : State, t.heap = H → s.vm.Alike t.vm → XC E s t) (hf : ∀ z ∈ locs, free z.base) (hc : cells ≤ mc) (hs : slots ≤ ms) :
    vx_W p l e R s m args below meth c H locs cells slots (vx_MQ below Qc XC args s mc ms free) (F0 m pc ls rest) q := by
  intro T hT X
  obtain ⟨st1, hrun, hend, hW, hsm⟩ := X.leaveThrown q (g := F0 m pc ls rest) rfl rfl rfl hout hlocks
  have hcell9 : (T.setFrames (.throwing q :: below)).heap[q]? = some ce := by
    show T.heap[q]? = some ce
    rw [hT]; exact hcell
  exact ⟨_, st1, .threw q, hrun, hend, Or.inr ⟨q, rfl, E, ce, locs, hx _ hT hW.alike, hcell9, hv, hcl, hW, hsm.mono hc hs, hf⟩⟩
theorem vx_frame {U : State} {k n : Nat} (h : s.sameButNew ({ U with vm := s.vm } : State) locs k n) : s.heap.size ≤ U.heap.size ∧ ∀ q : Nat, q < s.heap.size → (∀ z ∈ locs, z.base ≠ q) → U.heap[q]? = s.heap[q]? := by
  obtain ⟨-, h2, -, -, -, h6⟩ := h
  refine ⟨h2, fun q hq hz => ?_⟩
  obtain ⟨c9, e1, e2, e3, e4⟩ := h6 q _ (Array.getElem?_eq_getElem hq)
  have hs : c9.slots = (s.heap[q]).slots := Array.ext_getElem? fun i => e4 i fun hm => hz _ hm rfl
  have h9 : c9 = s.heap[q] := by
    rw [hs] at e2
    exact e2
  have e5 : U.heap[q]? = some c9 := e1
  rw [e5, h9, Array.getElem?_eq_getElem hq]
/-- the words of a throw but the four that speak of the heap -/
def vx_no (w : Cond) : Bool := decide (w ≠ .isRef (.static Bundle.tN "UNASSIGNED_STACK" Bundle.steD)) && decide (w ≠ .isRef (.static Bundle.tN "SUPPRESSED_SENTINEL" Bundle.listD)) && decide (w ≠ .laysStatic Bundle.tN "UNASSIGNED_STACK" Bundle.steD) && decide (w ≠ .laysStatic Bundle.tN "SUPPRESSED_SENTINEL" Bundle.listD)
def vx_at0 (own : String) (ic : Nat) (X : String) (names : List String) : List Cond := (Bundle.ownAtoms0 own ic X names).filter vx_no
def vx_atS (own : String) (ic : Nat) (X : String) (names : List String) : List Cond := (Bundle.ownAtoms own ic X names).filter vx_no
/-- a word that the tables alone decide, or a good one -/
def vx_ot (w : Cond) : Bool := w.onTables || goodWord w
theorem vx_ot_at {args a' : Array Value} {s U : State} {w : Cond} (hW : s.WarmedH U.vm) (hvm : s.vm = U.vm) (hg : vx_ot w = true) (h : w.before args s = true) : w.before a' U = true := by
  simp only [vx_ot, Bool.or_eq_true] at hg
  rcases hg with hg | hg
  · exact va_tabs hg hvm h
  · exact word_at hW (good_of_word hg) h
/-- a list's words: the good ones out of the method's own list, the others by premises of their own -/
theorem vx_hat {args : Array Value} {s : State} {L B : List Cond} (h1 : ∀ w ∈ L.filter goodWord, w.before args s = true) (h2 : ∀ w ∈ L.filter (fun w => !goodWord w), w ∈ B) (h3 : ∀ w ∈ B, w.before args s = true) : ∀ w ∈ L, w.before args s = true := by
  intro w hw
  by_cases g : goodWord w = true
  · exact h1 w (List.mem_filter.mpr ⟨hw, g⟩)
  · refine h3 w (h2 w (List.mem_filter.mpr ⟨hw, ?_⟩))
    show (!goodWord w) = true
    cases hgw : goodWord w
    · rfl
    · exact absurd hgw g
theorem vx_c {args : Array Value} {s : State} {w : Cond} {B : List Cond} (h : w.before args s = true) (t : ∀ w ∈ B, w.before args s = true) : ∀ w' ∈ w :: B, w'.before args s = true := fun w' h' => (List.mem_cons.mp h').elim (fun e => by rw [e]; exact h) (t w')
theorem vx_n {args : Array Value} {s : State} : ∀ w ∈ ([] : List Cond), w.before args s = true := fun _ h => nomatch h
theorem vx_own {args : Array Value} {s : State} {L : List Cond} (h1 : ∀ w ∈ L.filter vx_no, w.before args s = true)
    (hU : (Cond.isRef (.static Bundle.tN "UNASSIGNED_STACK" Bundle.steD)).before args s = true) (hN : (Cond.isRef (.static Bundle.tN "SUPPRESSED_SENTINEL" Bundle.listD)).before args s = true)
    (lU : (Cond.laysStatic Bundle.tN "UNASSIGNED_STACK" Bundle.steD).before args s = true) (lN : (Cond.laysStatic Bundle.tN "SUPPRESSED_SENTINEL" Bundle.listD).before args s = true) : ∀ w ∈ L, w.before args s = true := by
  intro w hw
  by_cases e1 : w = .isRef (.static Bundle.tN "UNASSIGNED_STACK" Bundle.steD)
  · rw [e1]; exact hU
  · by_cases e2 : w = .isRef (.static Bundle.tN "SUPPRESSED_SENTINEL" Bundle.listD)
    · rw [e2]; exact hN
    · by_cases e3 : w = .laysStatic Bundle.tN "UNASSIGNED_STACK" Bundle.steD
      · rw [e3]; exact lU
      · by_cases e4 : w = .laysStatic Bundle.tN "SUPPRESSED_SENTINEL" Bundle.listD
        · rw [e4]; exact lN
        · exact h1 w (List.mem_filter.mpr ⟨hw, by unfold vx_no; rw [decide_eq_true e1, decide_eq_true e2, decide_eq_true e3, decide_eq_true e4]; rfl⟩)
/-- where a static field lies, its class's statics cell in H -/
def vx_L (C n d : String) (A : Nat → Prop) (U : State) (H : Heap) : Prop := ∃ (c : ClassId) (k : Class) (i : Nat) (f : Field) (a : Nat) (cell : Cell), U.vm.findClass C = some c ∧ U.fieldFound? C n d = some (c, k, i, f) ∧ f.isStatic = true ∧ k.statics = some a ∧ H[a]? = some cell ∧ cell.vm.isStatics = true ∧ cell.cls = c ∧ f.slot < cell.slots.size ∧ k.staticTypes[f.slot]? = some f.type ∧ ¬ A a
theorem vx_L.moved {C n d : String} {A : Nat → Prop} {u U : State} {H : Heap} (hvm : u.vm.Alike U.vm) (h : vx_L C n d A u H) : vx_L C n d A U H := by
  obtain ⟨c, k, i, f, a, cell, h1, h2, h3, h4, h5, h6, h7, h8, h9, h10⟩ := h
  obtain ⟨k', hi', he⟩ := State.fieldFound?_setVm hvm h2
  exact ⟨c, k', i, f, a, cell, by rw [hvm.findClass]; exact h1, hi', h3, by rw [he]; exact h4, h5, h6, h7, h8, by rw [he]; exact h9, h10⟩
theorem vx_L.kept {C n d : String} {A : Nat → Prop} {U : State} {H H1 : Heap} (h : vx_L C n d A U H) (hq : ∀ a : Nat, a < H.size → ¬ A a → H1[a]? = H[a]?) : vx_L C n d A U H1 := by
  obtain ⟨c, k, i, f, a, cell, h1, h2, h3, h4, h5, h6, h7, h8, h9, h10⟩ := h
  exact ⟨c, k, i, f, a, cell, h1, h2, h3, h4, by rw [hq a (Array.getElem?_eq_some_iff.mp h5).1 h10]; exact h5, h6, h7, h8, h9, h10⟩
theorem vx_L.narrow {C n d : String} {A B : Nat → Prop} {U : State} {H : Heap} (h : vx_L C n d A U H) (hAB : ∀ q, B q → A q) : vx_L C n d B U H := by
  obtain ⟨c, k, i, f, a, cell, h1, h2, h3, h4, h5, h6, h7, h8, h9, h10⟩ := h
  exact ⟨c, k, i, f, a, cell, h1, h2, h3, h4, h5, h6, h7, h8, h9, fun z => h10 (hAB _ z)⟩
theorem vx_L.word {C n d : String} {A : Nat → Prop} {s : State} {args : Array Value} (h : vx_L C n d A s s.heap) : (Cond.laysStatic C n d).before args s = true := by
  obtain ⟨c, k, i, f, a, cell, h1, h2, h3, h4, h5, h6, h7, h8, h9, -⟩ := h
  show (Cond.laysStatic C n d).holds args s none s [] = true
  exact Cond.laysStatic_of h1 h2 h3 h4 h5 h6 h7 h8 h9
/-- .. and what it holds: null or some reference -/
def vx_Zq (C n d : String) (A : Nat → Prop) (U : State) (H : Heap) : Prop := va_Zq C n d A U H ∧ vx_L C n d A U H
theorem vx_Zq.moved {C n d : String} {A : Nat → Prop} {u U : State} {H : Heap} (hvm : u.vm.Alike U.vm) (h : vx_Zq C n d A u H) : vx_Zq C n d A U H := ⟨va_Zq.moved hvm h.1, vx_L.moved hvm h.2⟩
theorem vx_Zq.kept {C n d : String} {A : Nat → Prop} {U : State} {H H1 : Heap} (h : vx_Zq C n d A U H) (hq : ∀ a : Nat, a < H.size → ¬ A a → H1[a]? = H[a]?) : vx_Zq C n d A U H1 := ⟨va_Zq.kept h.1 hq, vx_L.kept h.2 hq⟩
theorem vx_Zq.narrow {C n d : String} {A B : Nat → Prop} {U : State} {H : Heap} (h : vx_Zq C n d A U H) (hAB : ∀ q, B q → A q) : vx_Zq C n d B U H := ⟨va_Zq.narrow h.1 hAB, vx_L.narrow h.2 hAB⟩
theorem vx_Zqof {args : Array Value} {s : State} {C n d : String} {A : Nat → Prop} (hl : (Cond.laysStatic C n d).before args s = true) (hini : (Cond.initialized C).before args s = true) (h : (Cond.isRef (.static C n d)).before args s = true) (hA : ∀ a : Nat, a < s.heap.size → ¬ A a) : vx_Zq C n d A s s.heap := by
  refine ⟨va_Zqof hl hini h hA, ?_⟩
  obtain ⟨c, k, i, f, a, cell, h1, h2, h3, h4, h5, h6, h7, h8, h9⟩ := Cond.laysStatic_spec hl
  exact ⟨c, k, i, f, a, cell, h1, h2, h3, h4, h5, h6, h7, h8, h9, hA a (Array.getElem?_eq_some_iff.mp h5).1⟩
theorem vx_isRef {C n d : String} {v : Value} {A : Nat → Prop} {s : State} {args : Array Value} (h : va_Z C n d v A s s.heap) (hv : v.isRef = true) : (Cond.isRef (.static C n d)).before args s = true := by
  obtain ⟨cf, kf, fi, f, a, cell, h1, h2, h3, h4, h5, h6, h7, -⟩ := h
  have he : (Term.static C n d).eval args s none [] s = some v := by
    simp [Term.eval, State.fieldNamed?, h1, h2, h4, h5, h6, h7]
  simp only [Cond.before, Cond.holds, Cond.value, he]
  cases v <;> simp_all [Value.isRef]
theorem vx_isRefq {C n d : String} {A : Nat → Prop} {s : State} {args : Array Value} (h : va_Zq C n d A s s.heap) : (Cond.isRef (.static C n d)).before args s = true := by
  rcases h with h | ⟨t, h⟩
  · exact vx_isRef h rfl
  · exact vx_isRef h rfl
/-- the same frame, seen from here: as if the method were called anew in this heap -/
theorem vx_rebase {T : State} (X : Stand p l e R s m args below meth c T locs cells slots) {R' : Room} (hf : R'.frames ≤ R.frames) (hl : R'.locals ≤ R.locals) (hc : cells + R'.cells ≤ R.cells) (hs : slots + R'.slots ≤ R.slots) :
    Stand p l e R' ((T.setVm s.vm).setFrames (.invoking m args :: below)) m args below meth c T [] 0 0 := by
  have htop : (T.setVm s.vm).topJava?.isSome := X.here.top
  have hF : ((T.setVm s.vm).setFrames (.invoking m args :: below)).frames = .invoking m args :: below := State.frames_setFrames _ (State.cur_lt_of_top htop)
  obtain ⟨g₀, hg0⟩ := Option.isSome_iff_exists.mp htop
  obtain ⟨r, hr⟩ := State.topJava?_eq_some.mp hg0
  have hl9 : e.platform.stackLimits (T.setVm s.vm).me = e.platform.stackLimits s.me := X.limits
  have hb9 : (T.setVm s.vm).me.stackBytes = s.me.stackBytes := X.bytes
  refine ⟨X.admits, X.cas, X.clock, hF, ?_, X.hears, X.method, X.code, X.here, X.tail, X.warmed, ?_, ?_, ?_⟩
  · have h := X.room
    have hU : ((T.setVm s.vm).setFrames (.invoking m args :: below)).localsInUse = s.localsInUse := by
      rw [State.localsInUse_invoking hF (meth := meth) (c := c) X.method X.code, State.localsInUse_invoking X.frames X.method X.code]
    simp only [State.hasRoom, Bool.and_eq_true, decide_eq_true_eq] at h ⊢
    obtain ⟨⟨⟨⟨h1, h2, h3, h4, h5, h6⟩, h7⟩, h8⟩, h9⟩ := h
    rw [X.frames, List.length_cons] at h2 h3
    have q1 := X.heapSize
    have q2 := X.used
    simp only [hF, hU, List.length_cons, State.stackLimits_setFrames, State.stackBytes_setFrames, hl9, hb9]
    refine ⟨⟨⟨⟨by omega, by omega, by omega, by omega, by omega, h6⟩, ?_⟩, ?_⟩, X.book⟩
    · show T.heap.size + R'.cells ≤ e.platform.maxCells
      omega
    · show T.slotsUsed + R'.slots ≤ e.platform.maxSlots
      omega
  · rw [State.stackLimits_setFrames]; rfl
  · rw [State.stackBytes_setFrames]; rfl
  · refine ⟨?_, Nat.le_refl _, Nat.le_refl _, ?_, ?_, fun a c9 h9 => ⟨c9, h9, rfl, rfl, fun _ _ => rfl⟩⟩
    · obtain ⟨t, ht, -⟩ := State.frames_cons hr
      show T.setVm s.vm = { ((T.setVm s.vm).setFrames (.invoking m args :: below)).setFrames (T.setVm s.vm).frames with heap := T.heap, slotsUsed := T.slotsUsed }
      rw [State.setFrames_setFrames, State.setFrames_self ht]
      rfl
    · show T.slotsUsed = T.slotsUsed + ((T.heap.toList.drop T.heap.size).map (·.slots.size)).sum
      rw [List.drop_eq_nil_of_le (Nat.le_of_eq Array.length_toList)]
      rfl
    · show ((T.heap.toList.drop T.heap.size).map (·.slots.size)).sum ≤ 0
      rw [List.drop_eq_nil_of_le (Nat.le_of_eq Array.length_toList)]
      exact Nat.le_refl _
/-- 'throw new E()': new; dup; invokespecial; athrow -/
theorem vx_throw0 {cc : ByteArray} {pc : Nat} (hexec : p.tables.exec = Jvm.exec) (hb : c.code = cc) (hl : l.stackTraces = false) {own cls : String} {names : List String} {ik ic mc ms : Nat} {A : Nat → Prop}
    (hown : s.vm.findClass own = some m.cls) (hcls : Bundle.fit cls = true) (hnames : ∀ n ∈ names, Bundle.fit n = true)
    (hk : (Cond.classLink own ik cls).before args s = true) (hini : (Cond.initialized cls).before args s = true) (hat : ∀ w ∈ vx_at0 own ic cls names, w.before args s = true)
    (hgood : ∀ w ∈ Cond.classLink own ik cls :: Cond.initialized cls :: vx_at0 own ic cls names, vx_ot w = true)
    (hU : vx_Zq Bundle.tN "UNASSIGNED_STACK" Bundle.steD A s s.heap) (hN : vx_Zq Bundle.tN "SUPPRESSED_SENTINEL" Bundle.listD A s s.heap) (hS : va_S A s.heap H locs) (hsize : ls.size = c.maxLocals)
    (d0 : decode cc pc = .ok (.new ik, 3)) (d3 : decode cc (pc + 3) = .ok (.dup, 1)) (d4 : decode cc (pc + 4) = .ok (.invokespecial ic, 3)) (d7 : decode cc (pc + 7) = .ok (.athrow, 1))
    (hout : ∀ x ∈ c.exceptionTable.toList, covers x (pc + 7) = false)
    (hRframes : names.length + 3 < R.frames) (hRlocals : (rest.map fun v => v.category).sum + (13 * (names.length + 1) + 42) ≤ R.locals) (hRcells : cells + 1 ≤ R.cells) (hRslots : slots + 6 ≤ R.slots) (hlocks : meth.locks = false)
    (hx : ∀ t : State, s.vm.Alike t.vm → H.size ≤ t.heap.size → (∀ q : Nat, q < H.size → t.heap[q]? = H[q]?) → XC cls s t)
    (hf : ∀ z ∈ locs, free z.base) (hc : cells + 1 ≤ mc) (hs : slots + 6 ≤ ms) :
    W p l e R s m args below meth c H locs cells slots (vx_MQ below Qc XC args s mc ms free) (F0 m pc ls rest) := by
  intro T hT X
  have htr : e.platform.stackTraces = false := (show e.platform.stackTraces = l.stackTraces by rw [X.admits.platform]).trans hl
  have Y := vx_rebase X (R' := { frames := R.frames, locals := R.locals, cells := 1, slots := 6 }) (Nat.le_refl _) (Nat.le_refl _) hRcells hRslots
  obtain ⟨s', hA⟩ : ∃ z, z = (T.setVm s.vm).setFrames (.invoking m args :: below) := ⟨_, rfl⟩
  rw [← hA] at Y
  have hvm : s'.vm = s.vm := by rw [hA]; rfl
  have hhp : s'.heap = H := by rw [hA]; exact hT
  have hW0 : s.WarmedH s'.vm := by rw [hvm]; exact State.WarmedH.refl s
  have hat' : ∀ w ∈ vx_at0 own ic cls names, w.before args s' = true := fun w hw => vx_ot_at hW0 hvm.symm (hgood w (List.mem_cons_of_mem _ (List.mem_cons_of_mem _ hw))) (hat w hw)
  have hk' : (Cond.classLink own ik cls).before args s' = true := vx_ot_at hW0 hvm.symm (hgood _ List.mem_cons_self) hk
  have hini' : (Cond.initialized cls).before args s' = true := vx_ot_at hW0 hvm.symm (hgood _ (List.mem_cons_of_mem _ List.mem_cons_self)) hini
  have hU' : vx_Zq Bundle.tN "UNASSIGNED_STACK" Bundle.steD A s' s'.heap := by rw [hhp]; exact vx_Zq.moved hW0.alike (hU.kept hS.2.1)
  have hN' : vx_Zq Bundle.tN "SUPPRESSED_SENTINEL" Bundle.listD A s' s'.heap := by rw [hhp]; exact vx_Zq.moved hW0.alike (hN.kept hS.2.1)
  have h : ∀ w ∈ Bundle.ownAtoms0 own ic cls names, w.before args s' = true := vx_own hat' (vx_isRefq hU'.1) (vx_isRefq hN'.1) hU'.2.word hN'.2.word
  have hown' : s'.vm.findClass own = some m.cls := by rw [hvm]; exact hown
  have hins : (Cond.instantiable cls 6).before args s' = true := h _ (by simp [Bundle.ownAtoms0])
  obtain ⟨vm₁, cX, kX, hfX, hkX, -, -, X₁, st1⟩ := Y.newCold hexec (own := own) (C := cls) (index := ik) (n := 6) hown' hk' hins hini'
    (g := F0 m pc ls rest) rfl (by rw [hb]; exact d0) (Nat.le_refl _) (Nat.le_refl _)
  generalize hT1 : (T.setVm vm₁).pushCell { cls := cX, slots := kX.instanceTypes.map defaultValue, vm := .none } = T1 at X₁ st1
  have hcat : (Value.ref T.heap.size).category = 1 := rfl
  have hcellA : T1.heap[T.heap.size]? = some (freshCell cX kX) := by rw [← hT1]; exact State.heap_pushCell_size _ _
  have d3' : decode c.code (pc + 3) = .ok (.dup, 1) := by rw [hb]; exact d3
  obtain ⟨U, hsteps, hrun, hend, hW, hsame, ce, hce, hO⟩ := X₁.ctorThrow0 hexec htr (own := own) (cls := cls) (names := names) (ic := ic) hown' hcls hnames h (fun x hx => nomatch hx) hfX hkX hcellA (by rw [hhp, hT]; exact Nat.le_refl _)
    (g := { method := m, pc := pc + 4, locals := ls, stack := .ref T.heap.size :: .ref T.heap.size :: rest, locked := none }) rfl hsize rfl rfl (rest := rest) rfl
    (by rw [hb]; exact d4) (by rw [hb]; exact d7) hout hRframes (by simp only [List.map_cons, List.sum_cons, hcat]; omega) hlocks
  obtain ⟨f1, f2⟩ := vx_frame hsame
  rw [hhp] at f1 f2
  have hWs : s.WarmedH U.vm := State.WarmedH.trans hW0 hW
  have hcl : s.vm.findClass cls = some ce.cls := by
    have h9 := hO.cls
    rw [hvm] at h9
    exact h9
  have hall : s.sameButNew ({ U with vm := s.vm } : State) locs mc ms := by
    subst hA
    obtain ⟨e1, e2⟩ := hsame
    rw [State.setFrames_setFrames] at e1
    have h2 : (T.setVm s.vm).sameButNew ({ U with vm := s.vm } : State) [] (0 + 1) (0 + 6) := ⟨e1, e2⟩
    have h3 := X.same.trans h2
    rw [List.append_nil] at h3
    exact h3.mono hc hs
  refine ⟨U, ?_, .threw T.heap.size, hrun, hend, Or.inr ⟨T.heap.size, rfl, cls, ce, locs, hx U hWs.alike f1 (fun q hq => f2 q hq (fun z hz => nomatch hz)), hce, hO.vm, hcl, hWs, hall, hf⟩⟩
  refine st1 _ ?_
  show Steps p.tables e below (T1.setTop { method := m, pc := pc + 3, locals := ls, stack := .ref T.heap.size :: rest, locked := none }) _
  jvm_step X₁.here [X₁.here.top, hexec, d3', Value.category]
  exact hsteps
/-- 'throw new E("text")': new; dup; ldc; invokespecial; athrow -/
theorem vx_throwS {cc : ByteArray} {pc : Nat} (hexec : p.tables.exec = Jvm.exec) (hb : c.code = cc) (hl : l.stackTraces = false) {own cls text : String} {names : List String} {ik is ic mc ms sa : Nat} {A : Nat → Prop}
    (hown : s.vm.findClass own = some m.cls) (hcls : Bundle.fit cls = true) (hnames : ∀ n ∈ names, Bundle.fit n = true)
    (hk : (Cond.classLink own ik cls).before args s = true) (hini : (Cond.initialized cls).before args s = true) (hstr : vk_R own is text sa s) (hat : ∀ w ∈ vx_atS own ic cls names, w.before args s = true)
    (hgood : ∀ w ∈ Cond.classLink own ik cls :: Cond.initialized cls :: vx_atS own ic cls names, vx_ot w = true)
    (hU : vx_Zq Bundle.tN "UNASSIGNED_STACK" Bundle.steD A s s.heap) (hN : vx_Zq Bundle.tN "SUPPRESSED_SENTINEL" Bundle.listD A s s.heap) (hS : va_S A s.heap H locs) (hsize : ls.size = c.maxLocals)
    (d0 : decode cc pc = .ok (.new ik, 3)) (d3 : decode cc (pc + 3) = .ok (.dup, 1)) (d4 : decode cc (pc + 4) = .ok (.ldc is, 2)) (d6 : decode cc (pc + 6) = .ok (.invokespecial ic, 3)) (d9 : decode cc (pc + 9) = .ok (.athrow, 1))
    (hout : ∀ x ∈ c.exceptionTable.toList, covers x (pc + 9) = false)
    (hRframes : names.length + 3 < R.frames) (hRlocals : (rest.map fun v => v.category).sum + (13 * (names.length + 1) + 43) ≤ R.locals) (hRcells : cells + 1 ≤ R.cells) (hRslots : slots + 6 ≤ R.slots) (hlocks : meth.locks = false)
    (hx : ∀ t : State, s.vm.Alike t.vm → H.size ≤ t.heap.size → (∀ q : Nat, q < H.size → t.heap[q]? = H[q]?) → XC cls s t)
    (hf : ∀ z ∈ locs, free z.base) (hc : cells + 1 ≤ mc) (hs : slots + 6 ≤ ms) :
    W p l e R s m args below meth c H locs cells slots (vx_MQ below Qc XC args s mc ms free) (F0 m pc ls rest) := by
  intro T hT X
  have htr : e.platform.stackTraces = false := (show e.platform.stackTraces = l.stackTraces by rw [X.admits.platform]).trans hl
  have Y := vx_rebase X (R' := { frames := R.frames, locals := R.locals, cells := 1, slots := 6 }) (Nat.le_refl _) (Nat.le_refl _) hRcells hRslots
  obtain ⟨s', hA⟩ : ∃ z, z = (T.setVm s.vm).setFrames (.invoking m args :: below) := ⟨_, rfl⟩
  rw [← hA] at Y
  have hvm : s'.vm = s.vm := by rw [hA]; rfl
  have hhp : s'.heap = H := by rw [hA]; exact hT
  have hW0 : s.WarmedH s'.vm := by rw [hvm]; exact State.WarmedH.refl s
  have hat' : ∀ w ∈ vx_atS own ic cls names, w.before args s' = true := fun w hw => vx_ot_at hW0 hvm.symm (hgood w (List.mem_cons_of_mem _ (List.mem_cons_of_mem _ hw))) (hat w hw)
  have hk' : (Cond.classLink own ik cls).before args s' = true := vx_ot_at hW0 hvm.symm (hgood _ List.mem_cons_self) hk
  have hini' : (Cond.initialized cls).before args s' = true := vx_ot_at hW0 hvm.symm (hgood _ (List.mem_cons_of_mem _ List.mem_cons_self)) hini
  have hU' : vx_Zq Bundle.tN "UNASSIGNED_STACK" Bundle.steD A s' s'.heap := by rw [hhp]; exact vx_Zq.moved hW0.alike (hU.kept hS.2.1)
  have hN' : vx_Zq Bundle.tN "SUPPRESSED_SENTINEL" Bundle.listD A s' s'.heap := by rw [hhp]; exact vx_Zq.moved hW0.alike (hN.kept hS.2.1)
  have h : ∀ w ∈ Bundle.ownAtoms own ic cls names, w.before args s' = true := vx_own hat' (vx_isRefq hU'.1) (vx_isRefq hN'.1) hU'.2.word hN'.2.word
  have hown' : s'.vm.findClass own = some m.cls := by rw [hvm]; exact hown
  have hins : (Cond.instantiable cls 6).before args s' = true := h _ (by simp [Bundle.ownAtoms])
  obtain ⟨vm₁, cX, kX, hfX, hkX, -, -, X₁, st1⟩ := Y.newCold hexec (own := own) (C := cls) (index := ik) (n := 6) hown' hk' hins hini'
    (g := F0 m pc ls rest) rfl (by rw [hb]; exact d0) (Nat.le_refl _) (Nat.le_refl _)
  generalize hT1 : (T.setVm vm₁).pushCell { cls := cX, slots := kX.instanceTypes.map defaultValue, vm := .none } = T1 at X₁ st1
  have hcat : (Value.ref T.heap.size).category = 1 := rfl
  have hcellA : T1.heap[T.heap.size]? = some (freshCell cX kX) := by rw [← hT1]; exact State.heap_pushCell_size _ _
  have d3' : decode c.code (pc + 3) = .ok (.dup, 1) := by rw [hb]; exact d3
  have d4' : decode c.code (pc + 4) = .ok (.ldc is, 2) := by rw [hb]; exact d4
  have hstr' : vk_R own is text sa s' := vk_R.warm hW0 hstr
  obtain ⟨U, hsteps, hrun, hend, hW, hsame, ce, hce, hO⟩ := X₁.ctorThrowS hexec htr (own := own) (cls := cls) (names := names) (ic := ic) hown' hcls hnames h (fun x hx => nomatch hx) hfX hkX hcellA (by rw [hhp, hT]; exact Nat.le_refl _) (msg := .ref sa) rfl
    (g := { method := m, pc := pc + 6, locals := ls, stack := .ref sa :: .ref T.heap.size :: .ref T.heap.size :: rest, locked := none }) rfl hsize rfl rfl (rest := rest) rfl
    (by rw [hb]; exact d6) (by rw [hb]; exact d9) hout hRframes (by simp only [List.map_cons, List.sum_cons, hcat]; omega) hlocks
  obtain ⟨f1, f2⟩ := vx_frame hsame
  rw [hhp] at f1 f2
  have hWs : s.WarmedH U.vm := State.WarmedH.trans hW0 hW
  have hcl : s.vm.findClass cls = some ce.cls := by
    have h9 := hO.cls
    rw [hvm] at h9
    exact h9
  have hall : s.sameButNew ({ U with vm := s.vm } : State) locs mc ms := by
    subst hA
    obtain ⟨e1, e2⟩ := hsame
    rw [State.setFrames_setFrames] at e1
    have h2 : (T.setVm s.vm).sameButNew ({ U with vm := s.vm } : State) [] (0 + 1) (0 + 6) := ⟨e1, e2⟩
    have h3 := X.same.trans h2
    rw [List.append_nil] at h3
    exact h3.mono hc hs
  refine ⟨U, ?_, .threw T.heap.size, hrun, hend, Or.inr ⟨T.heap.size, rfl, cls, ce, locs, hx U hWs.alike f1 (fun q hq => f2 q hq (fun z hz => nomatch hz)), hce, hO.vm, hcl, hWs, hall, hf⟩⟩
  refine st1 _ ?_
  show Steps p.tables e below (T1.setTop { method := m, pc := pc + 3, locals := ls, stack := .ref T.heap.size :: rest, locked := none }) _
  jvm_step X₁.here [X₁.here.top, hexec, d3', Value.category]
  exact X₁.ldcString hexec (own := own) (text := text) (index := is) (a := sa) hown' hstr'.1 hstr'.2
    (g := { method := m, pc := pc + 4, locals := ls, stack := .ref T.heap.size :: .ref T.heap.size :: rest, locked := none }) rfl d4' _ hsteps
/-- 'throw new E("text")', the text by a wide index -/
theorem vx_throwSW {cc : ByteArray} {pc : Nat} (hexec : p.tables.exec = Jvm.exec) (hb : c.code = cc) (hl : l.stackTraces = false) {own cls text : String} {names : List String} {ik is ic mc ms sa : Nat} {A : Nat → Prop}
    (hown : s.vm.findClass own = some m.cls) (hcls : Bundle.fit cls = true) (hnames : ∀ n ∈ names, Bundle.fit n = true)
    (hk : (Cond.classLink own ik cls).before args s = true) (hini : (Cond.initialized cls).before args s = true) (hstr : vk_R own is text sa s) (hat : ∀ w ∈ vx_atS own ic cls names, w.before args s = true)
    (hgood : ∀ w ∈ Cond.classLink own ik cls :: Cond.initialized cls :: vx_atS own ic cls names, vx_ot w = true)
    (hU : vx_Zq Bundle.tN "UNASSIGNED_STACK" Bundle.steD A s s.heap) (hN : vx_Zq Bundle.tN "SUPPRESSED_SENTINEL" Bundle.listD A s s.heap) (hS : va_S A s.heap H locs) (hsize : ls.size = c.maxLocals)
    (d0 : decode cc pc = .ok (.new ik, 3)) (d3 : decode cc (pc + 3) = .ok (.dup, 1)) (d4 : decode cc (pc + 4) = .ok (.ldc_w is, 3)) (d7 : decode cc (pc + 7) = .ok (.invokespecial ic, 3)) (d10 : decode cc (pc + 10) = .ok (.athrow, 1))
    (hout : ∀ x ∈ c.exceptionTable.toList, covers x (pc + 10) = false)
    (hRframes : names.length + 3 < R.frames) (hRlocals : (rest.map fun v => v.category).sum + (13 * (names.length + 1) + 43) ≤ R.locals) (hRcells : cells + 1 ≤ R.cells) (hRslots : slots + 6 ≤ R.slots) (hlocks : meth.locks = false)
    (hx : ∀ t : State, s.vm.Alike t.vm → H.size ≤ t.heap.size → (∀ q : Nat, q < H.size → t.heap[q]? = H[q]?) → XC cls s t)
    (hf : ∀ z ∈ locs, free z.base) (hc : cells + 1 ≤ mc) (hs : slots + 6 ≤ ms) :
    W p l e R s m args below meth c H locs cells slots (vx_MQ below Qc XC args s mc ms free) (F0 m pc ls rest) := by
  intro T hT X
  have htr : e.platform.stackTraces = false := (show e.platform.stackTraces = l.stackTraces by rw [X.admits.platform]).trans hl
  have Y := vx_rebase X (R' := { frames := R.frames, locals := R.locals, cells := 1, slots := 6 }) (Nat.le_refl _) (Nat.le_refl _) hRcells hRslots
  obtain ⟨s', hA⟩ : ∃ z, z = (T.setVm s.vm).setFrames (.invoking m args :: below) := ⟨_, rfl⟩
  rw [← hA] at Y
  have hvm : s'.vm = s.vm := by rw [hA]; rfl
  have hhp : s'.heap = H := by rw [hA]; exact hT
  have hW0 : s.WarmedH s'.vm := by rw [hvm]; exact State.WarmedH.refl s
  have hat' : ∀ w ∈ vx_atS own ic cls names, w.before args s' = true := fun w hw => vx_ot_at hW0 hvm.symm (hgood w (List.mem_cons_of_mem _ (List.mem_cons_of_mem _ hw))) (hat w hw)
  have hk' : (Cond.classLink own ik cls).before args s' = true := vx_ot_at hW0 hvm.symm (hgood _ List.mem_cons_self) hk
  have hini' : (Cond.initialized cls).before args s' = true := vx_ot_at hW0 hvm.symm (hgood _ (List.mem_cons_of_mem _ List.mem_cons_self)) hini
  have hU' : vx_Zq Bundle.tN "UNASSIGNED_STACK" Bundle.steD A s' s'.heap := by rw [hhp]; exact vx_Zq.moved hW0.alike (hU.kept hS.2.1)
  have hN' : vx_Zq Bundle.tN "SUPPRESSED_SENTINEL" Bundle.listD A s' s'.heap := by rw [hhp]; exact vx_Zq.moved hW0.alike (hN.kept hS.2.1)
  have h : ∀ w ∈ Bundle.ownAtoms own ic cls names, w.before args s' = true := vx_own hat' (vx_isRefq hU'.1) (vx_isRefq hN'.1) hU'.2.word hN'.2.word
  have hown' : s'.vm.findClass own = some m.cls := by rw [hvm]; exact hown
  have hins : (Cond.instantiable cls 6).before args s' = true := h _ (by simp [Bundle.ownAtoms])
  obtain ⟨vm₁, cX, kX, hfX, hkX, -, -, X₁, st1⟩ := Y.newCold hexec (own := own) (C := cls) (index := ik) (n := 6) hown' hk' hins hini'
    (g := F0 m pc ls rest) rfl (by rw [hb]; exact d0) (Nat.le_refl _) (Nat.le_refl _)
  generalize hT1 : (T.setVm vm₁).pushCell { cls := cX, slots := kX.instanceTypes.map defaultValue, vm := .none } = T1 at X₁ st1
  have hcat : (Value.ref T.heap.size).category = 1 := rfl
  have hcellA : T1.heap[T.heap.size]? = some (freshCell cX kX) := by rw [← hT1]; exact State.heap_pushCell_size _ _
  have d3' : decode c.code (pc + 3) = .ok (.dup, 1) := by rw [hb]; exact d3
  have d4' : decode c.code (pc + 4) = .ok (.ldc_w is, 3) := by rw [hb]; exact d4
  have hstr' : vk_R own is text sa s' := vk_R.warm hW0 hstr
  obtain ⟨U, hsteps, hrun, hend, hW, hsame, ce, hce, hO⟩ := X₁.ctorThrowS hexec htr (own := own) (cls := cls) (names := names) (ic := ic) hown' hcls hnames h (fun x hx => nomatch hx) hfX hkX hcellA (by rw [hhp, hT]; exact Nat.le_refl _) (msg := .ref sa) rfl
    (g := { method := m, pc := pc + 7, locals := ls, stack := .ref sa :: .ref T.heap.size :: .ref T.heap.size :: rest, locked := none }) rfl hsize rfl rfl (rest := rest) rfl
    (by rw [hb]; exact d7) (by rw [hb]; exact d10) hout hRframes (by simp only [List.map_cons, List.sum_cons, hcat]; omega) hlocks
  obtain ⟨f1, f2⟩ := vx_frame hsame
  rw [hhp] at f1 f2
  have hWs : s.WarmedH U.vm := State.WarmedH.trans hW0 hW
  have hcl : s.vm.findClass cls = some ce.cls := by
    have h9 := hO.cls
    rw [hvm] at h9
    exact h9
  have hall : s.sameButNew ({ U with vm := s.vm } : State) locs mc ms := by
    subst hA
    obtain ⟨e1, e2⟩ := hsame
    rw [State.setFrames_setFrames] at e1
    have h2 : (T.setVm s.vm).sameButNew ({ U with vm := s.vm } : State) [] (0 + 1) (0 + 6) := ⟨e1, e2⟩
    have h3 := X.same.trans h2
    rw [List.append_nil] at h3
    exact h3.mono hc hs
  refine ⟨U, ?_, .threw T.heap.size, hrun, hend, Or.inr ⟨T.heap.size, rfl, cls, ce, locs, hx U hWs.alike f1 (fun q hq => f2 q hq (fun z hz => nomatch hz)), hce, hO.vm, hcl, hWs, hall, hf⟩⟩
  refine st1 _ ?_
  show Steps p.tables e below (T1.setTop { method := m, pc := pc + 3, locals := ls, stack := .ref T.heap.size :: rest, locked := none }) _
  jvm_step X₁.here [X₁.here.top, hexec, d3', Value.category]
  exact X₁.ldcStringW hexec (own := own) (text := text) (index := is) (a := sa) hown' hstr'.1 hstr'.2
    (g := { method := m, pc := pc + 4, locals := ls, stack := .ref T.heap.size :: .ref T.heap.size :: rest, locked := none }) rfl d4' _ hsteps
end Ends
section Bodies
variable {l : Launch}
theorem vx_ofW {y : MethodName} {ws ws' : List Cond} {rm : Room} {Pc : Array Value → State → Prop} {Qc : Array Value → State → Outcome → State → Prop} {XC : String → State → State → Prop} {mc ms : Nat} {free : Addr → Prop} {cc : ByteArray} {maxL : Nat} {ret : Option FieldType}
    (hy : plainName y.cls = true) (hw : ws = Cond.code y cc maxL ret :: ws')
    (body : ∀ p e s m args below meth c s₁, BodyLoose p l y (headSpec ws rm) cc maxL ret e s m args below meth c s₁ → c.maxLocals = maxL → (∀ x ∈ c.exceptionTable.toList, False) → Pc args s →
      W p l e (headSpec ws rm).room s m args below meth c s.heap [] 0 0 (vx_MQ below Qc XC args s mc ms free) (entryFrame m args maxL)) : vx_Met l y ws rm Pc Qc XC mc ms free := by
  refine MetFree.of_bodyS (code := cc) (maxLocals := maxL) (ret := ret) hy ?_ ?_
  · intro args s m h hn
    obtain ⟨meth, c, h1, h2, h3, h4, h5, h6, -, -⟩ := Cond.code_spec hn (atoms_spec (ws := ws) h _ (by rw [hw]; exact List.mem_cons_self))
    exact ⟨meth, c, h1, h2, h3, h4, h5, h6⟩
  · intro p e s m args below meth c s₁ B hml hP _
    have hh0 : s₁.heap = s.heap := by rw [B.state]; rfl
    have ht : ∀ x ∈ c.exceptionTable.toList, False := by
      obtain ⟨meth9, c9, h1, h2, -, -, -, -, h7, -⟩ := Cond.code_spec B.named (atoms_spec (ws := ws) B.pre _ (by rw [hw]; exact List.mem_cons_self))
      cases Option.some.inj (h1.symm.trans B.method)
      cases Option.some.inj (h2.symm.trans (Stand.of_body B).code)
      intro x hx
      rw [Array.isEmpty_iff.mp h7] at hx
      cases hx
    obtain ⟨t, a1, o, b1, b2, b3⟩ := body p e s m args below meth c s₁ B hml ht hP s₁ hh0 (Stand.of_body B)
    exact ⟨t, o, a1, b1, b2, b3⟩
/-- the table of a body with handlers -/
theorem vx_table {p : Program} {x y : MethodName} {S : Spec} {cc bytes : ByteArray} {maxL maxL' : Nat} {ret ret' : Option FieldType} {e : Env} {s s₁ : State} {m : MethodId} {args : Array Value} {below : List Frame} {meth : Method} {c : Code} {hh : List (Nat × Nat × Nat × Nat)}
    (B : BodyLoose p l y S cc maxL ret e s m args below meth c s₁) (h : (Cond.codeWith y bytes maxL' ret' hh).before args s = true) : c.exceptionTable.toList = tableOf hh := by
  obtain ⟨m9, meth9, c9, hn9, h1, h2, -, -, h6, -⟩ := Cond.codeWith_spec h
  cases Option.some.inj (hn9.symm.trans B.named)
  cases Option.some.inj (h1.symm.trans B.method)
  cases Option.some.inj (h2.symm.trans (Stand.of_body B).code)
  rw [← h6, table_eq]
end Bodies
end VXA
/-! ===== END ===== -/
/-! ===== BEGIN a static call of a method with an exception table ===== -/
section VXS
variable {p : Program} {l : Launch} {e : Env} {R : Room} {s : State} {m : MethodId} {args : Array Value} {below : List Frame} {meth : Method} {c : Code} {T : State} {H : Heap} {locs : List Loc} {cells slots : Nat}
abbrev vx_CSW (R : Room) (s : State) (args : Array Value) (own : String) (index : Nat) (y : MethodName) (bytes : ByteArray) (maxL : Nat) (ret : Option FieldType) (hh : List (Nat × Nat × Nat × Nat)) (ws : List Cond) (rm : Room) (mc ms n : Nat) : Prop :=
  (rm.cells = mc ∧ rm.slots = ms ∧ rm.frames + 1 ≤ R.frames ∧ 8 + (maxL + 11) + rm.locals ≤ R.locals ∧ (∀ w ∈ ws, ∀ (a' : Array Value) (U : State), s.WarmedH U.vm → w.before a' U = true) ∧ Cond.codeWith y bytes maxL ret hh ∈ ws) ∧
  (Cond.codeWith y bytes maxL ret hh).before args s = true ∧ (Cond.initialized y.cls).before args s = true ∧ (y.cls ≠ "java/lang/invoke/MethodHandle" ∧ y.cls ≠ "java/lang/invoke/VarHandle") ∧
  (∀ sig, parseMethodDescriptor y.desc = some sig → n = sig.parameters.length) ∧ (Cond.methodLink own index y).before args s = true ∧ (Cond.static y).before args s = true
theorem vx_cwSW {own : String} {index maxL mc ms : Nat} {y : MethodName} {bytes : ByteArray} {ret : Option FieldType} {hh : List (Nat × Nat × Nat × Nat)} {Ts ws ws' : List Cond} {rm : Room} (n : Nat) (ht : ∀ w ∈ Ts, w.before args s = true) (hT : GoodIn Ts (va_wsS own index y ws)) (hw : ws = Cond.codeWith y bytes maxL ret hh :: ws') (hrc : rm.cells = mc) (hrs : rm.slots = ms)
    (hd : y.cls ≠ "java/lang/invoke/MethodHandle" ∧ y.cls ≠ "java/lang/invoke/VarHandle" ∧ (parseMethodDescriptor y.desc).map (fun d => d.parameters.length) = some n) (hR : rm.frames + 1 ≤ R.frames ∧ 8 + (maxL + 11) + rm.locals ≤ R.locals) :
    vx_CSW R s args own index y bytes maxL ret hh ws rm mc ms n := by
  have ok : ∀ w ∈ va_wsS own index y ws, w.before args s = true := fun w h => ht w (hT w h).1
  have hG : GoodIn Ts ws := fun w h => hT w (by unfold va_wsS; exact List.mem_append_right _ h)
  have hc : Cond.codeWith y bytes maxL ret hh ∈ ws := by rw [hw]; exact List.mem_cons_self
  refine ⟨⟨hrc, hrs, hR.1, hR.2, pay_in ht hG, hc⟩, ht _ (hG _ hc).1, ok _ (by simp [va_wsS]), ⟨hd.1, hd.2.1⟩, fun sig h => ?_, ok _ (by simp [va_wsS]), ok _ (by simp [va_wsS])⟩
  have h2 := hd.2.2
  rw [h] at h2
  exact (Option.some.inj h2).symm
theorem vx_callSW (X : Stand p l e R s m args below meth c T locs cells slots) (hexec : p.tables.exec = Jvm.exec) {own : String} {index : Nat} {y : MethodName} {bytes : ByteArray} {maxL : Nat} {ret : Option FieldType} {hh : List (Nat × Nat × Nat × Nat)}
    (hown : s.vm.findClass own = some m.cls) (hlink : (Cond.methodLink own index y).before args s = true) (hstat : (Cond.static y).before args s = true) (hinit : (Cond.initialized y.cls).before args s = true)
    (hcode : (Cond.codeWith y bytes maxL ret hh).before args s = true) (hy : y.cls ≠ "java/lang/invoke/MethodHandle" ∧ y.cls ≠ "java/lang/invoke/VarHandle")
    {W9 : Nat} {Pre : Pt → Array Value → Prop} {Post : Pt → Array Value → Option Value → Pt → Prop} (hK : Back l R p e below s args y 3 W9 Pre Post)
    {g : JFrame} (hg : g.method = m) (hsize : g.locals.size = c.maxLocals) {argsL rest : List Value} (hlen : ∀ sig, parseMethodDescriptor y.desc = some sig → argsL.length = sig.parameters.length)
    (hstack : g.stack = argsL.reverse ++ rest) (hW : 2 * g.monitorRoom + (rest.map fun v => v.category).sum ≤ W9) (hdg : decode c.code g.pc = .ok (.invokestatic index, 3))
    (hpre : ∀ vm₁, s.WarmedH vm₁ → Pre ⟨T.setVm vm₁, locs, cells, slots⟩ argsL.toArray) :
    ∃ (v : Option Value) (vm₁ : Vm) (B : Pt), s.WarmedH vm₁ ∧ Stand p l e R s m args below meth c B.U B.locs B.cells B.slots ∧ Post ⟨T.setVm vm₁, locs, cells, slots⟩ argsL.toArray v B ∧
      ∀ target, Steps p.tables e below (B.U.setTop { g with pc := g.pc + 3, stack := v.toList ++ rest }) target → Steps p.tables e below (T.setTop g) target := by
  obtain ⟨mk, methM, cM, hnamed, hmethM, -, -, -, -, -, -, hsigM⟩ := Cond.codeWith_spec hcode
  have hstatic : methM.isStatic = true := Cond.static_spec hnamed hmethM hstat
  obtain ⟨kP, hkP, -⟩ := className_of_methodNamed hnamed
  have hinitP : kP.init = .initialized := Cond.initialized_spec (findClass_of_methodNamed hnamed) hkP hinit
  obtain ⟨vm₁, X₁, hstep₁⟩ := X.invokestatic hexec hown hlink hnamed hmethM hstatic hkP hinitP hy (g := g) hg (argsL := argsL) (rest := rest) (hlen _ hsigM) hstack hdg
  obtain ⟨v, B, X', hpost, hsteps⟩ := hK m meth c ⟨T.setVm vm₁, locs, cells, slots⟩ { g with stack := rest } (.invokestatic index) mk argsL.toArray X₁ hg hsize hdg hW (X₁.named hnamed) (hpre vm₁ X₁.warmed)
  exact ⟨v, vm₁, B, X₁.warmed, X', hpost, fun target h => hstep₁ _ fun acts => by rw [doInvoke_state]; exact hsteps.trans h⟩
theorem vx_runSW {y : MethodName} {bytes cc : ByteArray} {maxL nL mc ms n index : Nat} {ret : Option FieldType} {hh : List (Nat × Nat × Nat × Nat)} {ws : List Cond} {rm : Room} {Pc : Array Value → State → Prop} {Qc : Array Value → State → Outcome → State → Prop} {free : Addr → Prop} {Ts : List Cond} {own : String} {As rest : List Value} {g : JFrame}
    (S : CallFix p m c cc nL s args Ts own) (hM : Met l y ws rm Pc Qc mc ms free) (cw : vx_CSW R s args own index y bytes maxL ret hh ws rm mc ms n) (hp : PreS s H Pc As)
    (hg : g.method = m) (hn : As.length = n) (hsize : g.locals.size = nL) (hstack : g.stack = As.reverse ++ rest) (hW : 2 * g.monitorRoom + (rest.map fun v => v.category).sum ≤ 8) (hdg : decode cc g.pc = .ok (.invokestatic index, 3)) (hf : cells + mc ≤ R.cells ∧ slots + ms ≤ R.slots) :
    va_Run p l e R s m args below meth c H locs cells slots mc ms g rest (Qc As.toArray) (free) := by
  obtain ⟨⟨hrc, hrs, hfr, hlo, hws, hcw⟩, hcode, hini, hy, hlen, hl, hstt⟩ := cw
  have hK : Back l R p e below s args y 3 8 (PreOf R mc ms Pc) (PostOf Qc mc ms free) := va_backW (hh := hh) (bytes := bytes) (maxL := maxL) (ret := ret) hM hp.1 hrc hrs hfr hlo hws hcw (fun a' U hW => word_at hW (Or.inl (by first | rfl | simp [Cond.onTables, Cond.keeps, Cond.steady])) hini)
  obtain ⟨hx, hb, hml, ho, -⟩ := S
  intro T hT X
  obtain ⟨v, vm₁, ⟨U', l2, c2, s2⟩, hW₁, X', ⟨g', mk, t, L, e1, e2, hq, h1, hL, h2, h3⟩, st⟩ := vx_callSW X hx (hh := hh) (bytes := bytes) (maxL := maxL) (ret := ret) ho hl hstt hini hcode hy hK hg (hsize.trans hml.symm) (argsL := As) (rest := rest) (fun sig h => hn.trans (hlen sig h)) hstack hW (by rw [hb]; exact hdg)
    (fun vm₁ hW₁ => ⟨hf.1, hf.2, hp.2 (T.setVm vm₁) hT hW₁⟩)
  dsimp only [Pt.U, Pt.locs, Pt.cells, Pt.slots] at X' e1 e2 h1 h2 h3 st
  subst h1; subst h2; subst h3
  exact ⟨v, (T.setVm vm₁).calling g' mk As.toArray, t, U', L, hT, X', hL, e1, e2, hq, st⟩
/-- not caught here, past rows that name other classes: it goes on to the caller -/
theorem vx_outP {p : Program} {l : Launch} {e : Env} {R : Room} {s : State} {m : MethodId} {args : Array Value} {below : List Frame} {meth : Method} {c : Code} {H : Heap} {locs : List Loc} {cells slots : Nat} {free : Addr → Prop} {ls : Array Slot} {rest : List Value} {Qc : Array Value → State → Outcome → State → Prop} {XC : String → State → State → Prop}
    {pc : Nat} {own E : String} {ce : Cell} {q : Addr} {mc ms : Nat} (hown : s.vm.findClass own = some m.cls) (hlocks : meth.locks = false)
    (hpass : ∀ z ∈ c.exceptionTable.toList, covers z pc = false ∨ (z.catchType ≠ 0 ∧ ∃ nm : String, (Cond.classLink own z.catchType nm).before args s = true ∧ va_Nc E nm s)) (hcell : H[q]? = some ce) (hv : ce.vm = .none) (hcl : s.vm.findClass E = some ce.cls)
    (hx : ∀ t : State, t.heap = H → s.vm.Alike t.vm → XC E s t) (hf : ∀ z ∈ locs, free z.base) (hc : cells ≤ mc) (hs : slots ≤ ms) :
    vx_W p l e R s m args below meth c H locs cells slots (vx_MQ below Qc XC args s mc ms free) (F0 m pc ls rest) q := by
  intro T hT X
  have hpl : e.platform.magicAccessors = ({} : Platform).magicAccessors := by rw [X.admits.platform]
  obtain ⟨vm', hW', X', st⟩ := X.outThrough hlocks q (g := F0 m pc ls rest) rfl rfl rfl (cell := ce) (by rw [hT]; exact hcell) (by rw [hv]; rfl)
    (by obtain ⟨k9, h9, -⟩ := Vm.findClass_spec hcl; exact ⟨k9, h9⟩) (fun z hz => by
      rcases hpass z hz with h | ⟨hz0, nm, hl1, hn1⟩
      · exact Or.inl h
      · obtain ⟨c6, hc6, hcl6⟩ := Cond.classLink_spec hown hl1 e.platform hpl
        obtain ⟨a8, b8, h1, h2, h3⟩ := hn1
        cases Option.some.inj (h1.symm.trans hcl)
        cases Option.some.inj (h2.symm.trans hc6)
        exact Or.inr ⟨hz0, _, hcl6, h3⟩)
  obtain ⟨g₀, hfr⟩ := X'.frames_eq
  have hcell9 : ((T.setVm vm').setFrames (.throwing q :: below)).heap[q]? = some ce := by
    show T.heap[q]? = some ce
    rw [hT]; exact hcell
  have hend : Ended ((T.setVm vm').setFrames (.throwing q :: below)) below (.threw q) := State.frames_setFrames _ (State.cur_lt_of_frames hfr)
  refine ⟨(T.setVm vm').setFrames (.throwing q :: below), ?_, .threw q, X'.here.running, hend, Or.inr ⟨q, rfl, E, ce, locs, hx _ hT (X'.ends _).1.alike, hcell9, hv, hcl, (X'.ends _).1, (X'.ends _).2.mono hc hs, hf⟩⟩
  rw [X.pushThrowing_eq]
  exact st
/-- a thing of a world lies in the heap -/
theorem vx_lt {D : va_G} {cl : List vw_C} {ws : va_W} {H1 : Heap} (h : va_P D cl ws H1) {k : Nat} {q : Nat × va_E} (hk : ws[k]? = some q) : q.1 < H1.size := (h k q hk).lt
end VXS
/-! ===== END ===== -/
/-! ===== BEGIN methods with a table of their own: called by a name, returning or throwing ===== -/
section VXH
/-! vx_backW, vx_callVX, vx_callSX, vx_callVW, vx_runVW, vx_runVX, vx_runSX, vx_ofWH follow the same proofs as their sisters above (Free/Laws.lean, Shelf42/LK1.lean); vx_outP calls Shelf42/NT130.lean (outThrough). -/
section
variable {l : Launch} {R : Room} {p : Program} {e : Env} {below : List Frame} {s : State} {sargs : Array Value} {y : MethodName} {len W9 : Nat}
theorem vx_backW {ws : List Cond} {rm : Room} {Pc : Array Value → State → Prop} {Qc : Array Value → State → Outcome → State → Prop} {XC : String → State → State → Prop} {mc ms : Nat} {free : Addr → Prop} {bytes : ByteArray} {maxL : Nat} {ret : Option FieldType} {hh : List (Nat × Nat × Nat × Nat)}
    (hM : vx_Met l y ws rm Pc Qc XC mc ms free) (hblind : FrameBlind Pc) (hrc : rm.cells = mc) (hrs : rm.slots = ms)
    (hframes : rm.frames + 1 ≤ R.frames) (hlocals : W9 + (maxL + 11) + rm.locals ≤ R.locals)
    (hws : ∀ w ∈ ws, ∀ a' U, s.WarmedH U.vm → w.before a' U = true) (hcode : Cond.codeWith y bytes maxL ret hh ∈ ws) (hinit : ∀ a' U, s.WarmedH U.vm → (Cond.initialized y.cls).before a' U = true) :
    vx_Back l R p e below s sargs y len W9 (PreOf R mc ms Pc) (PostOf Qc mc ms free) (vx_Post XC mc ms free) := by
  intro m meth c A g ig mk a X hg hsize hdg hW hn hp
  have h1 : (headSpec ws rm).pre.before a A.U = true := atoms_intro fun w hw => hws w hw _ _ X.warmed
  have h2 : (Cond.codeWith y bytes maxL ret hh).before a A.U = true := hws _ hcode _ _ X.warmed
  have h3 : (Cond.initialized y.cls).before a A.U = true := hinit _ _ X.warmed
  have h4 : A.cells + (headSpec ws rm).room.cells ≤ R.cells := by rw [show (headSpec ws rm).room.cells = mc from hrc]; exact hp.1
  have h5 : A.slots + (headSpec ws rm).room.slots ≤ R.slots := by rw [show (headSpec ws rm).room.slots = ms from hrs]; exact hp.2.1
  have hPc : Pc a (A.U.calling g mk a) := hblind _ _ _ _ hp.2.2
  obtain ⟨U, Ls, c0, s0⟩ := A
  dsimp only [Pt.U, Pt.locs, Pt.cells, Pt.slots] at h1 h2 h3 h4 h5 X hn hPc ⊢
  obtain ⟨m9, methY, cY, hn9, hmY, hcY, -, hlY, -⟩ := Cond.codeWith_spec h2
  cases Option.some.inj (hn9.symm.trans hn)
  obtain ⟨kY, hkY, -⟩ := className_of_methodNamed hn
  have hinitY : kY.init = .initialized := Cond.initialized_spec (findClass_of_methodNamed hn) hkY h3
  have h : At U g.method c below := by rw [hg]; exact X.here
  have hlocals9 : W9 + (maxL + 11) + (headSpec ws rm).room.locals ≤ R.locals := hlocals
  have happ : (headSpec ws rm).appliesLoose y e.platform (U.calling g mk a) = true :=
    Spec.appliesLoose_calling (g := g) h hdg hn hkY hinitY
      (X.room_calling (g := g) (R' := (headSpec ws rm).room) hsize hmY hcY hframes (by rw [hlY]; omega) h4 h5) h1
  obtain ⟨mid, hmid⟩ := h.above
  have hfr : (U.setTop g).frames = (.java g :: mid) ++ below := by rw [State.frames_setTop' g h.top, hmid]; rfl
  obtain ⟨o, s₂, hsteps, -, hend, hq⟩ := Steps.callFree hM p X.admits X.cas X.clock (acts := []) hfr happ hPc trivial
  have hq' : vx_Q Qc XC mc ms free a (U.calling g mk a) o s₂ := hq
  rw [State.frames_setTop' g h.top] at hend
  obtain ⟨g₀, hg0⟩ := Option.isSome_iff_exists.mp h.top
  obtain ⟨r, hr⟩ := State.topJava?_eq_some.mp hg0
  have hr' : (({ U with heap := s₂.heap, slotsUsed := s₂.slotsUsed } : State).setVm s₂.vm).frames = .java g₀ :: r := hr
  rcases hq' with ⟨hqc, L, hfe, hL⟩ | ⟨q, rfl, E, ce, L, hx, hce, hcv, hcl, hW₂, hsm, hL⟩
  · obtain ⟨⟨v, rfl⟩, hW₂, e2, q2, q3, q4, q5, q6⟩ := id hfe
    have e3 : s₂ = ({ (U.calling g mk a).setFrames s₂.frames with heap := s₂.heap, slotsUsed := s₂.slotsUsed } : State).setVm s₂.vm := by
      have : s₂ = ({ s₂ with vm := (U.calling g mk a).vm } : State).setVm s₂.vm := rfl
      rw [e2] at this
      exact this
    obtain ⟨c₂, i₂, len₂, hc₂, hd₂, hf₂⟩ := hend
    have hW' : U.WarmedH s₂.vm := hW₂
    have hcc : c₂ = c := by
      have h1 : s₂.code? g.method = U.code? g.method := by
        rw [State.code?_eq, State.code?_eq, hW'.alike.method?]
      exact Option.some.inj (hc₂.symm.trans (h1.trans h.code))
    subst hcc
    have hlen : len₂ = len := by rw [hdg] at hd₂; cases hd₂; rfl
    subst hlen
    have hs₂ : s₂ = (({ U with heap := s₂.heap, slotsUsed := s₂.slotsUsed } : State).setVm s₂.vm).setTop { g with pc := g.pc + len₂, stack := v.toList ++ g.stack } := by
      refine e3.trans ?_
      rw [hf₂, State.calling_eq h.top, State.setFrames_setFrames, State.setTop_of_frames _ hr', hr]
      rfl
    have hsame : U.sameButNew ({ U with heap := s₂.heap, slotsUsed := s₂.slotsUsed } : State) L mc ms := by
      refine ⟨?_, q2, q3, q4, q5, q6⟩
      obtain ⟨t, ht, -⟩ := State.frames_cons hr
      show ({ U with heap := s₂.heap, slotsUsed := s₂.slotsUsed } : State) = { U.setFrames U.frames with heap := s₂.heap, slotsUsed := s₂.slotsUsed }
      rw [State.setFrames_self ht]
    subst hg
    refine Or.inl ⟨v, ⟨(({ U with heap := s₂.heap, slotsUsed := s₂.slotsUsed } : State).setVm s₂.vm), Ls ++ L, c0 + mc, s0 + ms⟩,
      ⟨X.admits, X.cas, X.clock, X.frames, X.room, X.hears, X.method, X.code, (X.here.setHeapUsed s₂.heap s₂.slotsUsed).setVm hW'.alike, X.tail, State.WarmedH.trans X.warmed hW', X.limits, X.bytes, X.same.trans (hsame.setVm s.vm)⟩,
      ⟨g, mk, s₂, L, rfl, rfl, hqc, rfl, hL, rfl, rfl⟩, ?_⟩
    show Steps p.tables e below _ ((({ U with heap := s₂.heap, slotsUsed := s₂.slotsUsed } : State).setVm s₂.vm).setTop { g with pc := g.pc + len₂, stack := v.toList ++ g.stack })
    rw [← hs₂]
    exact hsteps
  · obtain ⟨e2, q2, q3, q4, q5, q6⟩ := id hsm
    have e3 : s₂ = ({ (U.calling g mk a).setFrames s₂.frames with heap := s₂.heap, slotsUsed := s₂.slotsUsed } : State).setVm s₂.vm := by
      have : s₂ = ({ s₂ with vm := (U.calling g mk a).vm } : State).setVm s₂.vm := rfl
      rw [e2] at this
      exact this
    have hf₂ : s₂.frames = .throwing q :: .java g :: U.frames.tail := hend
    have hW' : U.WarmedH s₂.vm := hW₂
    have hs₂ : s₂ = ((({ U with heap := s₂.heap, slotsUsed := s₂.slotsUsed } : State).setVm s₂.vm).setTop g).pushFrame (.throwing q) := by
      refine e3.trans ?_
      rw [hf₂, State.calling_eq h.top, State.setFrames_setFrames, State.pushFrame, State.frames_setTop _ hr', State.setTop_of_frames _ hr', State.setFrames_setFrames, hr]
      rfl
    have hsame : U.sameButNew ({ U with heap := s₂.heap, slotsUsed := s₂.slotsUsed } : State) L mc ms := by
      refine ⟨?_, q2, q3, q4, q5, q6⟩
      obtain ⟨t, ht, -⟩ := State.frames_cons hr
      show ({ U with heap := s₂.heap, slotsUsed := s₂.slotsUsed } : State) = { U.setFrames U.frames with heap := s₂.heap, slotsUsed := s₂.slotsUsed }
      rw [State.setFrames_self ht]
    subst hg
    refine Or.inr ⟨q, ⟨(({ U with heap := s₂.heap, slotsUsed := s₂.slotsUsed } : State).setVm s₂.vm), Ls ++ L, c0 + mc, s0 + ms⟩,
      ⟨X.admits, X.cas, X.clock, X.frames, X.room, X.hears, X.method, X.code, (X.here.setHeapUsed s₂.heap s₂.slotsUsed).setVm hW'.alike, X.tail, State.WarmedH.trans X.warmed hW', X.limits, X.bytes, X.same.trans (hsame.setVm s.vm)⟩,
      ⟨g, mk, s₂, L, E, ce, rfl, rfl, hx, hce, hcv, hcl, rfl, hL, rfl, rfl⟩, ?_⟩
    show Steps p.tables e below _ (((({ U with heap := s₂.heap, slotsUsed := s₂.slotsUsed } : State).setVm s₂.vm).setTop g).pushFrame (.throwing q))
    rw [← hs₂]
    exact hsteps
end
variable {p : Program} {l : Launch} {e : Env} {R : Room} {s : State} {m : MethodId} {args : Array Value} {below : List Frame} {meth : Method} {c : Code} {T : State} {H : Heap} {locs : List Loc} {cells slots : Nat}
theorem vx_callVX (X : Stand p l e R s m args below meth c T locs cells slots) (hexec : p.tables.exec = Jvm.exec) {own C : String} {index : Nat} {y : MethodName} {bytes : ByteArray} {maxL : Nat} {ret : Option FieldType} {hh : List (Nat × Nat × Nat × Nat)}
    (hown : s.vm.findClass own = some m.cls) (hlink : (Cond.methodLink own index y).before args s = true) (hinst : (Cond.instanceMethod y).before args s = true) (hsel : (Cond.selects C y y).before args s = true)
    (hcode : (Cond.codeWith y bytes maxL ret hh).before args s = true) (hy : y.cls ≠ "java/lang/invoke/MethodHandle" ∧ y.cls ≠ "java/lang/invoke/VarHandle")
    {W9 : Nat} {Pre : Pt → Array Value → Prop} {Post : Pt → Array Value → Option Value → Pt → Prop} {PostX : Pt → Array Value → Addr → Pt → Prop} (hK : vx_Back l R p e below s args y 3 W9 Pre Post PostX)
    {b : Addr} {cellB : Cell} (hcell : T.heap[b]? = some cellB) (hobj : cellB.vm.isStatics = false) (hcls : s.vm.findClass C = some cellB.cls)
    {g : JFrame} (hg : g.method = m) (hsize : g.locals.size = c.maxLocals) {argsL rest : List Value} (hlen : ∀ sig, parseMethodDescriptor y.desc = some sig → argsL.length = sig.parameters.length)
    (hstack : g.stack = argsL.reverse ++ .ref b :: rest) (hW : 2 * g.monitorRoom + (rest.map fun v => v.category).sum ≤ W9) (hdg : decode c.code g.pc = .ok (.invokevirtual index, 3))
    (hpre : ∀ vm₁, s.WarmedH vm₁ → Pre ⟨T.setVm vm₁, locs, cells, slots⟩ (Value.ref b :: argsL).toArray) :
    (∃ (v : Option Value) (vm₁ : Vm) (B : Pt), s.WarmedH vm₁ ∧ Stand p l e R s m args below meth c B.U B.locs B.cells B.slots ∧ Post ⟨T.setVm vm₁, locs, cells, slots⟩ (Value.ref b :: argsL).toArray v B ∧
      ∀ target, Steps p.tables e below (B.U.setTop { g with pc := g.pc + 3, stack := v.toList ++ rest }) target → Steps p.tables e below (T.setTop g) target) ∨
    (∃ (q : Addr) (vm₁ : Vm) (B : Pt), s.WarmedH vm₁ ∧ Stand p l e R s m args below meth c B.U B.locs B.cells B.slots ∧ PostX ⟨T.setVm vm₁, locs, cells, slots⟩ (Value.ref b :: argsL).toArray q B ∧
      Steps p.tables e below (T.setTop g) ((B.U.setTop { g with stack := rest }).pushFrame (.throwing q))) := by
  obtain ⟨mk, methM, hnamed, hmethM, hstM, habM⟩ := Cond.instanceMethod_spec hinst
  obtain ⟨m8, methM', cM, hn8, hmethM', -, -, -, -, -, -, hsigM⟩ := Cond.codeWith_spec hcode
  cases Option.some.inj (hn8.symm.trans hnamed)
  cases hmethM.symm.trans hmethM'
  obtain ⟨c2, r2, m2, q1, q2, q3, q4, kP, hkP, hkPi⟩ := Cond.selects_spec hsel
  cases hcls.symm.trans q1
  cases (State.methodFound?_of_named hnamed hy).symm.trans q2
  cases hnamed.symm.trans q3
  have hselP : selectMethod e.platform s.vm cellB.cls mk = .method mk := by rw [Launch.admits_selectMethod X.admits]; exact q4
  obtain ⟨vm₁, X₁, hstep₁⟩ := X.invokevirtual hexec hown hlink hnamed hmethM hstM hkP hkPi hy (a := b) (cell := cellB) hcell
    (fun z h => by rw [h] at hobj; cases hobj) hselP hmethM habM hkP hkPi (g := g) hg (argsL := argsL) (rest := rest) (hlen _ hsigM) hstack hdg
  rcases hK m meth c ⟨T.setVm vm₁, locs, cells, slots⟩ { g with stack := rest } (.invokevirtual index) mk (Value.ref b :: argsL).toArray X₁ hg hsize hdg hW (X₁.named hnamed) (hpre vm₁ X₁.warmed) with ⟨v, B, X', hpost, hsteps⟩ | ⟨q, B, X', hpost, hsteps⟩
  · exact Or.inl ⟨v, vm₁, B, X₁.warmed, X', hpost, fun target h => hstep₁ _ fun acts => by rw [doInvoke_state]; exact hsteps.trans h⟩
  · exact Or.inr ⟨q, vm₁, B, X₁.warmed, X', hpost, hstep₁ _ fun acts => by rw [doInvoke_state]; exact hsteps⟩
theorem vx_callSX (X : Stand p l e R s m args below meth c T locs cells slots) (hexec : p.tables.exec = Jvm.exec) {own : String} {index : Nat} {y : MethodName} {bytes : ByteArray} {maxL : Nat} {ret : Option FieldType} {hh : List (Nat × Nat × Nat × Nat)}
    (hown : s.vm.findClass own = some m.cls) (hlink : (Cond.methodLink own index y).before args s = true) (hstat : (Cond.static y).before args s = true) (hinit : (Cond.initialized y.cls).before args s = true)
    (hcode : (Cond.codeWith y bytes maxL ret hh).before args s = true) (hy : y.cls ≠ "java/lang/invoke/MethodHandle" ∧ y.cls ≠ "java/lang/invoke/VarHandle")
    {W9 : Nat} {Pre : Pt → Array Value → Prop} {Post : Pt → Array Value → Option Value → Pt → Prop} {PostX : Pt → Array Value → Addr → Pt → Prop} (hK : vx_Back l R p e below s args y 3 W9 Pre Post PostX)
    {g : JFrame} (hg : g.method = m) (hsize : g.locals.size = c.maxLocals) {argsL rest : List Value} (hlen : ∀ sig, parseMethodDescriptor y.desc = some sig → argsL.length = sig.parameters.length)
    (hstack : g.stack = argsL.reverse ++ rest) (hW : 2 * g.monitorRoom + (rest.map fun v => v.category).sum ≤ W9) (hdg : decode c.code g.pc = .ok (.invokestatic index, 3))
    (hpre : ∀ vm₁, s.WarmedH vm₁ → Pre ⟨T.setVm vm₁, locs, cells, slots⟩ argsL.toArray) :
    (∃ (v : Option Value) (vm₁ : Vm) (B : Pt), s.WarmedH vm₁ ∧ Stand p l e R s m args below meth c B.U B.locs B.cells B.slots ∧ Post ⟨T.setVm vm₁, locs, cells, slots⟩ argsL.toArray v B ∧
      ∀ target, Steps p.tables e below (B.U.setTop { g with pc := g.pc + 3, stack := v.toList ++ rest }) target → Steps p.tables e below (T.setTop g) target) ∨
    (∃ (q : Addr) (vm₁ : Vm) (B : Pt), s.WarmedH vm₁ ∧ Stand p l e R s m args below meth c B.U B.locs B.cells B.slots ∧ PostX ⟨T.setVm vm₁, locs, cells, slots⟩ argsL.toArray q B ∧
      Steps p.tables e below (T.setTop g) ((B.U.setTop { g with stack := rest }).pushFrame (.throwing q))) := by
  obtain ⟨mk, methM, cM, hnamed, hmethM, -, -, -, -, -, -, hsigM⟩ := Cond.codeWith_spec hcode
  have hstatic : methM.isStatic = true := Cond.static_spec hnamed hmethM hstat
  obtain ⟨kP, hkP, -⟩ := className_of_methodNamed hnamed
  have hinitP : kP.init = .initialized := Cond.initialized_spec (findClass_of_methodNamed hnamed) hkP hinit
  obtain ⟨vm₁, X₁, hstep₁⟩ := X.invokestatic hexec hown hlink hnamed hmethM hstatic hkP hinitP hy (g := g) hg (argsL := argsL) (rest := rest) (hlen _ hsigM) hstack hdg
  rcases hK m meth c ⟨T.setVm vm₁, locs, cells, slots⟩ { g with stack := rest } (.invokestatic index) mk argsL.toArray X₁ hg hsize hdg hW (X₁.named hnamed) (hpre vm₁ X₁.warmed) with ⟨v, B, X', hpost, hsteps⟩ | ⟨q, B, X', hpost, hsteps⟩
  · exact Or.inl ⟨v, vm₁, B, X₁.warmed, X', hpost, fun target h => hstep₁ _ fun acts => by rw [doInvoke_state]; exact hsteps.trans h⟩
  · exact Or.inr ⟨q, vm₁, B, X₁.warmed, X', hpost, hstep₁ _ fun acts => by rw [doInvoke_state]; exact hsteps⟩
theorem vx_callVW (X : Stand p l e R s m args below meth c T locs cells slots) (hexec : p.tables.exec = Jvm.exec) {own C : String} {index : Nat} {y : MethodName} {bytes : ByteArray} {maxL : Nat} {ret : Option FieldType} {hh : List (Nat × Nat × Nat × Nat)}
    (hown : s.vm.findClass own = some m.cls) (hlink : (Cond.methodLink own index y).before args s = true) (hinst : (Cond.instanceMethod y).before args s = true) (hsel : (Cond.selects C y y).before args s = true)
    (hcode : (Cond.codeWith y bytes maxL ret hh).before args s = true) (hy : y.cls ≠ "java/lang/invoke/MethodHandle" ∧ y.cls ≠ "java/lang/invoke/VarHandle")
    {W9 : Nat} {Pre : Pt → Array Value → Prop} {Post : Pt → Array Value → Option Value → Pt → Prop} (hK : Back l R p e below s args y 3 W9 Pre Post)
    {b : Addr} {cellB : Cell} (hcell : T.heap[b]? = some cellB) (hobj : cellB.vm.isStatics = false) (hcls : s.vm.findClass C = some cellB.cls)
    {g : JFrame} (hg : g.method = m) (hsize : g.locals.size = c.maxLocals) {argsL rest : List Value} (hlen : ∀ sig, parseMethodDescriptor y.desc = some sig → argsL.length = sig.parameters.length)
    (hstack : g.stack = argsL.reverse ++ .ref b :: rest) (hW : 2 * g.monitorRoom + (rest.map fun v => v.category).sum ≤ W9) (hdg : decode c.code g.pc = .ok (.invokevirtual index, 3))
    (hpre : ∀ vm₁, s.WarmedH vm₁ → Pre ⟨T.setVm vm₁, locs, cells, slots⟩ (Value.ref b :: argsL).toArray) :
    ∃ (v : Option Value) (vm₁ : Vm) (B : Pt), s.WarmedH vm₁ ∧ Stand p l e R s m args below meth c B.U B.locs B.cells B.slots ∧ Post ⟨T.setVm vm₁, locs, cells, slots⟩ (Value.ref b :: argsL).toArray v B ∧
      ∀ target, Steps p.tables e below (B.U.setTop { g with pc := g.pc + 3, stack := v.toList ++ rest }) target → Steps p.tables e below (T.setTop g) target := by
  obtain ⟨mk, methM, hnamed, hmethM, hstM, habM⟩ := Cond.instanceMethod_spec hinst
  obtain ⟨m8, methM', cM, hn8, hmethM', -, -, -, -, -, -, hsigM⟩ := Cond.codeWith_spec hcode
  cases Option.some.inj (hn8.symm.trans hnamed)
  cases hmethM.symm.trans hmethM'
  obtain ⟨c2, r2, m2, q1, q2, q3, q4, kP, hkP, hkPi⟩ := Cond.selects_spec hsel
  cases hcls.symm.trans q1
  cases (State.methodFound?_of_named hnamed hy).symm.trans q2
  cases hnamed.symm.trans q3
  have hselP : selectMethod e.platform s.vm cellB.cls mk = .method mk := by rw [Launch.admits_selectMethod X.admits]; exact q4
  obtain ⟨vm₁, X₁, hstep₁⟩ := X.invokevirtual hexec hown hlink hnamed hmethM hstM hkP hkPi hy (a := b) (cell := cellB) hcell
    (fun z h => by rw [h] at hobj; cases hobj) hselP hmethM habM hkP hkPi (g := g) hg (argsL := argsL) (rest := rest) (hlen _ hsigM) hstack hdg
  obtain ⟨v, B, X', hpost, hsteps⟩ := hK m meth c ⟨T.setVm vm₁, locs, cells, slots⟩ { g with stack := rest } (.invokevirtual index) mk (Value.ref b :: argsL).toArray X₁ hg hsize hdg hW (X₁.named hnamed) (hpre vm₁ X₁.warmed)
  exact ⟨v, vm₁, B, X₁.warmed, X', hpost, fun target h => hstep₁ _ fun acts => by rw [doInvoke_state]; exact hsteps.trans h⟩
abbrev vx_CVW (R : Room) (s : State) (args : Array Value) (own C : String) (index : Nat) (y : MethodName) (bytes : ByteArray) (maxL : Nat) (ret : Option FieldType) (hh : List (Nat × Nat × Nat × Nat)) (ws : List Cond) (rm : Room) (mc ms n : Nat) : Prop :=
  (rm.cells = mc ∧ rm.slots = ms ∧ rm.frames + 1 ≤ R.frames ∧ 8 + (maxL + 11) + rm.locals ≤ R.locals ∧ (∀ w ∈ ws, ∀ (a' : Array Value) (U : State), s.WarmedH U.vm → w.before a' U = true) ∧ Cond.codeWith y bytes maxL ret hh ∈ ws) ∧
  (Cond.codeWith y bytes maxL ret hh).before args s = true ∧ (Cond.initialized y.cls).before args s = true ∧ (y.cls ≠ "java/lang/invoke/MethodHandle" ∧ y.cls ≠ "java/lang/invoke/VarHandle") ∧
  (∀ sig, parseMethodDescriptor y.desc = some sig → n = sig.parameters.length) ∧ (Cond.methodLink own index y).before args s = true ∧ (Cond.instanceMethod y).before args s = true ∧ (Cond.selects C y y).before args s = true
theorem vx_cwVW {own C : String} {index maxL mc ms : Nat} {y : MethodName} {bytes : ByteArray} {ret : Option FieldType} {hh : List (Nat × Nat × Nat × Nat)} {Ts ws ws' : List Cond} {rm : Room} (n : Nat) (ht : ∀ w ∈ Ts, w.before args s = true) (hT : GoodIn Ts (wsV own index C y ws)) (hw : ws = Cond.codeWith y bytes maxL ret hh :: ws') (hrc : rm.cells = mc) (hrs : rm.slots = ms)
    (hd : y.cls = C ∧ y.cls ≠ "java/lang/invoke/MethodHandle" ∧ y.cls ≠ "java/lang/invoke/VarHandle" ∧ (parseMethodDescriptor y.desc).map (fun d => d.parameters.length) = some n) (hR : rm.frames + 1 ≤ R.frames ∧ 8 + (maxL + 11) + rm.locals ≤ R.locals) :
    vx_CVW R s args own C index y bytes maxL ret hh ws rm mc ms n := by
  obtain ⟨hC, hd⟩ := hd
  subst hC
  have ok : ∀ w ∈ wsV own index y.cls y ws, w.before args s = true := fun w h => ht w (hT w h).1
  have hG : GoodIn Ts ws := fun w h => hT w (by unfold wsV; exact List.mem_append_right _ h)
  have hc : Cond.codeWith y bytes maxL ret hh ∈ ws := by rw [hw]; exact List.mem_cons_self
  refine ⟨⟨hrc, hrs, hR.1, hR.2, pay_in ht hG, hc⟩, ht _ (hG _ hc).1, ok _ (by simp [wsV]), ⟨hd.1, hd.2.1⟩, fun sig h => ?_, ok _ (by simp [wsV]), ok _ (by simp [wsV]), ok _ (by simp [wsV])⟩
  have h2 := hd.2.2
  rw [h] at h2
  exact (Option.some.inj h2).symm
theorem vx_runVW {y : MethodName} {bytes cc : ByteArray} {maxL nL mc ms n index : Nat} {ret : Option FieldType} {hh : List (Nat × Nat × Nat × Nat)} {ws : List Cond} {rm : Room} {Pc : Array Value → State → Prop} {Qc : Array Value → State → Outcome → State → Prop} {free : Addr → Prop} {Ts : List Cond} {own C : String} {b : Addr} {As rest : List Value} {g : JFrame}
    (S : CallFix p m c cc nL s args Ts own) (hM : Met l y ws rm Pc Qc mc ms free) (cw : vx_CVW R s args own C index y bytes maxL ret hh ws rm mc ms n) (hp : PreV s H C b Pc As)
    (hg : g.method = m) (hn : As.length = n) (hsize : g.locals.size = nL) (hstack : g.stack = As.reverse ++ .ref b :: rest) (hW : 2 * g.monitorRoom + (rest.map fun v => v.category).sum ≤ 8) (hdg : decode cc g.pc = .ok (.invokevirtual index, 3)) (hf : cells + mc ≤ R.cells ∧ slots + ms ≤ R.slots) :
    va_Run p l e R s m args below meth c H locs cells slots mc ms g rest (Qc (Value.ref b :: As).toArray) free := by
  obtain ⟨⟨hrc, hrs, hfr, hlo, hws, hcw⟩, hcode, hini, hy, hlen, hl, hin, hse⟩ := cw
  have hK : Back l R p e below s args y 3 8 (PreOf R mc ms Pc) (PostOf Qc mc ms free) := va_backW (hh := hh) (bytes := bytes) (maxL := maxL) (ret := ret) hM hp.1 hrc hrs hfr hlo hws hcw (fun a' U hW => word_at hW (Or.inl (by first | rfl | simp [Cond.onTables, Cond.keeps, Cond.steady])) hini)
  obtain ⟨hx, hb, hml, ho, -⟩ := S
  obtain ⟨-, ⟨cellB, hcB, hoB, hclB⟩, hPc⟩ := hp
  intro T hT X
  obtain ⟨v, vm₁, ⟨U', l2, c2, s2⟩, hW₁, X', ⟨g', mk, t, L, e1, e2, hq, h1, hL, h2, h3⟩, st⟩ := vx_callVW X hx (C := C) (hh := hh) (bytes := bytes) (maxL := maxL) (ret := ret) ho hl hin hse hcode hy hK (by rw [hT]; exact hcB) hoB hclB hg (hsize.trans hml.symm) (argsL := As) (rest := rest) (fun sig h => hn.trans (hlen sig h)) hstack hW (by rw [hb]; exact hdg)
    (fun vm₁ hW₁ => ⟨hf.1, hf.2, hPc (T.setVm vm₁) hT hW₁⟩)
  dsimp only [Pt.U, Pt.locs, Pt.cells, Pt.slots] at X' e1 e2 h1 h2 h3 st
  subst h1; subst h2; subst h3
  exact ⟨v, (T.setVm vm₁).calling g' mk (Value.ref b :: As).toArray, t, U', L, hT, X', hL, e1, e2, hq, st⟩
section
variable {y : MethodName} {bytes cc : ByteArray} {maxL nL mc ms n index : Nat} {ret : Option FieldType} {ws : List Cond} {rm : Room} {Pc : Array Value → State → Prop} {Qc : Array Value → State → Outcome → State → Prop} {XC : String → State → State → Prop} {free : Addr → Prop} {Ts : List Cond} {own C : String} {b : Addr} {As rest : List Value} {g : JFrame}
theorem vx_runVX {hh : List (Nat × Nat × Nat × Nat)} (S : CallFix p m c cc nL s args Ts own) (hM : vx_Met l y ws rm Pc Qc XC mc ms free) (cw : vx_CVW R s args own C index y bytes maxL ret hh ws rm mc ms n) (hp : PreV s H C b Pc As)
    (hg : g.method = m) (hn : As.length = n) (hsize : g.locals.size = nL) (hstack : g.stack = As.reverse ++ .ref b :: rest) (hW : 2 * g.monitorRoom + (rest.map fun v => v.category).sum ≤ 8) (hdg : decode cc g.pc = .ok (.invokevirtual index, 3)) (hf : cells + mc ≤ R.cells ∧ slots + ms ≤ R.slots) :
    vx_Run p l e R s m args below meth c H locs cells slots mc ms g rest (Qc (Value.ref b :: As).toArray) XC free := by
  obtain ⟨⟨hrc, hrs, hfr, hlo, hws, hcw⟩, hcode, hini, hy, hlen, hl, hin, hse⟩ := cw
  have hK : vx_Back l R p e below s args y 3 8 (PreOf R mc ms Pc) (PostOf Qc mc ms free) (vx_Post XC mc ms free) := vx_backW (hh := hh) (bytes := bytes) (maxL := maxL) (ret := ret) hM hp.1 hrc hrs hfr hlo hws hcw (fun a' U hW => word_at hW (Or.inl (by first | rfl | simp [Cond.onTables, Cond.keeps, Cond.steady])) hini)
  obtain ⟨hx, hb, hml, ho, -⟩ := S
  obtain ⟨-, ⟨cellB, hcB, hoB, hclB⟩, hPc⟩ := hp
  intro T hT X
  rcases vx_callVX X hx (C := C) (hh := hh) (bytes := bytes) (maxL := maxL) (ret := ret) ho hl hin hse hcode hy hK (by rw [hT]; exact hcB) hoB hclB hg (hsize.trans hml.symm) (argsL := As) (rest := rest) (fun sig h => hn.trans (hlen sig h)) hstack hW (by rw [hb]; exact hdg)
    (fun vm₁ hW₁ => ⟨hf.1, hf.2, hPc (T.setVm vm₁) hT hW₁⟩) with ⟨v, vm₁, ⟨U', l2, c2, s2⟩, hW₁, X', ⟨g', mk, t, L, e1, e2, hq, h1, hL, h2, h3⟩, st⟩ | ⟨q, vm₁, ⟨U', l2, c2, s2⟩, hW₁, X', ⟨g', mk, t, L, E, ce, e1, e2, hq, hce, hcv, hcl, h1, hL, h2, h3⟩, st⟩
  · dsimp only [Pt.U, Pt.locs, Pt.cells, Pt.slots] at X' e1 e2 h1 h2 h3 st
    subst h1; subst h2; subst h3
    exact Or.inl ⟨v, (T.setVm vm₁).calling g' mk (Value.ref b :: As).toArray, t, U', L, hT, X', hL, e1, e2, hq, st⟩
  · dsimp only [Pt.U, Pt.locs, Pt.cells, Pt.slots] at X' e1 e2 h1 h2 h3 st hcl
    subst h1; subst h2; subst h3
    exact Or.inr ⟨q, (T.setVm vm₁).calling g' mk (Value.ref b :: As).toArray, t, U', L, E, ce, hT, X', hL, e1, e2, hq, hce, hcv, vx_cls hW₁ hcl, st⟩
theorem vx_runSX {hh : List (Nat × Nat × Nat × Nat)} (S : CallFix p m c cc nL s args Ts own) (hM : vx_Met l y ws rm Pc Qc XC mc ms free) (cw : vx_CSW R s args own index y bytes maxL ret hh ws rm mc ms n) (hp : PreS s H Pc As)
    (hg : g.method = m) (hn : As.length = n) (hsize : g.locals.size = nL) (hstack : g.stack = As.reverse ++ rest) (hW : 2 * g.monitorRoom + (rest.map fun v => v.category).sum ≤ 8) (hdg : decode cc g.pc = .ok (.invokestatic index, 3)) (hf : cells + mc ≤ R.cells ∧ slots + ms ≤ R.slots) :
    vx_Run p l e R s m args below meth c H locs cells slots mc ms g rest (Qc As.toArray) XC free := by
  obtain ⟨⟨hrc, hrs, hfr, hlo, hws, hcw⟩, hcode, hini, hy, hlen, hl, hstt⟩ := cw
  have hK : vx_Back l R p e below s args y 3 8 (PreOf R mc ms Pc) (PostOf Qc mc ms free) (vx_Post XC mc ms free) := vx_backW (hh := hh) (bytes := bytes) (maxL := maxL) (ret := ret) hM hp.1 hrc hrs hfr hlo hws hcw (fun a' U hW => word_at hW (Or.inl (by first | rfl | simp [Cond.onTables, Cond.keeps, Cond.steady])) hini)
  obtain ⟨hx, hb, hml, ho, -⟩ := S
  intro T hT X
  rcases vx_callSX X hx (hh := hh) (bytes := bytes) (maxL := maxL) (ret := ret) ho hl hstt hini hcode hy hK hg (hsize.trans hml.symm) (argsL := As) (rest := rest) (fun sig h => hn.trans (hlen sig h)) hstack hW (by rw [hb]; exact hdg)
    (fun vm₁ hW₁ => ⟨hf.1, hf.2, hp.2 (T.setVm vm₁) hT hW₁⟩) with ⟨v, vm₁, ⟨U', l2, c2, s2⟩, hW₁, X', ⟨g', mk, t, L, e1, e2, hq, h1, hL, h2, h3⟩, st⟩ | ⟨q, vm₁, ⟨U', l2, c2, s2⟩, hW₁, X', ⟨g', mk, t, L, E, ce, e1, e2, hq, hce, hcv, hcl, h1, hL, h2, h3⟩, st⟩
  · dsimp only [Pt.U, Pt.locs, Pt.cells, Pt.slots] at X' e1 e2 h1 h2 h3 st
    subst h1; subst h2; subst h3
    exact Or.inl ⟨v, (T.setVm vm₁).calling g' mk As.toArray, t, U', L, hT, X', hL, e1, e2, hq, st⟩
  · dsimp only [Pt.U, Pt.locs, Pt.cells, Pt.slots] at X' e1 e2 h1 h2 h3 st hcl
    subst h1; subst h2; subst h3
    exact Or.inr ⟨q, (T.setVm vm₁).calling g' mk As.toArray, t, U', L, E, ce, hT, X', hL, e1, e2, hq, hce, hcv, vx_cls hW₁ hcl, st⟩
end
end VXH
theorem vx_ofWH {l : Launch} {y : MethodName} {ws ws' : List Cond} {rm : Room} {Pc : Array Value → State → Prop} {Qc : Array Value → State → Outcome → State → Prop} {XC : String → State → State → Prop} {mc ms : Nat} {free : Addr → Prop} {cc : ByteArray} {maxL : Nat} {ret : Option FieldType} {hh : List (Nat × Nat × Nat × Nat)}
    (hy : plainName y.cls = true) (hw : ws = Cond.codeWith y cc maxL ret hh :: ws')
    (body : ∀ p e s m args below meth c s₁, BodyLoose p l y (headSpec ws rm) cc maxL ret e s m args below meth c s₁ → c.maxLocals = maxL → Pc args s →
      W p l e (headSpec ws rm).room s m args below meth c s.heap [] 0 0 (vx_MQ below Qc XC args s mc ms free) (entryFrame m args maxL)) : vx_Met l y ws rm Pc Qc XC mc ms free := by
  refine MetFree.of_bodyS (code := cc) (maxLocals := maxL) (ret := ret) hy ?_ ?_
  · intro args s m h hn
    obtain ⟨m9, meth, c, hn9, h1, h2, h3, h4, -, h5, h6, -⟩ := Cond.codeWith_spec (atoms_spec (ws := ws) h _ (by rw [hw]; exact List.mem_cons_self))
    cases hn.symm.trans hn9
    exact ⟨meth, c, h1, h2, h3, h4, h5, h6⟩
  · intro p e s m args below meth c s₁ B hml hP _
    have hh0 : s₁.heap = s.heap := by rw [B.state]; rfl
    obtain ⟨t, a1, o, b1, b2, b3⟩ := body p e s m args below meth c s₁ B hml hP s₁ hh0 (Stand.of_body B)
    exact ⟨t, o, a1, b1, b2, b3⟩
/-! ===== END ===== -/
end
section
/-! ===== BEGIN printed: names, fields, word lists, decode rows ===== -/
def RX0 : String := "CryptSums$Corridors"
def TX0 : u_T := fun k => match k with
  | 0 => ("CryptSums$Corridors", "stones", "[I", true)
  | 1 => ("CryptSums$Corridors", "partitions", "LCryptSums$Partitions;", true)
  | 2 => ("CryptSums$Corridors", "told", "[I", true)
  | 3 => ("CryptSums$Corridors", "first", "[I", true)
  | 4 => ("CryptSums$Corridors", "size", "[I", true)
  | 5 => ("CryptSums$Corridors", "step", "I", false)
  | 6 => ("CryptSums$Corridors", "seenNumbers", "I", false)
  | 7 => ("CryptSums$Corridors", "seenStones", "I", false)
  | _ => ("CryptSums$Corridors", "seenTotal", "I", false)
def tyX0 : Nat → FieldType := fun k => match k with
  | 0 => .array .int
  | 1 => .object "CryptSums$Partitions"
  | 2 => .array .int
  | 3 => .array .int
  | 4 => .array .int
  | 5 => .int
  | 6 => .int
  | 7 => .int
  | _ => .int
abbrev wsX00 : List Cond := u_ws RX0 TX0 9
theorem nmX0 : ∀ a, a < 9 → ∀ b, b < 9 → a ≠ b → (TX0 a).2.1 ≠ (TX0 b).2.1 := by decide +kernel
theorem tyX0_ok : ∀ k, k < 9 → parseFieldDescriptor (TX0 k).2.2.1 = some (tyX0 k) := by decide +kernel
abbrev cX0_init : ByteArray := prog_2_method_1_code
def yX0_init : MethodName := ⟨RX0, "<init>", "([ILCryptSums$Partitions;)V"⟩
abbrev cX0_clear : ByteArray := prog_2_method_2_code
def yX0_clear : MethodName := ⟨RX0, "clear", "(I)V"⟩
abbrev cX0_tellSum : ByteArray := prog_2_method_3_code
def yX0_tellSum : MethodName := ⟨RX0, "tellSum", "(II)I"⟩
abbrev cX0_toldAt : ByteArray := prog_2_method_4_code
def yX0_toldAt : MethodName := ⟨RX0, "toldAt", "(I)I"⟩
abbrev cX0_join : ByteArray := prog_2_method_5_code
def yX0_join : MethodName := ⟨RX0, "join", "(II)V"⟩
abbrev cX0_beginsAt : ByteArray := prog_2_method_6_code
def yX0_beginsAt : MethodName := ⟨RX0, "beginsAt", "(I)Z"⟩
abbrev cX0_tell : ByteArray := prog_2_method_7_code
def yX0_tell : MethodName := ⟨RX0, "tell", "(II)I"⟩
abbrev cX0_isWellFrom : ByteArray := prog_2_method_8_code
def yX0_isWellFrom : MethodName := ⟨RX0, "isWellFrom", "(I)Z"⟩
abbrev cX0_numbersFor : ByteArray := prog_2_method_9_code
def yX0_numbersFor : MethodName := ⟨RX0, "numbersFor", "(I)I"⟩
abbrev cX0_sawAlike : ByteArray := prog_2_method_10_code
def yX0_sawAlike : MethodName := ⟨RX0, "sawAlike", "()Z"⟩
abbrev cX0_look : ByteArray := prog_2_method_11_code
def yX0_look : MethodName := ⟨RX0, "look", "(I)V"⟩
def RX1 : String := "CryptSums$Floor"
def TX1 : u_T := fun k => match k with
  | 0 => ("CryptSums$Floor", "stones", "[I", true)
  | 1 => ("CryptSums$Floor", "across", "LCryptSums$Corridors;", true)
  | 2 => ("CryptSums$Floor", "down", "LCryptSums$Corridors;", true)
  | 3 => ("CryptSums$Floor", "columns", "I", false)
  | _ => ("CryptSums$Floor", "rows", "I", false)
def tyX1 : Nat → FieldType := fun k => match k with
  | 0 => .array .int
  | 1 => .object "CryptSums$Corridors"
  | 2 => .object "CryptSums$Corridors"
  | 3 => .int
  | _ => .int
abbrev wsX10 : List Cond := u_ws RX1 TX1 5
theorem nmX1 : ∀ a, a < 5 → ∀ b, b < 5 → a ≠ b → (TX1 a).2.1 ≠ (TX1 b).2.1 := by decide +kernel
theorem tyX1_ok : ∀ k, k < 5 → parseFieldDescriptor (TX1 k).2.2.1 = some (tyX1 k) := by decide +kernel
abbrev cX1_init : ByteArray := prog_3_method_1_code
def yX1_init : MethodName := ⟨RX1, "<init>", "()V"⟩
abbrev cX1_clear : ByteArray := prog_3_method_2_code
def yX1_clear : MethodName := ⟨RX1, "clear", "(II)V"⟩
abbrev cX1_joinCells : ByteArray := prog_3_method_3_code
def yX1_joinCells : MethodName := ⟨RX1, "joinCells", "()V"⟩
abbrev cX1_cells : ByteArray := prog_3_method_4_code
def yX1_cells : MethodName := ⟨RX1, "cells", "()I"⟩
abbrev cX1_has : ByteArray := prog_3_method_5_code
def yX1_has : MethodName := ⟨RX1, "has", "(I)Z"⟩
abbrev cX1_stoneAt : ByteArray := prog_3_method_6_code
def yX1_stoneAt : MethodName := ⟨RX1, "stoneAt", "(I)I"⟩
abbrev cX1_isPillar : ByteArray := prog_3_method_7_code
def yX1_isPillar : MethodName := ⟨RX1, "isPillar", "(I)Z"⟩
abbrev cX1_isHole : ByteArray := prog_3_method_8_code
def yX1_isHole : MethodName := ⟨RX1, "isHole", "(I)Z"⟩
abbrev cX1_lay : ByteArray := prog_3_method_9_code
def yX1_lay : MethodName := ⟨RX1, "lay", "(II)V"⟩
abbrev cX1_turnPillar : ByteArray := prog_3_method_10_code
def yX1_turnPillar : MethodName := ⟨RX1, "turnPillar", "(I)V"⟩
abbrev cX1_corridors : ByteArray := prog_3_method_11_code
def yX1_corridors : MethodName := ⟨RX1, "corridors", "(Z)LCryptSums$Corridors;"⟩
abbrev cX1_numbersFor : ByteArray := prog_3_method_12_code
def yX1_numbersFor : MethodName := ⟨RX1, "numbersFor", "(I)I"⟩
abbrev cX1_isAllWell : ByteArray := prog_3_method_13_code
def yX1_isAllWell : MethodName := ⟨RX1, "isAllWell", "()Z"⟩
abbrev cX1_firstSingle : ByteArray := prog_3_method_14_code
def yX1_firstSingle : MethodName := ⟨RX1, "firstSingle", "()I"⟩
abbrev cX1_tightest : ByteArray := prog_3_method_15_code
def yX1_tightest : MethodName := ⟨RX1, "tightest", "()I"⟩
abbrev cX1_meanOfNumbers : ByteArray := prog_3_method_16_code
def yX1_meanOfNumbers : MethodName := ⟨RX1, "meanOfNumbers", "()D"⟩
abbrev cX1_tally : ByteArray := prog_3_method_17_code
def yX1_tally : MethodName := ⟨RX1, "tally", "(I)I"⟩
abbrev cX1_openCells : ByteArray := prog_3_method_18_code
def yX1_openCells : MethodName := ⟨RX1, "openCells", "()I"⟩
abbrev cX1_stonesLaid : ByteArray := prog_3_method_19_code
def yX1_stonesLaid : MethodName := ⟨RX1, "stonesLaid", "()I"⟩
abbrev cX1_corridorsOf : ByteArray := prog_3_method_20_code
def yX1_corridorsOf : MethodName := ⟨RX1, "corridorsOf", "(LCryptSums$Corridors;)I"⟩
abbrev cX1_summedOf : ByteArray := prog_3_method_21_code
def yX1_summedOf : MethodName := ⟨RX1, "summedOf", "(LCryptSums$Corridors;)I"⟩
abbrev cX1_wellOf : ByteArray := prog_3_method_22_code
def yX1_wellOf : MethodName := ⟨RX1, "wellOf", "(LCryptSums$Corridors;)I"⟩
abbrev cX1_holesWithChoices : ByteArray := prog_3_method_23_code
def yX1_holesWithChoices : MethodName := ⟨RX1, "holesWithChoices", "(I)I"⟩
def RX2 : String := "CryptSums$Partitions"
def TX2 : u_T := fun k => match k with
  | _ => ("CryptSums$Partitions", "sums", "[J", true)
def tyX2 : Nat → FieldType := fun k => match k with
  | _ => .array .long
abbrev wsX20 : List Cond := u_ws RX2 TX2 1
theorem nmX2 : ∀ a, a < 1 → ∀ b, b < 1 → a ≠ b → (TX2 a).2.1 ≠ (TX2 b).2.1 := by decide +kernel
theorem tyX2_ok : ∀ k, k < 1 → parseFieldDescriptor (TX2 k).2.2.1 = some (tyX2 k) := by decide +kernel
abbrev cX2_init : ByteArray := prog_4_method_1_code
def yX2_init : MethodName := ⟨RX2, "<init>", "()V"⟩
abbrev cX2_make : ByteArray := prog_4_method_2_code
def yX2_make : MethodName := ⟨RX2, "make", "(III)Z"⟩
abbrev cX2_addHighest : ByteArray := prog_4_method_3_code
def yX2_addHighest : MethodName := ⟨RX2, "addHighest", "(II)V"⟩
abbrev cX2_sumsOf : ByteArray := prog_4_method_4_code
def yX2_sumsOf : MethodName := ⟨RX2, "sumsOf", "(II)J"⟩
abbrev cX2_keepSums : ByteArray := prog_4_method_5_code
def yX2_keepSums : MethodName := ⟨RX2, "keepSums", "(IIJ)V"⟩
def RX3 : String := "CryptSums$Search"
def TX3 : u_T := fun k => match k with
  | 0 => ("CryptSums$Search", "floor", "LCryptSums$Floor;", true)
  | 1 => ("CryptSums$Search", "holes", "[I", true)
  | 2 => ("CryptSums$Search", "kept", "[I", true)
  | 3 => ("CryptSums$Search", "holeCount", "I", false)
  | 4 => ("CryptSums$Search", "tried", "I", false)
  | 5 => ("CryptSums$Search", "found", "I", false)
  | _ => ("CryptSums$Search", "fresh", "Z", false)
def tyX3 : Nat → FieldType := fun k => match k with
  | 0 => .object "CryptSums$Floor"
  | 1 => .array .int
  | 2 => .array .int
  | 3 => .int
  | 4 => .int
  | 5 => .int
  | _ => .boolean
abbrev wsX30 : List Cond := u_ws RX3 TX3 7
theorem nmX3 : ∀ a, a < 7 → ∀ b, b < 7 → a ≠ b → (TX3 a).2.1 ≠ (TX3 b).2.1 := by decide +kernel
theorem tyX3_ok : ∀ k, k < 7 → parseFieldDescriptor (TX3 k).2.2.1 = some (tyX3 k) := by decide +kernel
abbrev cX3_init : ByteArray := prog_5_method_1_code
def yX3_init : MethodName := ⟨RX3, "<init>", "(LCryptSums$Floor;)V"⟩
abbrev cX3_forget : ByteArray := prog_5_method_2_code
def yX3_forget : MethodName := ⟨RX3, "forget", "()V"⟩
abbrev cX3_refresh : ByteArray := prog_5_method_3_code
def yX3_refresh : MethodName := ⟨RX3, "refresh", "()V"⟩
abbrev cX3_told : ByteArray := prog_5_method_4_code
def yX3_told : MethodName := ⟨RX3, "told", "()I"⟩
abbrev cX3_tried : ByteArray := prog_5_method_5_code
def yX3_tried : MethodName := ⟨RX3, "tried", "()I"⟩
abbrev cX3_firstFilling : ByteArray := prog_5_method_6_code
def yX3_firstFilling : MethodName := ⟨RX3, "firstFilling", "(I)I"⟩
abbrev cX3_isUnknown : ByteArray := prog_5_method_7_code
def yX3_isUnknown : MethodName := ⟨RX3, "isUnknown", "()Z"⟩
abbrev cX3_isOver : ByteArray := prog_5_method_8_code
def yX3_isOver : MethodName := ⟨RX3, "isOver", "()Z"⟩
abbrev cX3_collectHoles : ByteArray := prog_5_method_9_code
def yX3_collectHoles : MethodName := ⟨RX3, "collectHoles", "()V"⟩
abbrev cX3_fillFrom : ByteArray := prog_5_method_10_code
def yX3_fillFrom : MethodName := ⟨RX3, "fillFrom", "(LCryptSums$Search;I)V"⟩
abbrev cX3_keepFilling : ByteArray := prog_5_method_11_code
def yX3_keepFilling : MethodName := ⟨RX3, "keepFilling", "()V"⟩
def RX4 : String := "CryptSums"
def TX4 : u_T := fun k => match k with
  | 0 => ("CryptSums", "floor", "LCryptSums$Floor;", true)
  | _ => ("CryptSums", "search", "LCryptSums$Search;", true)
def tyX4 : Nat → FieldType := fun k => match k with
  | 0 => .object "CryptSums$Floor"
  | _ => .object "CryptSums$Search"
abbrev wsX40 : List Cond := u_ws RX4 TX4 2
theorem nmX4 : ∀ a, a < 2 → ∀ b, b < 2 → a ≠ b → (TX4 a).2.1 ≠ (TX4 b).2.1 := by decide +kernel
theorem tyX4_ok : ∀ k, k < 2 → parseFieldDescriptor (TX4 k).2.2.1 = some (tyX4 k) := by decide +kernel
abbrev cX4_init : ByteArray := prog_1_method_1_code
def yX4_init : MethodName := ⟨RX4, "<init>", "()V"⟩
abbrev cX4_setFloor : ByteArray := prog_1_method_2_code
def yX4_setFloor : MethodName := ⟨RX4, "setFloor", "(II)I"⟩
abbrev cX4_pillar : ByteArray := prog_1_method_3_code
def yX4_pillar : MethodName := ⟨RX4, "pillar", "(I)Z"⟩
abbrev cX4_setSum : ByteArray := prog_1_method_4_code
def yX4_setSum : MethodName := ⟨RX4, "setSum", "(IZI)I"⟩
abbrev cX4_put : ByteArray := prog_1_method_5_code
def yX4_put : MethodName := ⟨RX4, "put", "(II)I"⟩
abbrev cX4_force : ByteArray := prog_1_method_6_code
def yX4_force : MethodName := ⟨RX4, "force", "()I"⟩
abbrev cX4_stone : ByteArray := prog_1_method_7_code
def yX4_stone : MethodName := ⟨RX4, "stone", "(I)I"⟩
abbrev cX4_corridor : ByteArray := prog_1_method_8_code
def yX4_corridor : MethodName := ⟨RX4, "corridor", "(IZI)I"⟩
abbrev cX4_can : ByteArray := prog_1_method_9_code
def yX4_can : MethodName := ⟨RX4, "can", "(I)I"⟩
abbrev cX4_count : ByteArray := prog_1_method_10_code
def yX4_count : MethodName := ⟨RX4, "count", "(I)I"⟩
abbrev cX4_ways : ByteArray := prog_1_method_11_code
def yX4_ways : MethodName := ⟨RX4, "ways", "(II)I"⟩
abbrev cX4_forced : ByteArray := prog_1_method_12_code
def yX4_forced : MethodName := ⟨RX4, "forced", "(II)I"⟩
abbrev cX4_fillings : ByteArray := prog_1_method_13_code
def yX4_fillings : MethodName := ⟨RX4, "fillings", "()I"⟩
abbrev cX4_tries : ByteArray := prog_1_method_14_code
def yX4_tries : MethodName := ⟨RX4, "tries", "()I"⟩
abbrev cX4_solved : ByteArray := prog_1_method_15_code
def yX4_solved : MethodName := ⟨RX4, "solved", "(I)I"⟩
abbrev cX4_next : ByteArray := prog_1_method_16_code
def yX4_next : MethodName := ⟨RX4, "next", "()I"⟩
abbrev cX4_would : ByteArray := prog_1_method_17_code
def yX4_would : MethodName := ⟨RX4, "would", "(II)I"⟩
abbrev cX4_mean : ByteArray := prog_1_method_18_code
def yX4_mean : MethodName := ⟨RX4, "mean", "()D"⟩
abbrev cX4_digest : ByteArray := prog_1_method_19_code
def yX4_digest : MethodName := ⟨RX4, "digest", "()J"⟩
abbrev cX4_stirCell : ByteArray := prog_1_method_20_code
def yX4_stirCell : MethodName := ⟨RX4, "stirCell", "(JI)J"⟩
abbrev cX4_stirCorridor : ByteArray := prog_1_method_21_code
def yX4_stirCorridor : MethodName := ⟨RX4, "stirCorridor", "(JLCryptSums$Corridors;I)J"⟩
abbrev cX4_stir : ByteArray := prog_1_method_22_code
def yX4_stir : MethodName := ⟨RX4, "stir", "(JI)J"⟩
abbrev cX4_checkCell : ByteArray := prog_1_method_23_code
def yX4_checkCell : MethodName := ⟨RX4, "checkCell", "(I)V"⟩
abbrev cX4_checkOpen : ByteArray := prog_1_method_24_code
def yX4_checkOpen : MethodName := ⟨RX4, "checkOpen", "(I)V"⟩
abbrev cX4_checkPartition : ByteArray := prog_1_method_25_code
def yX4_checkPartition : MethodName := ⟨RX4, "checkPartition", "(II)V"⟩
abbrev cX4_isPartition : ByteArray := prog_1_method_26_code
def yX4_isPartition : MethodName := ⟨RX4, "isPartition", "(III)Z"⟩
abbrev cX4_totalOf : ByteArray := prog_1_method_27_code
def yX4_totalOf : MethodName := ⟨RX4, "totalOf", "(I)I"⟩
abbrev cX4_smallestOf : ByteArray := prog_1_method_28_code
def yX4_smallestOf : MethodName := ⟨RX4, "smallestOf", "(I)I"⟩
abbrev cX4_hasNumber : ByteArray := prog_1_method_29_code
def yX4_hasNumber : MethodName := ⟨RX4, "hasNumber", "(II)Z"⟩
abbrev cX4_read : ByteArray := prog_1_method_30_code
def yX4_read : MethodName := ⟨RX4, "read", "([II)I"⟩
abbrev cX4_write : ByteArray := prog_1_method_31_code
def yX4_write : MethodName := ⟨RX4, "write", "([III)V"⟩
def RX5 : String := "CryptSumsModel"
def TX5 : u_T := fun k => match k with
  | 0 => ("CryptSumsModel", "thrown", "I", false)
  | 1 => ("CryptSumsModel", "w", "I", false)
  | 2 => ("CryptSumsModel", "h", "I", false)
  | 3 => ("CryptSumsModel", "stones", "[I", true)
  | 4 => ("CryptSumsModel", "sums", "[I", true)
  | 5 => ("CryptSumsModel", "begins", "[I", true)
  | 6 => ("CryptSumsModel", "sets", "[I", true)
  | 7 => ("CryptSumsModel", "first", "[I", true)
  | 8 => ("CryptSumsModel", "tries", "I", false)
  | 9 => ("CryptSumsModel", "ways", "I", false)
  | 10 => ("CryptSumsModel", "isLong", "Z", false)
  | _ => ("CryptSumsModel", "filled", "[I", true)
def tyX5 : Nat → FieldType := fun k => match k with
  | 0 => .int
  | 1 => .int
  | 2 => .int
  | 3 => .array .int
  | 4 => .array .int
  | 5 => .array .int
  | 6 => .array .int
  | 7 => .array .int
  | 8 => .int
  | 9 => .int
  | 10 => .boolean
  | _ => .array .int
abbrev wsX50 : List Cond := u_ws RX5 TX5 12
theorem nmX5 : ∀ a, a < 12 → ∀ b, b < 12 → a ≠ b → (TX5 a).2.1 ≠ (TX5 b).2.1 := by decide +kernel
theorem tyX5_ok : ∀ k, k < 12 → parseFieldDescriptor (TX5 k).2.2.1 = some (tyX5 k) := by decide +kernel
abbrev cX5_init : ByteArray := prog_7_method_1_code
def yX5_init : MethodName := ⟨RX5, "<init>", "()V"⟩
abbrev cX5_thrown : ByteArray := prog_7_method_2_code
def yX5_thrown : MethodName := ⟨RX5, "thrown", "()I"⟩
abbrev cX5_no : ByteArray := prog_7_method_3_code
def yX5_no : MethodName := ⟨RX5, "no", "(I)I"⟩
abbrev cX5_isIn : ByteArray := prog_7_method_4_code
def yX5_isIn : MethodName := ⟨RX5, "isIn", "(III)Z"⟩
abbrev cX5_isCell : ByteArray := prog_7_method_5_code
def yX5_isCell : MethodName := ⟨RX5, "isCell", "(I)Z"⟩
abbrev cX5_sumOf : ByteArray := prog_7_method_6_code
def yX5_sumOf : MethodName := ⟨RX5, "sumOf", "(I)I"⟩
abbrev cX5_behind : ByteArray := prog_7_method_7_code
def yX5_behind : MethodName := ⟨RX5, "behind", "(II)I"⟩
abbrev cX5_link : ByteArray := prog_7_method_8_code
def yX5_link : MethodName := ⟨RX5, "link", "()V"⟩
abbrev cX5_beginOf : ByteArray := prog_7_method_9_code
def yX5_beginOf : MethodName := ⟨RX5, "beginOf", "(II)I"⟩
abbrev cX5_isOpen : ByteArray := prog_7_method_10_code
def yX5_isOpen : MethodName := ⟨RX5, "isOpen", "(I)Z"⟩
abbrev cX5_isWell : ByteArray := prog_7_method_11_code
def yX5_isWell : MethodName := ⟨RX5, "isWell", "(II)Z"⟩
abbrev cX5_isMade : ByteArray := prog_7_method_12_code
def yX5_isMade : MethodName := ⟨RX5, "isMade", "(III)Z"⟩
abbrev cX5_stands : ByteArray := prog_7_method_13_code
def yX5_stands : MethodName := ⟨RX5, "stands", "(II)Z"⟩
abbrev cX5_canOf : ByteArray := prog_7_method_14_code
def yX5_canOf : MethodName := ⟨RX5, "canOf", "(I)I"⟩
abbrev cX5_isAllWell : ByteArray := prog_7_method_15_code
def yX5_isAllWell : MethodName := ⟨RX5, "isAllWell", "()Z"⟩
abbrev cX5_isOver : ByteArray := prog_7_method_16_code
def yX5_isOver : MethodName := ⟨RX5, "isOver", "()Z"⟩
abbrev cX5_fill : ByteArray := prog_7_method_17_code
def yX5_fill : MethodName := ⟨RX5, "fill", "(I)V"⟩
abbrev cX5_look : ByteArray := prog_7_method_18_code
def yX5_look : MethodName := ⟨RX5, "look", "()V"⟩
abbrev cX5_told : ByteArray := prog_7_method_19_code
def yX5_told : MethodName := ⟨RX5, "told", "()I"⟩
abbrev cX5_setFloor : ByteArray := prog_7_method_20_code
def yX5_setFloor : MethodName := ⟨RX5, "setFloor", "(II)I"⟩
abbrev cX5_pillar : ByteArray := prog_7_method_21_code
def yX5_pillar : MethodName := ⟨RX5, "pillar", "(I)Z"⟩
abbrev cX5_setSum : ByteArray := prog_7_method_22_code
def yX5_setSum : MethodName := ⟨RX5, "setSum", "(IZI)I"⟩
abbrev cX5_put : ByteArray := prog_7_method_23_code
def yX5_put : MethodName := ⟨RX5, "put", "(II)I"⟩
abbrev cX5_single : ByteArray := prog_7_method_24_code
def yX5_single : MethodName := ⟨RX5, "single", "()I"⟩
abbrev cX5_force : ByteArray := prog_7_method_25_code
def yX5_force : MethodName := ⟨RX5, "force", "()I"⟩
abbrev cX5_stone : ByteArray := prog_7_method_26_code
def yX5_stone : MethodName := ⟨RX5, "stone", "(I)I"⟩
abbrev cX5_corridorTold : ByteArray := prog_7_method_27_code
def yX5_corridorTold : MethodName := ⟨RX5, "corridorTold", "(III)I"⟩
abbrev cX5_corridor : ByteArray := prog_7_method_28_code
def yX5_corridor : MethodName := ⟨RX5, "corridor", "(IZI)I"⟩
abbrev cX5_can : ByteArray := prog_7_method_29_code
def yX5_can : MethodName := ⟨RX5, "can", "(I)I"⟩
abbrev cX5_corridors : ByteArray := prog_7_method_30_code
def yX5_corridors : MethodName := ⟨RX5, "corridors", "(I)I"⟩
abbrev cX5_counted : ByteArray := prog_7_method_31_code
def yX5_counted : MethodName := ⟨RX5, "counted", "(I)I"⟩
abbrev cX5_count : ByteArray := prog_7_method_32_code
def yX5_count : MethodName := ⟨RX5, "count", "(I)I"⟩
abbrev cX5_forcedOf : ByteArray := prog_7_method_33_code
def yX5_forcedOf : MethodName := ⟨RX5, "forcedOf", "(II)I"⟩
abbrev cX5_ways : ByteArray := prog_7_method_34_code
def yX5_ways : MethodName := ⟨RX5, "ways", "(II)I"⟩
abbrev cX5_forced : ByteArray := prog_7_method_35_code
def yX5_forced : MethodName := ⟨RX5, "forced", "(II)I"⟩
abbrev cX5_fillings : ByteArray := prog_7_method_36_code
def yX5_fillings : MethodName := ⟨RX5, "fillings", "()I"⟩
abbrev cX5_tries : ByteArray := prog_7_method_37_code
def yX5_tries : MethodName := ⟨RX5, "tries", "()I"⟩
abbrev cX5_solvedAt : ByteArray := prog_7_method_38_code
def yX5_solvedAt : MethodName := ⟨RX5, "solvedAt", "(I)I"⟩
abbrev cX5_solved : ByteArray := prog_7_method_39_code
def yX5_solved : MethodName := ⟨RX5, "solved", "(I)I"⟩
abbrev cX5_next : ByteArray := prog_7_method_40_code
def yX5_next : MethodName := ⟨RX5, "next", "()I"⟩
abbrev cX5_would : ByteArray := prog_7_method_41_code
def yX5_would : MethodName := ⟨RX5, "would", "(II)I"⟩
abbrev cX5_mean : ByteArray := prog_7_method_42_code
def yX5_mean : MethodName := ⟨RX5, "mean", "()D"⟩
abbrev cX5_digest : ByteArray := prog_7_method_43_code
def yX5_digest : MethodName := ⟨RX5, "digest", "()J"⟩
def RJ6 : String := "java/lang/Integer"
def TJ6 : u_T := fun k => match k with
  | _ => ("", "", "", false)
def tyJ6 : Nat → FieldType := fun k => match k with
  | _ => .int
abbrev wsJ60 : List Cond := u_ws RJ6 TJ6 0
theorem nmJ6 : ∀ a, a < 0 → ∀ b, b < 0 → a ≠ b → (TJ6 a).2.1 ≠ (TJ6 b).2.1 := by decide +kernel
theorem tyJ6_ok : ∀ k, k < 0 → parseFieldDescriptor (TJ6 k).2.2.1 = some (tyJ6 k) := by decide +kernel
abbrev cJ6_numberOfTrailingZeros_0f7a4 : ByteArray := prog_12_method_48_code
def yJ6_numberOfTrailingZeros_0f7a4 : MethodName := ⟨RJ6, "numberOfTrailingZeros", "(I)I"⟩
abbrev cJ6_bitCount_0f7a4 : ByteArray := prog_12_method_49_code
def yJ6_bitCount_0f7a4 : MethodName := ⟨RJ6, "bitCount", "(I)I"⟩
def RJ0 : String := "java/lang/String"
def TJ0 : u_T := fun k => match k with
  | _ => ("", "", "", false)
def tyJ0 : Nat → FieldType := fun k => match k with
  | _ => .int
abbrev wsJ00 : List Cond := u_ws RJ0 TJ0 0
theorem nmJ0 : ∀ a, a < 0 → ∀ b, b < 0 → a ≠ b → (TJ0 a).2.1 ≠ (TJ0 b).2.1 := by decide +kernel
theorem tyJ0_ok : ∀ k, k < 0 → parseFieldDescriptor (TJ0 k).2.2.1 = some (tyJ0 k) := by decide +kernel
def RJ10 : String := "java/lang/System"
def TJ10 : u_T := fun k => match k with
  | _ => ("", "", "", false)
def tyJ10 : Nat → FieldType := fun k => match k with
  | _ => .int
abbrev wsJ100 : List Cond := u_ws RJ10 TJ10 0
theorem nmJ10 : ∀ a, a < 0 → ∀ b, b < 0 → a ≠ b → (TJ10 a).2.1 ≠ (TJ10 b).2.1 := by decide +kernel
theorem tyJ10_ok : ∀ k, k < 0 → parseFieldDescriptor (TJ10 k).2.2.1 = some (tyJ10 k) := by decide +kernel
def RL : String := "CryptSumsLaw"
abbrev cL_setFloor : ByteArray := method_3_code
def yL_setFloor : MethodName := ⟨RL, "setFloor", "(LCryptSums;II[J)I"⟩
abbrev cL_pillar : ByteArray := method_4_code
def yL_pillar : MethodName := ⟨RL, "pillar", "(LCryptSums;I[J)I"⟩
abbrev cL_setSum : ByteArray := method_5_code
def yL_setSum : MethodName := ⟨RL, "setSum", "(LCryptSums;IZI[J)I"⟩
abbrev cL_put : ByteArray := method_6_code
def yL_put : MethodName := ⟨RL, "put", "(LCryptSums;II[J)I"⟩
abbrev cL_stone : ByteArray := method_7_code
def yL_stone : MethodName := ⟨RL, "stone", "(LCryptSums;I[J)I"⟩
abbrev cL_corridor : ByteArray := method_8_code
def yL_corridor : MethodName := ⟨RL, "corridor", "(LCryptSums;IZI[J)I"⟩
abbrev cL_can : ByteArray := method_9_code
def yL_can : MethodName := ⟨RL, "can", "(LCryptSums;I[J)I"⟩
abbrev cL_count : ByteArray := method_10_code
def yL_count : MethodName := ⟨RL, "count", "(LCryptSums;I[J)I"⟩
abbrev cL_ways : ByteArray := method_11_code
def yL_ways : MethodName := ⟨RL, "ways", "(LCryptSums;II[J)I"⟩
abbrev cL_forced : ByteArray := method_12_code
def yL_forced : MethodName := ⟨RL, "forced", "(LCryptSums;II[J)I"⟩
abbrev cL_solved : ByteArray := method_13_code
def yL_solved : MethodName := ⟨RL, "solved", "(LCryptSums;I[J)I"⟩
abbrev cL_would : ByteArray := method_14_code
def yL_would : MethodName := ⟨RL, "would", "(LCryptSums;II[J)I"⟩
abbrev cL_law : ByteArray := code
def yL_law : MethodName := ⟨RL, "law", "([I)Z"⟩
def wsX0_init : List Cond := .code yX0_init cX0_init 3 none :: ([.methodLink RX0 3 objectInit, .instanceMethod objectInit, .code objectInit ⟨#[0xb1]⟩ 1 none, .fieldLink RX0 9 "CryptSums$Corridors" "stones" "[I", .fieldLink RX0 15 "CryptSums$Corridors" "partitions" "LCryptSums$Partitions;", .arrayClass .int, .fieldLink RX0 19 "CryptSums$Corridors" "told" "[I", .fieldLink RX0 22 "CryptSums$Corridors" "first" "[I", .fieldLink RX0 25 "CryptSums$Corridors" "size" "[I", .fieldLink RX0 28 "CryptSums$Corridors" "step" "I"] ++ wsX00)
def wsX4_write : List Cond := .code yX4_write cX4_write 3 none :: ([])
def wsX0_clear : List Cond := .code yX0_clear cX0_clear 3 none :: ([.fieldLink RX0 28 "CryptSums$Corridors" "step" "I", .fieldLink RX0 19 "CryptSums$Corridors" "told" "[I", .static yX4_write, .initialized RX4, .code yX4_write cX4_write 3 none] ++ wsX00)
def wsX4_read : List Cond := .code yX4_read cX4_read 2 (some .int) :: ([])
def wsX0_tellSum : List Cond := .code yX0_tellSum cX0_tellSum 4 (some .int) :: ([.fieldLink RX0 19 "CryptSums$Corridors" "told" "[I", .static yX4_read, .initialized RX4, .code yX4_read cX4_read 2 (some .int), .static yX4_write, .code yX4_write cX4_write 3 none] ++ wsX00)
def wsX0_toldAt : List Cond := .code yX0_toldAt cX0_toldAt 2 (some .int) :: ([.fieldLink RX0 19 "CryptSums$Corridors" "told" "[I", .static yX4_read, .initialized RX4, .code yX4_read cX4_read 2 (some .int)] ++ wsX00)
def wsX0_join : List Cond := .code yX0_join cX0_join 4 none :: ([.fieldLink RX0 25 "CryptSums$Corridors" "size" "[I", .fieldLink RX0 9 "CryptSums$Corridors" "stones" "[I", .fieldLink RX0 22 "CryptSums$Corridors" "first" "[I", .static yX4_write, .initialized RX4, .code yX4_write cX4_write 3 none, .static yX4_read, .code yX4_read cX4_read 2 (some .int)] ++ wsX00)
def wsX0_beginsAt : List Cond := .code yX0_beginsAt cX0_beginsAt 2 (some .boolean) :: ([.fieldLink RX0 22 "CryptSums$Corridors" "first" "[I", .static yX4_read, .initialized RX4, .code yX4_read cX4_read 2 (some .int)] ++ wsX00)
def wsX0_look : List Cond := .code yX0_look cX0_look 5 none :: ([.fieldLink RX0 58 "CryptSums$Corridors" "seenNumbers" "I", .fieldLink RX0 44 "CryptSums$Corridors" "seenStones" "I", .fieldLink RX0 47 "CryptSums$Corridors" "seenTotal" "I", .fieldLink RX0 25 "CryptSums$Corridors" "size" "[I", .fieldLink RX0 9 "CryptSums$Corridors" "stones" "[I", .fieldLink RX0 28 "CryptSums$Corridors" "step" "I", .static yX4_read, .initialized RX4, .code yX4_read cX4_read 2 (some .int)] ++ wsX00)
def wsJ6_bitCount_0f7a4 : List Cond := .code yJ6_bitCount_0f7a4 cJ6_bitCount_0f7a4 1 (some .int) :: ([.constant RJ6 265 (1431655765), .constant RJ6 266 (858993459), .constant RJ6 267 (252645135)])
def wsX0_sawAlike : List Cond := .code yX0_sawAlike cX0_sawAlike 1 (some .boolean) :: ([.fieldLink RX0 58 "CryptSums$Corridors" "seenNumbers" "I", .fieldLink RX0 44 "CryptSums$Corridors" "seenStones" "I", .methodLink RX0 67 yJ6_bitCount_0f7a4, .static yJ6_bitCount_0f7a4, .initialized RJ6, .code yJ6_bitCount_0f7a4 cJ6_bitCount_0f7a4 1 (some .int), .constant RJ6 265 (1431655765), .constant RJ6 266 (858993459), .constant RJ6 267 (252645135)] ++ wsX00)
def wsX2_make : List Cond := .code yX2_make cX2_make 5 (some .boolean) :: ([.fieldLink RX2 11 "CryptSums$Partitions" "sums" "[J"] ++ wsX20)
def wsX0_isWellFrom_r1 : List Cond := [Cond.fieldLink RX0 19 "CryptSums$Corridors" "told" "[I", Cond.fieldLink RX0 25 "CryptSums$Corridors" "size" "[I", Cond.fieldLink RX0 44 "CryptSums$Corridors" "seenStones" "I", Cond.fieldLink RX0 15 "CryptSums$Corridors" "partitions" "LCryptSums$Partitions;", Cond.fieldLink RX0 58 "CryptSums$Corridors" "seenNumbers" "I", Cond.fieldLink RX0 47 "CryptSums$Corridors" "seenTotal" "I", Cond.methodLink RX0 40 yX0_look, Cond.instanceMethod yX0_look, Cond.selects RX0 yX0_look yX0_look, Cond.initialized RX0, Cond.code yX0_look cX0_look 5 none, Cond.fieldLink RX0 9 "CryptSums$Corridors" "stones" "[I", Cond.fieldLink RX0 28 "CryptSums$Corridors" "step" "I", Cond.static yX4_read, Cond.initialized RX4, Cond.code yX4_read cX4_read 2 (some .int), Cond.methodLink RX0 54 yX0_sawAlike, Cond.instanceMethod yX0_sawAlike, Cond.selects RX0 yX0_sawAlike yX0_sawAlike, Cond.code yX0_sawAlike cX0_sawAlike 1 (some .boolean), Cond.methodLink RX0 67 yJ6_bitCount_0f7a4, Cond.static yJ6_bitCount_0f7a4, Cond.initialized RJ6, Cond.code yJ6_bitCount_0f7a4 cJ6_bitCount_0f7a4 1 (some .int)]
def wsX0_isWellFrom_r2 : List Cond := [Cond.constant RJ6 265 (1431655765), Cond.constant RJ6 266 (858993459), Cond.constant RJ6 267 (252645135), Cond.methodLink RX0 61 yX2_make, Cond.instanceMethod yX2_make, Cond.selects RX2 yX2_make yX2_make, Cond.initialized RX2, Cond.code yX2_make cX2_make 5 (some .boolean), Cond.fieldLink RX2 11 "CryptSums$Partitions" "sums" "[J"]
def wsX0_isWellFrom : List Cond := .code yX0_isWellFrom cX0_isWellFrom 4 (some .boolean) :: ((wsX0_isWellFrom_r1 ++ wsX0_isWellFrom_r2) ++ wsX00 ++ wsX20)
def wsX0_tell_r1 : List Cond := [Cond.fieldLink RX0 22 "CryptSums$Corridors" "first" "[I", Cond.fieldLink RX0 25 "CryptSums$Corridors" "size" "[I", Cond.fieldLink RX0 19 "CryptSums$Corridors" "told" "[I", Cond.fieldLink RX0 44 "CryptSums$Corridors" "seenStones" "I", Cond.fieldLink RX0 47 "CryptSums$Corridors" "seenTotal" "I", Cond.static yX4_read, Cond.initialized RX4, Cond.code yX4_read cX4_read 2 (some .int), Cond.methodLink RX0 40 yX0_look, Cond.instanceMethod yX0_look, Cond.selects RX0 yX0_look yX0_look, Cond.initialized RX0, Cond.code yX0_look cX0_look 5 none, Cond.fieldLink RX0 58 "CryptSums$Corridors" "seenNumbers" "I", Cond.fieldLink RX0 9 "CryptSums$Corridors" "stones" "[I", Cond.fieldLink RX0 28 "CryptSums$Corridors" "step" "I", Cond.methodLink RX0 50 yX0_isWellFrom, Cond.instanceMethod yX0_isWellFrom, Cond.selects RX0 yX0_isWellFrom yX0_isWellFrom, Cond.code yX0_isWellFrom cX0_isWellFrom 4 (some .boolean), Cond.fieldLink RX0 15 "CryptSums$Corridors" "partitions" "LCryptSums$Partitions;", Cond.methodLink RX0 54 yX0_sawAlike, Cond.instanceMethod yX0_sawAlike, Cond.selects RX0 yX0_sawAlike yX0_sawAlike]
def wsX0_tell_r2 : List Cond := [Cond.code yX0_sawAlike cX0_sawAlike 1 (some .boolean), Cond.methodLink RX0 67 yJ6_bitCount_0f7a4, Cond.static yJ6_bitCount_0f7a4, Cond.initialized RJ6, Cond.code yJ6_bitCount_0f7a4 cJ6_bitCount_0f7a4 1 (some .int), Cond.constant RJ6 265 (1431655765), Cond.constant RJ6 266 (858993459), Cond.constant RJ6 267 (252645135), Cond.methodLink RX0 61 yX2_make, Cond.instanceMethod yX2_make, Cond.selects RX2 yX2_make yX2_make, Cond.initialized RX2, Cond.code yX2_make cX2_make 5 (some .boolean), Cond.fieldLink RX2 11 "CryptSums$Partitions" "sums" "[J"]
def wsX0_tell : List Cond := .code yX0_tell cX0_tell 4 (some .int) :: ((wsX0_tell_r1 ++ wsX0_tell_r2) ++ wsX00 ++ wsX20)
def wsX0_numbersFor_r1 : List Cond := [Cond.fieldLink RX0 22 "CryptSums$Corridors" "first" "[I", Cond.fieldLink RX0 58 "CryptSums$Corridors" "seenNumbers" "I", Cond.fieldLink RX0 19 "CryptSums$Corridors" "told" "[I", Cond.fieldLink RX0 25 "CryptSums$Corridors" "size" "[I", Cond.fieldLink RX0 44 "CryptSums$Corridors" "seenStones" "I", Cond.fieldLink RX0 47 "CryptSums$Corridors" "seenTotal" "I", Cond.fieldLink RX0 15 "CryptSums$Corridors" "partitions" "LCryptSums$Partitions;", Cond.static yX4_read, Cond.initialized RX4, Cond.code yX4_read cX4_read 2 (some .int), Cond.methodLink RX0 40 yX0_look, Cond.instanceMethod yX0_look, Cond.selects RX0 yX0_look yX0_look, Cond.initialized RX0, Cond.code yX0_look cX0_look 5 none, Cond.fieldLink RX0 9 "CryptSums$Corridors" "stones" "[I", Cond.fieldLink RX0 28 "CryptSums$Corridors" "step" "I", Cond.methodLink RX0 54 yX0_sawAlike, Cond.instanceMethod yX0_sawAlike, Cond.selects RX0 yX0_sawAlike yX0_sawAlike, Cond.code yX0_sawAlike cX0_sawAlike 1 (some .boolean), Cond.methodLink RX0 67 yJ6_bitCount_0f7a4, Cond.static yJ6_bitCount_0f7a4, Cond.initialized RJ6]
def wsX0_numbersFor_r2 : List Cond := [Cond.code yJ6_bitCount_0f7a4 cJ6_bitCount_0f7a4 1 (some .int), Cond.constant RJ6 265 (1431655765), Cond.constant RJ6 266 (858993459), Cond.constant RJ6 267 (252645135), Cond.methodLink RX0 61 yX2_make, Cond.instanceMethod yX2_make, Cond.selects RX2 yX2_make yX2_make, Cond.initialized RX2, Cond.code yX2_make cX2_make 5 (some .boolean), Cond.fieldLink RX2 11 "CryptSums$Partitions" "sums" "[J"]
def wsX0_numbersFor : List Cond := .code yX0_numbersFor cX0_numbersFor 10 (some .int) :: ((wsX0_numbersFor_r1 ++ wsX0_numbersFor_r2) ++ wsX00 ++ wsX20)
def wsX2_keepSums : List Cond := .code yX2_keepSums cX2_keepSums 6 none :: ([.fieldLink RX2 11 "CryptSums$Partitions" "sums" "[J"] ++ wsX20)
def wsX2_sumsOf : List Cond := .code yX2_sumsOf cX2_sumsOf 4 (some .long) :: ([.fieldLink RX2 11 "CryptSums$Partitions" "sums" "[J"] ++ wsX20)
def wsX2_addHighest : List Cond := .code yX2_addHighest cX2_addHighest 9 none :: ([.methodLink RX2 23 yX2_sumsOf, .instanceMethod yX2_sumsOf, .selects RX2 yX2_sumsOf yX2_sumsOf, .initialized RX2, .code yX2_sumsOf cX2_sumsOf 4 (some .long), .fieldLink RX2 11 "CryptSums$Partitions" "sums" "[J", .methodLink RX2 15 yX2_keepSums, .instanceMethod yX2_keepSums, .selects RX2 yX2_keepSums yX2_keepSums, .code yX2_keepSums cX2_keepSums 6 none] ++ wsX20)
def wsX2_init : List Cond := .code yX2_init cX2_init 3 none :: ([.methodLink RX2 3 objectInit, .instanceMethod objectInit, .code objectInit ⟨#[0xb1]⟩ 1 none, .arrayClass .long, .fieldLink RX2 11 "CryptSums$Partitions" "sums" "[J", .methodLink RX2 15 yX2_keepSums, .instanceMethod yX2_keepSums, .selects RX2 yX2_keepSums yX2_keepSums, .initialized RX2, .code yX2_keepSums cX2_keepSums 6 none, .methodLink RX2 19 yX2_addHighest, .instanceMethod yX2_addHighest, .selects RX2 yX2_addHighest yX2_addHighest, .code yX2_addHighest cX2_addHighest 9 none, .methodLink RX2 23 yX2_sumsOf, .instanceMethod yX2_sumsOf, .selects RX2 yX2_sumsOf yX2_sumsOf, .code yX2_sumsOf cX2_sumsOf 4 (some .long)] ++ wsX20)
def wsX1_joinCells : List Cond := .code yX1_joinCells cX1_joinCells 4 none :: ([.fieldLink RX1 38 "CryptSums$Floor" "rows" "I", .fieldLink RX1 34 "CryptSums$Floor" "columns" "I", .fieldLink RX1 23 "CryptSums$Floor" "across" "LCryptSums$Corridors;", .fieldLink RX1 27 "CryptSums$Floor" "down" "LCryptSums$Corridors;", .methodLink RX1 51 yX0_join, .instanceMethod yX0_join, .selects RX0 yX0_join yX0_join, .initialized RX0, .code yX0_join cX0_join 4 none, .fieldLink RX0 25 "CryptSums$Corridors" "size" "[I", .fieldLink RX0 9 "CryptSums$Corridors" "stones" "[I", .fieldLink RX0 22 "CryptSums$Corridors" "first" "[I", .static yX4_write, .initialized RX4, .code yX4_write cX4_write 3 none, .static yX4_read, .code yX4_read cX4_read 2 (some .int)] ++ wsX10 ++ wsX00)
def wsX1_clear_r1 : List Cond := [Cond.fieldLink RX1 34 "CryptSums$Floor" "columns" "I", Cond.fieldLink RX1 38 "CryptSums$Floor" "rows" "I", Cond.fieldLink RX1 12 "CryptSums$Floor" "stones" "[I", Cond.fieldLink RX1 23 "CryptSums$Floor" "across" "LCryptSums$Corridors;", Cond.fieldLink RX1 27 "CryptSums$Floor" "down" "LCryptSums$Corridors;", Cond.static yX4_write, Cond.initialized RX4, Cond.code yX4_write cX4_write 3 none, Cond.methodLink RX1 45 yX0_clear, Cond.instanceMethod yX0_clear, Cond.selects RX0 yX0_clear yX0_clear, Cond.initialized RX0, Cond.code yX0_clear cX0_clear 3 none, Cond.fieldLink RX0 28 "CryptSums$Corridors" "step" "I", Cond.fieldLink RX0 19 "CryptSums$Corridors" "told" "[I", Cond.methodLink RX1 48 yX1_joinCells, Cond.instanceMethod yX1_joinCells, Cond.selects RX1 yX1_joinCells yX1_joinCells, Cond.initialized RX1, Cond.code yX1_joinCells cX1_joinCells 4 none, Cond.methodLink RX1 51 yX0_join, Cond.instanceMethod yX0_join, Cond.selects RX0 yX0_join yX0_join, Cond.code yX0_join cX0_join 4 none]
def wsX1_clear_r2 : List Cond := [Cond.fieldLink RX0 25 "CryptSums$Corridors" "size" "[I", Cond.fieldLink RX0 9 "CryptSums$Corridors" "stones" "[I", Cond.fieldLink RX0 22 "CryptSums$Corridors" "first" "[I", Cond.static yX4_read, Cond.code yX4_read cX4_read 2 (some .int)]
def wsX1_clear : List Cond := .code yX1_clear cX1_clear 4 none :: ((wsX1_clear_r1 ++ wsX1_clear_r2) ++ wsX10 ++ wsX00)
def wsX1_init_r1 : List Cond := [Cond.methodLink RX1 3 objectInit, Cond.instanceMethod objectInit, Cond.code objectInit ⟨#[0xb1]⟩ 1 none, Cond.arrayClass .int, Cond.classLink RX1 9 RX2, Cond.instantiable RX2 1, Cond.initialized RX2, Cond.fieldLink RX1 12 "CryptSums$Floor" "stones" "[I", Cond.classLink RX1 18 RX0, Cond.instantiable RX0 9, Cond.initialized RX0, Cond.fieldLink RX1 23 "CryptSums$Floor" "across" "LCryptSums$Corridors;", Cond.fieldLink RX1 27 "CryptSums$Floor" "down" "LCryptSums$Corridors;", Cond.methodLink RX1 11 yX2_init, Cond.instanceMethod yX2_init, Cond.code yX2_init cX2_init 3 none, Cond.methodLink RX2 3 objectInit, Cond.arrayClass .long, Cond.fieldLink RX2 11 "CryptSums$Partitions" "sums" "[J", Cond.methodLink RX2 15 yX2_keepSums, Cond.instanceMethod yX2_keepSums, Cond.selects RX2 yX2_keepSums yX2_keepSums, Cond.code yX2_keepSums cX2_keepSums 6 none, Cond.methodLink RX2 19 yX2_addHighest]
def wsX1_init_r2 : List Cond := [Cond.instanceMethod yX2_addHighest, Cond.selects RX2 yX2_addHighest yX2_addHighest, Cond.code yX2_addHighest cX2_addHighest 9 none, Cond.methodLink RX2 23 yX2_sumsOf, Cond.instanceMethod yX2_sumsOf, Cond.selects RX2 yX2_sumsOf yX2_sumsOf, Cond.code yX2_sumsOf cX2_sumsOf 4 (some .long), Cond.methodLink RX1 20 yX0_init, Cond.instanceMethod yX0_init, Cond.code yX0_init cX0_init 3 none, Cond.methodLink RX0 3 objectInit, Cond.fieldLink RX0 9 "CryptSums$Corridors" "stones" "[I", Cond.fieldLink RX0 15 "CryptSums$Corridors" "partitions" "LCryptSums$Partitions;", Cond.fieldLink RX0 19 "CryptSums$Corridors" "told" "[I", Cond.fieldLink RX0 22 "CryptSums$Corridors" "first" "[I", Cond.fieldLink RX0 25 "CryptSums$Corridors" "size" "[I", Cond.fieldLink RX0 28 "CryptSums$Corridors" "step" "I", Cond.methodLink RX1 30 yX1_clear, Cond.instanceMethod yX1_clear, Cond.selects RX1 yX1_clear yX1_clear, Cond.initialized RX1, Cond.code yX1_clear cX1_clear 4 none, Cond.fieldLink RX1 34 "CryptSums$Floor" "columns" "I", Cond.fieldLink RX1 38 "CryptSums$Floor" "rows" "I"]
def wsX1_init_r3 : List Cond := [Cond.static yX4_write, Cond.initialized RX4, Cond.code yX4_write cX4_write 3 none, Cond.methodLink RX1 45 yX0_clear, Cond.instanceMethod yX0_clear, Cond.selects RX0 yX0_clear yX0_clear, Cond.code yX0_clear cX0_clear 3 none, Cond.methodLink RX1 48 yX1_joinCells, Cond.instanceMethod yX1_joinCells, Cond.selects RX1 yX1_joinCells yX1_joinCells, Cond.code yX1_joinCells cX1_joinCells 4 none, Cond.methodLink RX1 51 yX0_join, Cond.instanceMethod yX0_join, Cond.selects RX0 yX0_join yX0_join, Cond.code yX0_join cX0_join 4 none, Cond.static yX4_read, Cond.code yX4_read cX4_read 2 (some .int)]
def wsX1_init : List Cond := .code yX1_init cX1_init 3 none :: ((wsX1_init_r1 ++ (wsX1_init_r2 ++ wsX1_init_r3)) ++ wsX20 ++ wsX10 ++ wsX00)
def wsX1_cells : List Cond := .code yX1_cells cX1_cells 1 (some .int) :: ([.fieldLink RX1 34 "CryptSums$Floor" "columns" "I", .fieldLink RX1 38 "CryptSums$Floor" "rows" "I"] ++ wsX10)
def wsX1_has : List Cond := .code yX1_has cX1_has 2 (some .boolean) :: ([.methodLink RX1 54 yX1_cells, .instanceMethod yX1_cells, .selects RX1 yX1_cells yX1_cells, .initialized RX1, .code yX1_cells cX1_cells 1 (some .int), .fieldLink RX1 34 "CryptSums$Floor" "columns" "I", .fieldLink RX1 38 "CryptSums$Floor" "rows" "I"] ++ wsX10)
def wsX1_stoneAt : List Cond := .code yX1_stoneAt cX1_stoneAt 2 (some .int) :: ([.fieldLink RX1 12 "CryptSums$Floor" "stones" "[I", .static yX4_read, .initialized RX4, .code yX4_read cX4_read 2 (some .int)] ++ wsX10)
def wsX1_isPillar : List Cond := .code yX1_isPillar cX1_isPillar 2 (some .boolean) :: ([.fieldLink RX1 12 "CryptSums$Floor" "stones" "[I", .static yX4_read, .initialized RX4, .code yX4_read cX4_read 2 (some .int)] ++ wsX10)
def wsX1_isHole : List Cond := .code yX1_isHole cX1_isHole 2 (some .boolean) :: ([.fieldLink RX1 12 "CryptSums$Floor" "stones" "[I", .static yX4_read, .initialized RX4, .code yX4_read cX4_read 2 (some .int)] ++ wsX10)
def wsX1_lay : List Cond := .code yX1_lay cX1_lay 3 none :: ([.fieldLink RX1 12 "CryptSums$Floor" "stones" "[I", .static yX4_write, .initialized RX4, .code yX4_write cX4_write 3 none] ++ wsX10)
def wsX1_turnPillar_r1 : List Cond := [Cond.fieldLink RX1 12 "CryptSums$Floor" "stones" "[I", Cond.methodLink RX1 62 yX1_isPillar, Cond.instanceMethod yX1_isPillar, Cond.selects RX1 yX1_isPillar yX1_isPillar, Cond.initialized RX1, Cond.code yX1_isPillar cX1_isPillar 2 (some .boolean), Cond.static yX4_read, Cond.initialized RX4, Cond.code yX4_read cX4_read 2 (some .int), Cond.static yX4_write, Cond.code yX4_write cX4_write 3 none, Cond.methodLink RX1 48 yX1_joinCells, Cond.instanceMethod yX1_joinCells, Cond.selects RX1 yX1_joinCells yX1_joinCells, Cond.code yX1_joinCells cX1_joinCells 4 none, Cond.fieldLink RX1 38 "CryptSums$Floor" "rows" "I", Cond.fieldLink RX1 34 "CryptSums$Floor" "columns" "I", Cond.fieldLink RX1 23 "CryptSums$Floor" "across" "LCryptSums$Corridors;", Cond.fieldLink RX1 27 "CryptSums$Floor" "down" "LCryptSums$Corridors;", Cond.methodLink RX1 51 yX0_join, Cond.instanceMethod yX0_join, Cond.selects RX0 yX0_join yX0_join, Cond.initialized RX0, Cond.code yX0_join cX0_join 4 none]
def wsX1_turnPillar_r2 : List Cond := [Cond.fieldLink RX0 25 "CryptSums$Corridors" "size" "[I", Cond.fieldLink RX0 9 "CryptSums$Corridors" "stones" "[I", Cond.fieldLink RX0 22 "CryptSums$Corridors" "first" "[I"]
def wsX1_turnPillar : List Cond := .code yX1_turnPillar cX1_turnPillar 2 none :: ((wsX1_turnPillar_r1 ++ wsX1_turnPillar_r2) ++ wsX10 ++ wsX00)
def wsX1_corridors : List Cond := .code yX1_corridors cX1_corridors 2 (some (.object "CryptSums$Corridors")) :: ([.fieldLink RX1 27 "CryptSums$Floor" "down" "LCryptSums$Corridors;", .fieldLink RX1 23 "CryptSums$Floor" "across" "LCryptSums$Corridors;"] ++ wsX10)
def wsX1_numbersFor_r1 : List Cond := [Cond.fieldLink RX1 23 "CryptSums$Floor" "across" "LCryptSums$Corridors;", Cond.fieldLink RX1 27 "CryptSums$Floor" "down" "LCryptSums$Corridors;", Cond.methodLink RX1 66 yX1_isHole, Cond.instanceMethod yX1_isHole, Cond.selects RX1 yX1_isHole yX1_isHole, Cond.initialized RX1, Cond.code yX1_isHole cX1_isHole 2 (some .boolean), Cond.fieldLink RX1 12 "CryptSums$Floor" "stones" "[I", Cond.static yX4_read, Cond.initialized RX4, Cond.code yX4_read cX4_read 2 (some .int), Cond.methodLink RX1 69 yX0_numbersFor, Cond.instanceMethod yX0_numbersFor, Cond.selects RX0 yX0_numbersFor yX0_numbersFor, Cond.initialized RX0, Cond.code yX0_numbersFor cX0_numbersFor 10 (some .int), Cond.fieldLink RX0 22 "CryptSums$Corridors" "first" "[I", Cond.fieldLink RX0 58 "CryptSums$Corridors" "seenNumbers" "I", Cond.fieldLink RX0 19 "CryptSums$Corridors" "told" "[I", Cond.fieldLink RX0 25 "CryptSums$Corridors" "size" "[I", Cond.fieldLink RX0 44 "CryptSums$Corridors" "seenStones" "I", Cond.fieldLink RX0 47 "CryptSums$Corridors" "seenTotal" "I", Cond.fieldLink RX0 15 "CryptSums$Corridors" "partitions" "LCryptSums$Partitions;", Cond.methodLink RX0 40 yX0_look]
def wsX1_numbersFor_r2 : List Cond := [Cond.instanceMethod yX0_look, Cond.selects RX0 yX0_look yX0_look, Cond.code yX0_look cX0_look 5 none, Cond.fieldLink RX0 9 "CryptSums$Corridors" "stones" "[I", Cond.fieldLink RX0 28 "CryptSums$Corridors" "step" "I", Cond.methodLink RX0 54 yX0_sawAlike, Cond.instanceMethod yX0_sawAlike, Cond.selects RX0 yX0_sawAlike yX0_sawAlike, Cond.code yX0_sawAlike cX0_sawAlike 1 (some .boolean), Cond.methodLink RX0 67 yJ6_bitCount_0f7a4, Cond.static yJ6_bitCount_0f7a4, Cond.initialized RJ6, Cond.code yJ6_bitCount_0f7a4 cJ6_bitCount_0f7a4 1 (some .int), Cond.constant RJ6 265 (1431655765), Cond.constant RJ6 266 (858993459), Cond.constant RJ6 267 (252645135), Cond.methodLink RX0 61 yX2_make, Cond.instanceMethod yX2_make, Cond.selects RX2 yX2_make yX2_make, Cond.initialized RX2, Cond.code yX2_make cX2_make 5 (some .boolean), Cond.fieldLink RX2 11 "CryptSums$Partitions" "sums" "[J"]
def wsX1_numbersFor : List Cond := .code yX1_numbersFor cX1_numbersFor 2 (some .int) :: ((wsX1_numbersFor_r1 ++ wsX1_numbersFor_r2) ++ wsX10 ++ wsX00 ++ wsX20)
def wsX1_wellOf_r1 : List Cond := [Cond.methodLink RX1 54 yX1_cells, Cond.instanceMethod yX1_cells, Cond.selects RX1 yX1_cells yX1_cells, Cond.initialized RX1, Cond.code yX1_cells cX1_cells 1 (some .int), Cond.fieldLink RX1 34 "CryptSums$Floor" "columns" "I", Cond.fieldLink RX1 38 "CryptSums$Floor" "rows" "I", Cond.methodLink RX1 98 yX0_beginsAt, Cond.instanceMethod yX0_beginsAt, Cond.selects RX0 yX0_beginsAt yX0_beginsAt, Cond.initialized RX0, Cond.code yX0_beginsAt cX0_beginsAt 2 (some .boolean), Cond.fieldLink RX0 22 "CryptSums$Corridors" "first" "[I", Cond.static yX4_read, Cond.initialized RX4, Cond.code yX4_read cX4_read 2 (some .int), Cond.methodLink RX1 104 yX0_isWellFrom, Cond.instanceMethod yX0_isWellFrom, Cond.selects RX0 yX0_isWellFrom yX0_isWellFrom, Cond.code yX0_isWellFrom cX0_isWellFrom 4 (some .boolean), Cond.fieldLink RX0 19 "CryptSums$Corridors" "told" "[I", Cond.fieldLink RX0 25 "CryptSums$Corridors" "size" "[I", Cond.fieldLink RX0 44 "CryptSums$Corridors" "seenStones" "I", Cond.fieldLink RX0 15 "CryptSums$Corridors" "partitions" "LCryptSums$Partitions;"]
def wsX1_wellOf_r2 : List Cond := [Cond.fieldLink RX0 58 "CryptSums$Corridors" "seenNumbers" "I", Cond.fieldLink RX0 47 "CryptSums$Corridors" "seenTotal" "I", Cond.methodLink RX0 40 yX0_look, Cond.instanceMethod yX0_look, Cond.selects RX0 yX0_look yX0_look, Cond.code yX0_look cX0_look 5 none, Cond.fieldLink RX0 9 "CryptSums$Corridors" "stones" "[I", Cond.fieldLink RX0 28 "CryptSums$Corridors" "step" "I", Cond.methodLink RX0 54 yX0_sawAlike, Cond.instanceMethod yX0_sawAlike, Cond.selects RX0 yX0_sawAlike yX0_sawAlike, Cond.code yX0_sawAlike cX0_sawAlike 1 (some .boolean), Cond.methodLink RX0 67 yJ6_bitCount_0f7a4, Cond.static yJ6_bitCount_0f7a4, Cond.initialized RJ6, Cond.code yJ6_bitCount_0f7a4 cJ6_bitCount_0f7a4 1 (some .int), Cond.constant RJ6 265 (1431655765), Cond.constant RJ6 266 (858993459), Cond.constant RJ6 267 (252645135), Cond.methodLink RX0 61 yX2_make, Cond.instanceMethod yX2_make, Cond.selects RX2 yX2_make yX2_make, Cond.initialized RX2, Cond.code yX2_make cX2_make 5 (some .boolean)]
def wsX1_wellOf_r3 : List Cond := [Cond.fieldLink RX2 11 "CryptSums$Partitions" "sums" "[J"]
def wsX1_wellOf : List Cond := .code yX1_wellOf cX1_wellOf 4 (some .int) :: ((wsX1_wellOf_r1 ++ (wsX1_wellOf_r2 ++ wsX1_wellOf_r3)) ++ wsX10 ++ wsX00 ++ wsX20)
def wsX1_corridorsOf : List Cond := .code yX1_corridorsOf cX1_corridorsOf 4 (some .int) :: ([.methodLink RX1 54 yX1_cells, .instanceMethod yX1_cells, .selects RX1 yX1_cells yX1_cells, .initialized RX1, .code yX1_cells cX1_cells 1 (some .int), .fieldLink RX1 34 "CryptSums$Floor" "columns" "I", .fieldLink RX1 38 "CryptSums$Floor" "rows" "I", .methodLink RX1 98 yX0_beginsAt, .instanceMethod yX0_beginsAt, .selects RX0 yX0_beginsAt yX0_beginsAt, .initialized RX0, .code yX0_beginsAt cX0_beginsAt 2 (some .boolean), .fieldLink RX0 22 "CryptSums$Corridors" "first" "[I", .static yX4_read, .initialized RX4, .code yX4_read cX4_read 2 (some .int)] ++ wsX10 ++ wsX00)
def wsX1_isAllWell_r1 : List Cond := [Cond.fieldLink RX1 23 "CryptSums$Floor" "across" "LCryptSums$Corridors;", Cond.fieldLink RX1 27 "CryptSums$Floor" "down" "LCryptSums$Corridors;", Cond.methodLink RX1 73 yX1_wellOf, Cond.instanceMethod yX1_wellOf, Cond.selects RX1 yX1_wellOf yX1_wellOf, Cond.initialized RX1, Cond.code yX1_wellOf cX1_wellOf 4 (some .int), Cond.methodLink RX1 54 yX1_cells, Cond.instanceMethod yX1_cells, Cond.selects RX1 yX1_cells yX1_cells, Cond.code yX1_cells cX1_cells 1 (some .int), Cond.fieldLink RX1 34 "CryptSums$Floor" "columns" "I", Cond.fieldLink RX1 38 "CryptSums$Floor" "rows" "I", Cond.methodLink RX1 98 yX0_beginsAt, Cond.instanceMethod yX0_beginsAt, Cond.selects RX0 yX0_beginsAt yX0_beginsAt, Cond.initialized RX0, Cond.code yX0_beginsAt cX0_beginsAt 2 (some .boolean), Cond.fieldLink RX0 22 "CryptSums$Corridors" "first" "[I", Cond.static yX4_read, Cond.initialized RX4, Cond.code yX4_read cX4_read 2 (some .int), Cond.methodLink RX1 104 yX0_isWellFrom, Cond.instanceMethod yX0_isWellFrom]
def wsX1_isAllWell_r2 : List Cond := [Cond.selects RX0 yX0_isWellFrom yX0_isWellFrom, Cond.code yX0_isWellFrom cX0_isWellFrom 4 (some .boolean), Cond.fieldLink RX0 19 "CryptSums$Corridors" "told" "[I", Cond.fieldLink RX0 25 "CryptSums$Corridors" "size" "[I", Cond.fieldLink RX0 44 "CryptSums$Corridors" "seenStones" "I", Cond.fieldLink RX0 15 "CryptSums$Corridors" "partitions" "LCryptSums$Partitions;", Cond.fieldLink RX0 58 "CryptSums$Corridors" "seenNumbers" "I", Cond.fieldLink RX0 47 "CryptSums$Corridors" "seenTotal" "I", Cond.methodLink RX0 40 yX0_look, Cond.instanceMethod yX0_look, Cond.selects RX0 yX0_look yX0_look, Cond.code yX0_look cX0_look 5 none, Cond.fieldLink RX0 9 "CryptSums$Corridors" "stones" "[I", Cond.fieldLink RX0 28 "CryptSums$Corridors" "step" "I", Cond.methodLink RX0 54 yX0_sawAlike, Cond.instanceMethod yX0_sawAlike, Cond.selects RX0 yX0_sawAlike yX0_sawAlike, Cond.code yX0_sawAlike cX0_sawAlike 1 (some .boolean), Cond.methodLink RX0 67 yJ6_bitCount_0f7a4, Cond.static yJ6_bitCount_0f7a4, Cond.initialized RJ6, Cond.code yJ6_bitCount_0f7a4 cJ6_bitCount_0f7a4 1 (some .int), Cond.constant RJ6 265 (1431655765), Cond.constant RJ6 266 (858993459)]
def wsX1_isAllWell_r3 : List Cond := [Cond.constant RJ6 267 (252645135), Cond.methodLink RX0 61 yX2_make, Cond.instanceMethod yX2_make, Cond.selects RX2 yX2_make yX2_make, Cond.initialized RX2, Cond.code yX2_make cX2_make 5 (some .boolean), Cond.fieldLink RX2 11 "CryptSums$Partitions" "sums" "[J", Cond.methodLink RX1 77 yX1_corridorsOf, Cond.instanceMethod yX1_corridorsOf, Cond.selects RX1 yX1_corridorsOf yX1_corridorsOf, Cond.code yX1_corridorsOf cX1_corridorsOf 4 (some .int)]
def wsX1_isAllWell : List Cond := .code yX1_isAllWell cX1_isAllWell 1 (some .boolean) :: ((wsX1_isAllWell_r1 ++ (wsX1_isAllWell_r2 ++ wsX1_isAllWell_r3)) ++ wsX10 ++ wsX00 ++ wsX20)
def wsX1_firstSingle_r1 : List Cond := [Cond.methodLink RX1 54 yX1_cells, Cond.instanceMethod yX1_cells, Cond.selects RX1 yX1_cells yX1_cells, Cond.initialized RX1, Cond.code yX1_cells cX1_cells 1 (some .int), Cond.fieldLink RX1 34 "CryptSums$Floor" "columns" "I", Cond.fieldLink RX1 38 "CryptSums$Floor" "rows" "I", Cond.methodLink RX1 80 yX1_numbersFor, Cond.instanceMethod yX1_numbersFor, Cond.selects RX1 yX1_numbersFor yX1_numbersFor, Cond.code yX1_numbersFor cX1_numbersFor 2 (some .int), Cond.fieldLink RX1 23 "CryptSums$Floor" "across" "LCryptSums$Corridors;", Cond.fieldLink RX1 27 "CryptSums$Floor" "down" "LCryptSums$Corridors;", Cond.methodLink RX1 66 yX1_isHole, Cond.instanceMethod yX1_isHole, Cond.selects RX1 yX1_isHole yX1_isHole, Cond.code yX1_isHole cX1_isHole 2 (some .boolean), Cond.fieldLink RX1 12 "CryptSums$Floor" "stones" "[I", Cond.static yX4_read, Cond.initialized RX4, Cond.code yX4_read cX4_read 2 (some .int), Cond.methodLink RX1 69 yX0_numbersFor, Cond.instanceMethod yX0_numbersFor, Cond.selects RX0 yX0_numbersFor yX0_numbersFor]
def wsX1_firstSingle_r2 : List Cond := [Cond.initialized RX0, Cond.code yX0_numbersFor cX0_numbersFor 10 (some .int), Cond.fieldLink RX0 22 "CryptSums$Corridors" "first" "[I", Cond.fieldLink RX0 58 "CryptSums$Corridors" "seenNumbers" "I", Cond.fieldLink RX0 19 "CryptSums$Corridors" "told" "[I", Cond.fieldLink RX0 25 "CryptSums$Corridors" "size" "[I", Cond.fieldLink RX0 44 "CryptSums$Corridors" "seenStones" "I", Cond.fieldLink RX0 47 "CryptSums$Corridors" "seenTotal" "I", Cond.fieldLink RX0 15 "CryptSums$Corridors" "partitions" "LCryptSums$Partitions;", Cond.methodLink RX0 40 yX0_look, Cond.instanceMethod yX0_look, Cond.selects RX0 yX0_look yX0_look, Cond.code yX0_look cX0_look 5 none, Cond.fieldLink RX0 9 "CryptSums$Corridors" "stones" "[I", Cond.fieldLink RX0 28 "CryptSums$Corridors" "step" "I", Cond.methodLink RX0 54 yX0_sawAlike, Cond.instanceMethod yX0_sawAlike, Cond.selects RX0 yX0_sawAlike yX0_sawAlike, Cond.code yX0_sawAlike cX0_sawAlike 1 (some .boolean), Cond.methodLink RX0 67 yJ6_bitCount_0f7a4, Cond.static yJ6_bitCount_0f7a4, Cond.initialized RJ6, Cond.code yJ6_bitCount_0f7a4 cJ6_bitCount_0f7a4 1 (some .int), Cond.constant RJ6 265 (1431655765)]
def wsX1_firstSingle_r3 : List Cond := [Cond.constant RJ6 266 (858993459), Cond.constant RJ6 267 (252645135), Cond.methodLink RX0 61 yX2_make, Cond.instanceMethod yX2_make, Cond.selects RX2 yX2_make yX2_make, Cond.initialized RX2, Cond.code yX2_make cX2_make 5 (some .boolean), Cond.fieldLink RX2 11 "CryptSums$Partitions" "sums" "[J", Cond.methodLink RX1 81 yJ6_bitCount_0f7a4]
def wsX1_firstSingle : List Cond := .code yX1_firstSingle cX1_firstSingle 2 (some .int) :: ((wsX1_firstSingle_r1 ++ (wsX1_firstSingle_r2 ++ wsX1_firstSingle_r3)) ++ wsX10 ++ wsX00 ++ wsX20)
def wsX1_tightest_r1 : List Cond := [Cond.methodLink RX1 54 yX1_cells, Cond.instanceMethod yX1_cells, Cond.selects RX1 yX1_cells yX1_cells, Cond.initialized RX1, Cond.code yX1_cells cX1_cells 1 (some .int), Cond.fieldLink RX1 34 "CryptSums$Floor" "columns" "I", Cond.fieldLink RX1 38 "CryptSums$Floor" "rows" "I", Cond.methodLink RX1 80 yX1_numbersFor, Cond.instanceMethod yX1_numbersFor, Cond.selects RX1 yX1_numbersFor yX1_numbersFor, Cond.code yX1_numbersFor cX1_numbersFor 2 (some .int), Cond.fieldLink RX1 23 "CryptSums$Floor" "across" "LCryptSums$Corridors;", Cond.fieldLink RX1 27 "CryptSums$Floor" "down" "LCryptSums$Corridors;", Cond.methodLink RX1 66 yX1_isHole, Cond.instanceMethod yX1_isHole, Cond.selects RX1 yX1_isHole yX1_isHole, Cond.code yX1_isHole cX1_isHole 2 (some .boolean), Cond.fieldLink RX1 12 "CryptSums$Floor" "stones" "[I", Cond.static yX4_read, Cond.initialized RX4, Cond.code yX4_read cX4_read 2 (some .int), Cond.methodLink RX1 69 yX0_numbersFor, Cond.instanceMethod yX0_numbersFor, Cond.selects RX0 yX0_numbersFor yX0_numbersFor]
def wsX1_tightest_r2 : List Cond := [Cond.initialized RX0, Cond.code yX0_numbersFor cX0_numbersFor 10 (some .int), Cond.fieldLink RX0 22 "CryptSums$Corridors" "first" "[I", Cond.fieldLink RX0 58 "CryptSums$Corridors" "seenNumbers" "I", Cond.fieldLink RX0 19 "CryptSums$Corridors" "told" "[I", Cond.fieldLink RX0 25 "CryptSums$Corridors" "size" "[I", Cond.fieldLink RX0 44 "CryptSums$Corridors" "seenStones" "I", Cond.fieldLink RX0 47 "CryptSums$Corridors" "seenTotal" "I", Cond.fieldLink RX0 15 "CryptSums$Corridors" "partitions" "LCryptSums$Partitions;", Cond.methodLink RX0 40 yX0_look, Cond.instanceMethod yX0_look, Cond.selects RX0 yX0_look yX0_look, Cond.code yX0_look cX0_look 5 none, Cond.fieldLink RX0 9 "CryptSums$Corridors" "stones" "[I", Cond.fieldLink RX0 28 "CryptSums$Corridors" "step" "I", Cond.methodLink RX0 54 yX0_sawAlike, Cond.instanceMethod yX0_sawAlike, Cond.selects RX0 yX0_sawAlike yX0_sawAlike, Cond.code yX0_sawAlike cX0_sawAlike 1 (some .boolean), Cond.methodLink RX0 67 yJ6_bitCount_0f7a4, Cond.static yJ6_bitCount_0f7a4, Cond.initialized RJ6, Cond.code yJ6_bitCount_0f7a4 cJ6_bitCount_0f7a4 1 (some .int), Cond.constant RJ6 265 (1431655765)]
def wsX1_tightest_r3 : List Cond := [Cond.constant RJ6 266 (858993459), Cond.constant RJ6 267 (252645135), Cond.methodLink RX0 61 yX2_make, Cond.instanceMethod yX2_make, Cond.selects RX2 yX2_make yX2_make, Cond.initialized RX2, Cond.code yX2_make cX2_make 5 (some .boolean), Cond.fieldLink RX2 11 "CryptSums$Partitions" "sums" "[J", Cond.methodLink RX1 81 yJ6_bitCount_0f7a4]
def wsX1_tightest : List Cond := .code yX1_tightest cX1_tightest 5 (some .int) :: ((wsX1_tightest_r1 ++ (wsX1_tightest_r2 ++ wsX1_tightest_r3)) ++ wsX10 ++ wsX00 ++ wsX20)
def wsX1_meanOfNumbers_r1 : List Cond := [Cond.methodLink RX1 54 yX1_cells, Cond.instanceMethod yX1_cells, Cond.selects RX1 yX1_cells yX1_cells, Cond.initialized RX1, Cond.code yX1_cells cX1_cells 1 (some .int), Cond.fieldLink RX1 34 "CryptSums$Floor" "columns" "I", Cond.fieldLink RX1 38 "CryptSums$Floor" "rows" "I", Cond.methodLink RX1 66 yX1_isHole, Cond.instanceMethod yX1_isHole, Cond.selects RX1 yX1_isHole yX1_isHole, Cond.code yX1_isHole cX1_isHole 2 (some .boolean), Cond.fieldLink RX1 12 "CryptSums$Floor" "stones" "[I", Cond.static yX4_read, Cond.initialized RX4, Cond.code yX4_read cX4_read 2 (some .int), Cond.methodLink RX1 80 yX1_numbersFor, Cond.instanceMethod yX1_numbersFor, Cond.selects RX1 yX1_numbersFor yX1_numbersFor, Cond.code yX1_numbersFor cX1_numbersFor 2 (some .int), Cond.fieldLink RX1 23 "CryptSums$Floor" "across" "LCryptSums$Corridors;", Cond.fieldLink RX1 27 "CryptSums$Floor" "down" "LCryptSums$Corridors;", Cond.methodLink RX1 69 yX0_numbersFor, Cond.instanceMethod yX0_numbersFor, Cond.selects RX0 yX0_numbersFor yX0_numbersFor]
def wsX1_meanOfNumbers_r2 : List Cond := [Cond.initialized RX0, Cond.code yX0_numbersFor cX0_numbersFor 10 (some .int), Cond.fieldLink RX0 22 "CryptSums$Corridors" "first" "[I", Cond.fieldLink RX0 58 "CryptSums$Corridors" "seenNumbers" "I", Cond.fieldLink RX0 19 "CryptSums$Corridors" "told" "[I", Cond.fieldLink RX0 25 "CryptSums$Corridors" "size" "[I", Cond.fieldLink RX0 44 "CryptSums$Corridors" "seenStones" "I", Cond.fieldLink RX0 47 "CryptSums$Corridors" "seenTotal" "I", Cond.fieldLink RX0 15 "CryptSums$Corridors" "partitions" "LCryptSums$Partitions;", Cond.methodLink RX0 40 yX0_look, Cond.instanceMethod yX0_look, Cond.selects RX0 yX0_look yX0_look, Cond.code yX0_look cX0_look 5 none, Cond.fieldLink RX0 9 "CryptSums$Corridors" "stones" "[I", Cond.fieldLink RX0 28 "CryptSums$Corridors" "step" "I", Cond.methodLink RX0 54 yX0_sawAlike, Cond.instanceMethod yX0_sawAlike, Cond.selects RX0 yX0_sawAlike yX0_sawAlike, Cond.code yX0_sawAlike cX0_sawAlike 1 (some .boolean), Cond.methodLink RX0 67 yJ6_bitCount_0f7a4, Cond.static yJ6_bitCount_0f7a4, Cond.initialized RJ6, Cond.code yJ6_bitCount_0f7a4 cJ6_bitCount_0f7a4 1 (some .int), Cond.constant RJ6 265 (1431655765)]
def wsX1_meanOfNumbers_r3 : List Cond := [Cond.constant RJ6 266 (858993459), Cond.constant RJ6 267 (252645135), Cond.methodLink RX0 61 yX2_make, Cond.instanceMethod yX2_make, Cond.selects RX2 yX2_make yX2_make, Cond.initialized RX2, Cond.code yX2_make cX2_make 5 (some .boolean), Cond.fieldLink RX2 11 "CryptSums$Partitions" "sums" "[J", Cond.methodLink RX1 81 yJ6_bitCount_0f7a4]
def wsX1_meanOfNumbers : List Cond := .code yX1_meanOfNumbers cX1_meanOfNumbers 4 (some .double) :: ((wsX1_meanOfNumbers_r1 ++ (wsX1_meanOfNumbers_r2 ++ wsX1_meanOfNumbers_r3)) ++ wsX10 ++ wsX00 ++ wsX20)
def wsX1_openCells : List Cond := .code yX1_openCells cX1_openCells 3 (some .int) :: ([.methodLink RX1 54 yX1_cells, .instanceMethod yX1_cells, .selects RX1 yX1_cells yX1_cells, .initialized RX1, .code yX1_cells cX1_cells 1 (some .int), .fieldLink RX1 34 "CryptSums$Floor" "columns" "I", .fieldLink RX1 38 "CryptSums$Floor" "rows" "I", .methodLink RX1 62 yX1_isPillar, .instanceMethod yX1_isPillar, .selects RX1 yX1_isPillar yX1_isPillar, .code yX1_isPillar cX1_isPillar 2 (some .boolean), .fieldLink RX1 12 "CryptSums$Floor" "stones" "[I", .static yX4_read, .initialized RX4, .code yX4_read cX4_read 2 (some .int)] ++ wsX10)
def wsX1_stonesLaid : List Cond := .code yX1_stonesLaid cX1_stonesLaid 3 (some .int) :: ([.fieldLink RX1 12 "CryptSums$Floor" "stones" "[I", .methodLink RX1 54 yX1_cells, .instanceMethod yX1_cells, .selects RX1 yX1_cells yX1_cells, .initialized RX1, .code yX1_cells cX1_cells 1 (some .int), .fieldLink RX1 34 "CryptSums$Floor" "columns" "I", .fieldLink RX1 38 "CryptSums$Floor" "rows" "I", .static yX4_read, .initialized RX4, .code yX4_read cX4_read 2 (some .int)] ++ wsX10)
def wsX1_summedOf : List Cond := .code yX1_summedOf cX1_summedOf 4 (some .int) :: ([.methodLink RX1 54 yX1_cells, .instanceMethod yX1_cells, .selects RX1 yX1_cells yX1_cells, .initialized RX1, .code yX1_cells cX1_cells 1 (some .int), .fieldLink RX1 34 "CryptSums$Floor" "columns" "I", .fieldLink RX1 38 "CryptSums$Floor" "rows" "I", .methodLink RX1 98 yX0_beginsAt, .instanceMethod yX0_beginsAt, .selects RX0 yX0_beginsAt yX0_beginsAt, .initialized RX0, .code yX0_beginsAt cX0_beginsAt 2 (some .boolean), .fieldLink RX0 22 "CryptSums$Corridors" "first" "[I", .static yX4_read, .initialized RX4, .code yX4_read cX4_read 2 (some .int), .methodLink RX1 101 yX0_toldAt, .instanceMethod yX0_toldAt, .selects RX0 yX0_toldAt yX0_toldAt, .code yX0_toldAt cX0_toldAt 2 (some .int), .fieldLink RX0 19 "CryptSums$Corridors" "told" "[I"] ++ wsX10 ++ wsX00)
def wsX1_holesWithChoices_r1 : List Cond := [Cond.methodLink RX1 54 yX1_cells, Cond.instanceMethod yX1_cells, Cond.selects RX1 yX1_cells yX1_cells, Cond.initialized RX1, Cond.code yX1_cells cX1_cells 1 (some .int), Cond.fieldLink RX1 34 "CryptSums$Floor" "columns" "I", Cond.fieldLink RX1 38 "CryptSums$Floor" "rows" "I", Cond.methodLink RX1 66 yX1_isHole, Cond.instanceMethod yX1_isHole, Cond.selects RX1 yX1_isHole yX1_isHole, Cond.code yX1_isHole cX1_isHole 2 (some .boolean), Cond.fieldLink RX1 12 "CryptSums$Floor" "stones" "[I", Cond.static yX4_read, Cond.initialized RX4, Cond.code yX4_read cX4_read 2 (some .int), Cond.methodLink RX1 80 yX1_numbersFor, Cond.instanceMethod yX1_numbersFor, Cond.selects RX1 yX1_numbersFor yX1_numbersFor, Cond.code yX1_numbersFor cX1_numbersFor 2 (some .int), Cond.fieldLink RX1 23 "CryptSums$Floor" "across" "LCryptSums$Corridors;", Cond.fieldLink RX1 27 "CryptSums$Floor" "down" "LCryptSums$Corridors;", Cond.methodLink RX1 69 yX0_numbersFor, Cond.instanceMethod yX0_numbersFor, Cond.selects RX0 yX0_numbersFor yX0_numbersFor]
def wsX1_holesWithChoices_r2 : List Cond := [Cond.initialized RX0, Cond.code yX0_numbersFor cX0_numbersFor 10 (some .int), Cond.fieldLink RX0 22 "CryptSums$Corridors" "first" "[I", Cond.fieldLink RX0 58 "CryptSums$Corridors" "seenNumbers" "I", Cond.fieldLink RX0 19 "CryptSums$Corridors" "told" "[I", Cond.fieldLink RX0 25 "CryptSums$Corridors" "size" "[I", Cond.fieldLink RX0 44 "CryptSums$Corridors" "seenStones" "I", Cond.fieldLink RX0 47 "CryptSums$Corridors" "seenTotal" "I", Cond.fieldLink RX0 15 "CryptSums$Corridors" "partitions" "LCryptSums$Partitions;", Cond.methodLink RX0 40 yX0_look, Cond.instanceMethod yX0_look, Cond.selects RX0 yX0_look yX0_look, Cond.code yX0_look cX0_look 5 none, Cond.fieldLink RX0 9 "CryptSums$Corridors" "stones" "[I", Cond.fieldLink RX0 28 "CryptSums$Corridors" "step" "I", Cond.methodLink RX0 54 yX0_sawAlike, Cond.instanceMethod yX0_sawAlike, Cond.selects RX0 yX0_sawAlike yX0_sawAlike, Cond.code yX0_sawAlike cX0_sawAlike 1 (some .boolean), Cond.methodLink RX0 67 yJ6_bitCount_0f7a4, Cond.static yJ6_bitCount_0f7a4, Cond.initialized RJ6, Cond.code yJ6_bitCount_0f7a4 cJ6_bitCount_0f7a4 1 (some .int), Cond.constant RJ6 265 (1431655765)]
def wsX1_holesWithChoices_r3 : List Cond := [Cond.constant RJ6 266 (858993459), Cond.constant RJ6 267 (252645135), Cond.methodLink RX0 61 yX2_make, Cond.instanceMethod yX2_make, Cond.selects RX2 yX2_make yX2_make, Cond.initialized RX2, Cond.code yX2_make cX2_make 5 (some .boolean), Cond.fieldLink RX2 11 "CryptSums$Partitions" "sums" "[J", Cond.methodLink RX1 81 yJ6_bitCount_0f7a4]
def wsX1_holesWithChoices : List Cond := .code yX1_holesWithChoices cX1_holesWithChoices 4 (some .int) :: ((wsX1_holesWithChoices_r1 ++ (wsX1_holesWithChoices_r2 ++ wsX1_holesWithChoices_r3)) ++ wsX10 ++ wsX00 ++ wsX20)
def wsX1_tally_r1 : List Cond := [Cond.fieldLink RX1 34 "CryptSums$Floor" "columns" "I", Cond.fieldLink RX1 23 "CryptSums$Floor" "across" "LCryptSums$Corridors;", Cond.fieldLink RX1 27 "CryptSums$Floor" "down" "LCryptSums$Corridors;", Cond.methodLink RX1 54 yX1_cells, Cond.instanceMethod yX1_cells, Cond.selects RX1 yX1_cells yX1_cells, Cond.initialized RX1, Cond.code yX1_cells cX1_cells 1 (some .int), Cond.fieldLink RX1 38 "CryptSums$Floor" "rows" "I", Cond.methodLink RX1 86 yX1_openCells, Cond.instanceMethod yX1_openCells, Cond.selects RX1 yX1_openCells yX1_openCells, Cond.code yX1_openCells cX1_openCells 3 (some .int), Cond.methodLink RX1 62 yX1_isPillar, Cond.instanceMethod yX1_isPillar, Cond.selects RX1 yX1_isPillar yX1_isPillar, Cond.code yX1_isPillar cX1_isPillar 2 (some .boolean), Cond.fieldLink RX1 12 "CryptSums$Floor" "stones" "[I", Cond.static yX4_read, Cond.initialized RX4, Cond.code yX4_read cX4_read 2 (some .int), Cond.methodLink RX1 89 yX1_stonesLaid, Cond.instanceMethod yX1_stonesLaid, Cond.selects RX1 yX1_stonesLaid yX1_stonesLaid]
def wsX1_tally_r2 : List Cond := [Cond.code yX1_stonesLaid cX1_stonesLaid 3 (some .int), Cond.methodLink RX1 77 yX1_corridorsOf, Cond.instanceMethod yX1_corridorsOf, Cond.selects RX1 yX1_corridorsOf yX1_corridorsOf, Cond.code yX1_corridorsOf cX1_corridorsOf 4 (some .int), Cond.methodLink RX1 98 yX0_beginsAt, Cond.instanceMethod yX0_beginsAt, Cond.selects RX0 yX0_beginsAt yX0_beginsAt, Cond.initialized RX0, Cond.code yX0_beginsAt cX0_beginsAt 2 (some .boolean), Cond.fieldLink RX0 22 "CryptSums$Corridors" "first" "[I", Cond.methodLink RX1 92 yX1_summedOf, Cond.instanceMethod yX1_summedOf, Cond.selects RX1 yX1_summedOf yX1_summedOf, Cond.code yX1_summedOf cX1_summedOf 4 (some .int), Cond.methodLink RX1 101 yX0_toldAt, Cond.instanceMethod yX0_toldAt, Cond.selects RX0 yX0_toldAt yX0_toldAt, Cond.code yX0_toldAt cX0_toldAt 2 (some .int), Cond.fieldLink RX0 19 "CryptSums$Corridors" "told" "[I", Cond.methodLink RX1 73 yX1_wellOf, Cond.instanceMethod yX1_wellOf, Cond.selects RX1 yX1_wellOf yX1_wellOf, Cond.code yX1_wellOf cX1_wellOf 4 (some .int)]
def wsX1_tally_r3 : List Cond := [Cond.methodLink RX1 104 yX0_isWellFrom, Cond.instanceMethod yX0_isWellFrom, Cond.selects RX0 yX0_isWellFrom yX0_isWellFrom, Cond.code yX0_isWellFrom cX0_isWellFrom 4 (some .boolean), Cond.fieldLink RX0 25 "CryptSums$Corridors" "size" "[I", Cond.fieldLink RX0 44 "CryptSums$Corridors" "seenStones" "I", Cond.fieldLink RX0 15 "CryptSums$Corridors" "partitions" "LCryptSums$Partitions;", Cond.fieldLink RX0 58 "CryptSums$Corridors" "seenNumbers" "I", Cond.fieldLink RX0 47 "CryptSums$Corridors" "seenTotal" "I", Cond.methodLink RX0 40 yX0_look, Cond.instanceMethod yX0_look, Cond.selects RX0 yX0_look yX0_look, Cond.code yX0_look cX0_look 5 none, Cond.fieldLink RX0 9 "CryptSums$Corridors" "stones" "[I", Cond.fieldLink RX0 28 "CryptSums$Corridors" "step" "I", Cond.methodLink RX0 54 yX0_sawAlike, Cond.instanceMethod yX0_sawAlike, Cond.selects RX0 yX0_sawAlike yX0_sawAlike, Cond.code yX0_sawAlike cX0_sawAlike 1 (some .boolean), Cond.methodLink RX0 67 yJ6_bitCount_0f7a4, Cond.static yJ6_bitCount_0f7a4, Cond.initialized RJ6, Cond.code yJ6_bitCount_0f7a4 cJ6_bitCount_0f7a4 1 (some .int), Cond.constant RJ6 265 (1431655765)]
def wsX1_tally_r4 : List Cond := [Cond.constant RJ6 266 (858993459), Cond.constant RJ6 267 (252645135), Cond.methodLink RX0 61 yX2_make, Cond.instanceMethod yX2_make, Cond.selects RX2 yX2_make yX2_make, Cond.initialized RX2, Cond.code yX2_make cX2_make 5 (some .boolean), Cond.fieldLink RX2 11 "CryptSums$Partitions" "sums" "[J", Cond.methodLink RX1 95 yX1_holesWithChoices, Cond.instanceMethod yX1_holesWithChoices, Cond.selects RX1 yX1_holesWithChoices yX1_holesWithChoices, Cond.code yX1_holesWithChoices cX1_holesWithChoices 4 (some .int), Cond.methodLink RX1 66 yX1_isHole, Cond.instanceMethod yX1_isHole, Cond.selects RX1 yX1_isHole yX1_isHole, Cond.code yX1_isHole cX1_isHole 2 (some .boolean), Cond.methodLink RX1 80 yX1_numbersFor, Cond.instanceMethod yX1_numbersFor, Cond.selects RX1 yX1_numbersFor yX1_numbersFor, Cond.code yX1_numbersFor cX1_numbersFor 2 (some .int), Cond.methodLink RX1 69 yX0_numbersFor, Cond.instanceMethod yX0_numbersFor, Cond.selects RX0 yX0_numbersFor yX0_numbersFor, Cond.code yX0_numbersFor cX0_numbersFor 10 (some .int)]
def wsX1_tally_r5 : List Cond := [Cond.methodLink RX1 81 yJ6_bitCount_0f7a4]
def wsX1_tally : List Cond := .code yX1_tally cX1_tally 2 (some .int) :: ((wsX1_tally_r1 ++ (wsX1_tally_r2 ++ (wsX1_tally_r3 ++ (wsX1_tally_r4 ++ wsX1_tally_r5)))) ++ wsX10 ++ wsX00 ++ wsX20)
def wsX3_init : List Cond := .code yX3_init cX3_init 2 none :: ([.methodLink RX3 3 objectInit, .instanceMethod objectInit, .code objectInit ⟨#[0xb1]⟩ 1 none, .fieldLink RX3 9 "CryptSums$Search" "floor" "LCryptSums$Floor;", .arrayClass .int, .fieldLink RX3 15 "CryptSums$Search" "holes" "[I", .fieldLink RX3 19 "CryptSums$Search" "kept" "[I", .fieldLink RX3 22 "CryptSums$Search" "holeCount" "I", .fieldLink RX3 26 "CryptSums$Search" "tried" "I", .fieldLink RX3 29 "CryptSums$Search" "found" "I", .fieldLink RX3 32 "CryptSums$Search" "fresh" "Z"] ++ wsX30)
def wsX3_forget : List Cond := .code yX3_forget cX3_forget 1 none :: ([.fieldLink RX3 32 "CryptSums$Search" "fresh" "Z"] ++ wsX30)
def wsX3_collectHoles : List Cond := .code yX3_collectHoles cX3_collectHoles 2 none :: ([.fieldLink RX3 9 "CryptSums$Search" "floor" "LCryptSums$Floor;", .fieldLink RX3 15 "CryptSums$Search" "holes" "[I", .fieldLink RX3 22 "CryptSums$Search" "holeCount" "I", .methodLink RX3 56 yX1_cells, .instanceMethod yX1_cells, .selects RX1 yX1_cells yX1_cells, .initialized RX1, .code yX1_cells cX1_cells 1 (some .int), .fieldLink RX1 34 "CryptSums$Floor" "columns" "I", .fieldLink RX1 38 "CryptSums$Floor" "rows" "I", .methodLink RX3 60 yX1_isHole, .instanceMethod yX1_isHole, .selects RX1 yX1_isHole yX1_isHole, .code yX1_isHole cX1_isHole 2 (some .boolean), .fieldLink RX1 12 "CryptSums$Floor" "stones" "[I", .static yX4_read, .initialized RX4, .code yX4_read cX4_read 2 (some .int), .static yX4_write, .code yX4_write cX4_write 3 none] ++ wsX30 ++ wsX10)
def wsX3_keepFilling : List Cond := .code yX3_keepFilling cX3_keepFilling 2 none :: ([.fieldLink RX3 29 "CryptSums$Search" "found" "I", .fieldLink RX3 19 "CryptSums$Search" "kept" "[I", .fieldLink RX3 9 "CryptSums$Search" "floor" "LCryptSums$Floor;", .methodLink RX3 86 yX1_stoneAt, .instanceMethod yX1_stoneAt, .selects RX1 yX1_stoneAt yX1_stoneAt, .initialized RX1, .code yX1_stoneAt cX1_stoneAt 2 (some .int), .fieldLink RX1 12 "CryptSums$Floor" "stones" "[I", .static yX4_read, .initialized RX4, .code yX4_read cX4_read 2 (some .int), .static yX4_write, .code yX4_write cX4_write 3 none] ++ wsX30 ++ wsX10)
def wsX3_isUnknown : List Cond := .code yX3_isUnknown cX3_isUnknown 1 (some .boolean) :: ([.fieldLink RX3 26 "CryptSums$Search" "tried" "I"] ++ wsX30)
def wsX3_isOver : List Cond := .code yX3_isOver cX3_isOver 1 (some .boolean) :: ([.fieldLink RX3 29 "CryptSums$Search" "found" "I", .methodLink RX3 49 yX3_isUnknown, .instanceMethod yX3_isUnknown, .selects RX3 yX3_isUnknown yX3_isUnknown, .initialized RX3, .code yX3_isUnknown cX3_isUnknown 1 (some .boolean), .fieldLink RX3 26 "CryptSums$Search" "tried" "I"] ++ wsX30)
def wsX4_hasNumber : List Cond := .code yX4_hasNumber cX4_hasNumber 2 (some .boolean) :: ([])
def wsX3_fillFrom_r1 : List Cond := [Cond.fieldLink RX3 22 "CryptSums$Search" "holeCount" "I", Cond.fieldLink RX3 9 "CryptSums$Search" "floor" "LCryptSums$Floor;", Cond.fieldLink RX3 15 "CryptSums$Search" "holes" "[I", Cond.fieldLink RX3 26 "CryptSums$Search" "tried" "I", Cond.methodLink RX3 68 yX3_keepFilling, Cond.instanceMethod yX3_keepFilling, Cond.selects RX3 yX3_keepFilling yX3_keepFilling, Cond.initialized RX3, Cond.code yX3_keepFilling cX3_keepFilling 2 none, Cond.fieldLink RX3 29 "CryptSums$Search" "found" "I", Cond.fieldLink RX3 19 "CryptSums$Search" "kept" "[I", Cond.methodLink RX3 86 yX1_stoneAt, Cond.instanceMethod yX1_stoneAt, Cond.selects RX1 yX1_stoneAt yX1_stoneAt, Cond.initialized RX1, Cond.code yX1_stoneAt cX1_stoneAt 2 (some .int), Cond.fieldLink RX1 12 "CryptSums$Floor" "stones" "[I", Cond.static yX4_read, Cond.initialized RX4, Cond.code yX4_read cX4_read 2 (some .int), Cond.static yX4_write, Cond.code yX4_write cX4_write 3 none, Cond.methodLink RX3 71 yX1_numbersFor, Cond.instanceMethod yX1_numbersFor]
def wsX3_fillFrom_r2 : List Cond := [Cond.selects RX1 yX1_numbersFor yX1_numbersFor, Cond.code yX1_numbersFor cX1_numbersFor 2 (some .int), Cond.fieldLink RX1 23 "CryptSums$Floor" "across" "LCryptSums$Corridors;", Cond.fieldLink RX1 27 "CryptSums$Floor" "down" "LCryptSums$Corridors;", Cond.methodLink RX1 66 yX1_isHole, Cond.instanceMethod yX1_isHole, Cond.selects RX1 yX1_isHole yX1_isHole, Cond.code yX1_isHole cX1_isHole 2 (some .boolean), Cond.methodLink RX1 69 yX0_numbersFor, Cond.instanceMethod yX0_numbersFor, Cond.selects RX0 yX0_numbersFor yX0_numbersFor, Cond.initialized RX0, Cond.code yX0_numbersFor cX0_numbersFor 10 (some .int), Cond.fieldLink RX0 22 "CryptSums$Corridors" "first" "[I", Cond.fieldLink RX0 58 "CryptSums$Corridors" "seenNumbers" "I", Cond.fieldLink RX0 19 "CryptSums$Corridors" "told" "[I", Cond.fieldLink RX0 25 "CryptSums$Corridors" "size" "[I", Cond.fieldLink RX0 44 "CryptSums$Corridors" "seenStones" "I", Cond.fieldLink RX0 47 "CryptSums$Corridors" "seenTotal" "I", Cond.fieldLink RX0 15 "CryptSums$Corridors" "partitions" "LCryptSums$Partitions;", Cond.methodLink RX0 40 yX0_look, Cond.instanceMethod yX0_look, Cond.selects RX0 yX0_look yX0_look, Cond.code yX0_look cX0_look 5 none]
def wsX3_fillFrom_r3 : List Cond := [Cond.fieldLink RX0 9 "CryptSums$Corridors" "stones" "[I", Cond.fieldLink RX0 28 "CryptSums$Corridors" "step" "I", Cond.methodLink RX0 54 yX0_sawAlike, Cond.instanceMethod yX0_sawAlike, Cond.selects RX0 yX0_sawAlike yX0_sawAlike, Cond.code yX0_sawAlike cX0_sawAlike 1 (some .boolean), Cond.methodLink RX0 67 yJ6_bitCount_0f7a4, Cond.static yJ6_bitCount_0f7a4, Cond.initialized RJ6, Cond.code yJ6_bitCount_0f7a4 cJ6_bitCount_0f7a4 1 (some .int), Cond.constant RJ6 265 (1431655765), Cond.constant RJ6 266 (858993459), Cond.constant RJ6 267 (252645135), Cond.methodLink RX0 61 yX2_make, Cond.instanceMethod yX2_make, Cond.selects RX2 yX2_make yX2_make, Cond.initialized RX2, Cond.code yX2_make cX2_make 5 (some .boolean), Cond.fieldLink RX2 11 "CryptSums$Partitions" "sums" "[J", Cond.methodLink RX3 75 yX3_isOver, Cond.instanceMethod yX3_isOver, Cond.selects RX3 yX3_isOver yX3_isOver, Cond.code yX3_isOver cX3_isOver 1 (some .boolean), Cond.methodLink RX3 49 yX3_isUnknown]
def wsX3_fillFrom_r4 : List Cond := [Cond.instanceMethod yX3_isUnknown, Cond.selects RX3 yX3_isUnknown yX3_isUnknown, Cond.code yX3_isUnknown cX3_isUnknown 1 (some .boolean), Cond.static yX4_hasNumber, Cond.code yX4_hasNumber cX4_hasNumber 2 (some .boolean), Cond.methodLink RX3 82 yX1_lay, Cond.instanceMethod yX1_lay, Cond.selects RX1 yX1_lay yX1_lay, Cond.code yX1_lay cX1_lay 3 none, Cond.methodLink RX3 45 yX3_fillFrom, Cond.static yX3_fillFrom]
def wsX3_fillFrom : List Cond := .code yX3_fillFrom cX3_fillFrom 6 none :: ((wsX3_fillFrom_r1 ++ (wsX3_fillFrom_r2 ++ (wsX3_fillFrom_r3 ++ wsX3_fillFrom_r4))) ++ wsX30 ++ wsX10 ++ wsX00 ++ wsX20)
def wsX3_refresh_r1 : List Cond := [Cond.fieldLink RX3 32 "CryptSums$Search" "fresh" "Z", Cond.fieldLink RX3 22 "CryptSums$Search" "holeCount" "I", Cond.fieldLink RX3 26 "CryptSums$Search" "tried" "I", Cond.fieldLink RX3 29 "CryptSums$Search" "found" "I", Cond.fieldLink RX3 9 "CryptSums$Search" "floor" "LCryptSums$Floor;", Cond.methodLink RX3 36 yX1_isAllWell, Cond.instanceMethod yX1_isAllWell, Cond.selects RX1 yX1_isAllWell yX1_isAllWell, Cond.initialized RX1, Cond.code yX1_isAllWell cX1_isAllWell 1 (some .boolean), Cond.fieldLink RX1 23 "CryptSums$Floor" "across" "LCryptSums$Corridors;", Cond.fieldLink RX1 27 "CryptSums$Floor" "down" "LCryptSums$Corridors;", Cond.methodLink RX1 73 yX1_wellOf, Cond.instanceMethod yX1_wellOf, Cond.selects RX1 yX1_wellOf yX1_wellOf, Cond.code yX1_wellOf cX1_wellOf 4 (some .int), Cond.methodLink RX1 54 yX1_cells, Cond.instanceMethod yX1_cells, Cond.selects RX1 yX1_cells yX1_cells, Cond.code yX1_cells cX1_cells 1 (some .int), Cond.fieldLink RX1 34 "CryptSums$Floor" "columns" "I", Cond.fieldLink RX1 38 "CryptSums$Floor" "rows" "I", Cond.methodLink RX1 98 yX0_beginsAt, Cond.instanceMethod yX0_beginsAt]
def wsX3_refresh_r2 : List Cond := [Cond.selects RX0 yX0_beginsAt yX0_beginsAt, Cond.initialized RX0, Cond.code yX0_beginsAt cX0_beginsAt 2 (some .boolean), Cond.fieldLink RX0 22 "CryptSums$Corridors" "first" "[I", Cond.static yX4_read, Cond.initialized RX4, Cond.code yX4_read cX4_read 2 (some .int), Cond.methodLink RX1 104 yX0_isWellFrom, Cond.instanceMethod yX0_isWellFrom, Cond.selects RX0 yX0_isWellFrom yX0_isWellFrom, Cond.code yX0_isWellFrom cX0_isWellFrom 4 (some .boolean), Cond.fieldLink RX0 19 "CryptSums$Corridors" "told" "[I", Cond.fieldLink RX0 25 "CryptSums$Corridors" "size" "[I", Cond.fieldLink RX0 44 "CryptSums$Corridors" "seenStones" "I", Cond.fieldLink RX0 15 "CryptSums$Corridors" "partitions" "LCryptSums$Partitions;", Cond.fieldLink RX0 58 "CryptSums$Corridors" "seenNumbers" "I", Cond.fieldLink RX0 47 "CryptSums$Corridors" "seenTotal" "I", Cond.methodLink RX0 40 yX0_look, Cond.instanceMethod yX0_look, Cond.selects RX0 yX0_look yX0_look, Cond.code yX0_look cX0_look 5 none, Cond.fieldLink RX0 9 "CryptSums$Corridors" "stones" "[I", Cond.fieldLink RX0 28 "CryptSums$Corridors" "step" "I", Cond.methodLink RX0 54 yX0_sawAlike]
def wsX3_refresh_r3 : List Cond := [Cond.instanceMethod yX0_sawAlike, Cond.selects RX0 yX0_sawAlike yX0_sawAlike, Cond.code yX0_sawAlike cX0_sawAlike 1 (some .boolean), Cond.methodLink RX0 67 yJ6_bitCount_0f7a4, Cond.static yJ6_bitCount_0f7a4, Cond.initialized RJ6, Cond.code yJ6_bitCount_0f7a4 cJ6_bitCount_0f7a4 1 (some .int), Cond.constant RJ6 265 (1431655765), Cond.constant RJ6 266 (858993459), Cond.constant RJ6 267 (252645135), Cond.methodLink RX0 61 yX2_make, Cond.instanceMethod yX2_make, Cond.selects RX2 yX2_make yX2_make, Cond.initialized RX2, Cond.code yX2_make cX2_make 5 (some .boolean), Cond.fieldLink RX2 11 "CryptSums$Partitions" "sums" "[J", Cond.methodLink RX1 77 yX1_corridorsOf, Cond.instanceMethod yX1_corridorsOf, Cond.selects RX1 yX1_corridorsOf yX1_corridorsOf, Cond.code yX1_corridorsOf cX1_corridorsOf 4 (some .int), Cond.methodLink RX3 42 yX3_collectHoles, Cond.instanceMethod yX3_collectHoles, Cond.selects RX3 yX3_collectHoles yX3_collectHoles, Cond.initialized RX3]
def wsX3_refresh_r4 : List Cond := [Cond.code yX3_collectHoles cX3_collectHoles 2 none, Cond.fieldLink RX3 15 "CryptSums$Search" "holes" "[I", Cond.methodLink RX3 56 yX1_cells, Cond.methodLink RX3 60 yX1_isHole, Cond.instanceMethod yX1_isHole, Cond.selects RX1 yX1_isHole yX1_isHole, Cond.code yX1_isHole cX1_isHole 2 (some .boolean), Cond.fieldLink RX1 12 "CryptSums$Floor" "stones" "[I", Cond.static yX4_write, Cond.code yX4_write cX4_write 3 none, Cond.methodLink RX3 45 yX3_fillFrom, Cond.static yX3_fillFrom, Cond.code yX3_fillFrom cX3_fillFrom 6 none, Cond.methodLink RX3 68 yX3_keepFilling, Cond.instanceMethod yX3_keepFilling, Cond.selects RX3 yX3_keepFilling yX3_keepFilling, Cond.code yX3_keepFilling cX3_keepFilling 2 none, Cond.fieldLink RX3 19 "CryptSums$Search" "kept" "[I", Cond.methodLink RX3 86 yX1_stoneAt, Cond.instanceMethod yX1_stoneAt, Cond.selects RX1 yX1_stoneAt yX1_stoneAt, Cond.code yX1_stoneAt cX1_stoneAt 2 (some .int), Cond.methodLink RX3 71 yX1_numbersFor, Cond.instanceMethod yX1_numbersFor]
def wsX3_refresh_r5 : List Cond := [Cond.selects RX1 yX1_numbersFor yX1_numbersFor, Cond.code yX1_numbersFor cX1_numbersFor 2 (some .int), Cond.methodLink RX1 66 yX1_isHole, Cond.methodLink RX1 69 yX0_numbersFor, Cond.instanceMethod yX0_numbersFor, Cond.selects RX0 yX0_numbersFor yX0_numbersFor, Cond.code yX0_numbersFor cX0_numbersFor 10 (some .int), Cond.methodLink RX3 75 yX3_isOver, Cond.instanceMethod yX3_isOver, Cond.selects RX3 yX3_isOver yX3_isOver, Cond.code yX3_isOver cX3_isOver 1 (some .boolean), Cond.methodLink RX3 49 yX3_isUnknown, Cond.instanceMethod yX3_isUnknown, Cond.selects RX3 yX3_isUnknown yX3_isUnknown, Cond.code yX3_isUnknown cX3_isUnknown 1 (some .boolean), Cond.static yX4_hasNumber, Cond.code yX4_hasNumber cX4_hasNumber 2 (some .boolean), Cond.methodLink RX3 82 yX1_lay, Cond.instanceMethod yX1_lay, Cond.selects RX1 yX1_lay yX1_lay, Cond.code yX1_lay cX1_lay 3 none]
def wsX3_refresh : List Cond := .code yX3_refresh cX3_refresh 1 none :: ((wsX3_refresh_r1 ++ (wsX3_refresh_r2 ++ (wsX3_refresh_r3 ++ (wsX3_refresh_r4 ++ wsX3_refresh_r5)))) ++ wsX30 ++ wsX10 ++ wsX00 ++ wsX20)
def wsX3_told : List Cond := .code yX3_told cX3_told 1 (some .int) :: ([.fieldLink RX3 29 "CryptSums$Search" "found" "I", .methodLink RX3 49 yX3_isUnknown, .instanceMethod yX3_isUnknown, .selects RX3 yX3_isUnknown yX3_isUnknown, .initialized RX3, .code yX3_isUnknown cX3_isUnknown 1 (some .boolean), .fieldLink RX3 26 "CryptSums$Search" "tried" "I"] ++ wsX30)
def wsX3_tried : List Cond := .code yX3_tried cX3_tried 1 (some .int) :: ([.fieldLink RX3 26 "CryptSums$Search" "tried" "I"] ++ wsX30)
def wsX3_firstFilling : List Cond := .code yX3_firstFilling cX3_firstFilling 2 (some .int) :: ([.fieldLink RX3 29 "CryptSums$Search" "found" "I", .fieldLink RX3 19 "CryptSums$Search" "kept" "[I", .methodLink RX3 49 yX3_isUnknown, .instanceMethod yX3_isUnknown, .selects RX3 yX3_isUnknown yX3_isUnknown, .initialized RX3, .code yX3_isUnknown cX3_isUnknown 1 (some .boolean), .fieldLink RX3 26 "CryptSums$Search" "tried" "I", .static yX4_read, .initialized RX4, .code yX4_read cX4_read 2 (some .int)] ++ wsX30)
def wsX4_init_r1 : List Cond := [Cond.methodLink RX4 1 objectInit, Cond.instanceMethod objectInit, Cond.code objectInit ⟨#[0xb1]⟩ 1 none, Cond.classLink RX4 7 RX1, Cond.instantiable RX1 5, Cond.initialized RX1, Cond.fieldLink RX4 10 "CryptSums" "floor" "LCryptSums$Floor;", Cond.classLink RX4 16 RX3, Cond.instantiable RX3 7, Cond.initialized RX3, Cond.fieldLink RX4 21 "CryptSums" "search" "LCryptSums$Search;", Cond.methodLink RX4 9 yX1_init, Cond.instanceMethod yX1_init, Cond.code yX1_init cX1_init 3 none, Cond.methodLink RX1 3 objectInit, Cond.arrayClass .int, Cond.classLink RX1 9 RX2, Cond.instantiable RX2 1, Cond.initialized RX2, Cond.fieldLink RX1 12 "CryptSums$Floor" "stones" "[I", Cond.classLink RX1 18 RX0, Cond.instantiable RX0 9, Cond.initialized RX0, Cond.fieldLink RX1 23 "CryptSums$Floor" "across" "LCryptSums$Corridors;"]
def wsX4_init_r2 : List Cond := [Cond.fieldLink RX1 27 "CryptSums$Floor" "down" "LCryptSums$Corridors;", Cond.methodLink RX1 11 yX2_init, Cond.instanceMethod yX2_init, Cond.code yX2_init cX2_init 3 none, Cond.methodLink RX2 3 objectInit, Cond.arrayClass .long, Cond.fieldLink RX2 11 "CryptSums$Partitions" "sums" "[J", Cond.methodLink RX2 15 yX2_keepSums, Cond.instanceMethod yX2_keepSums, Cond.selects RX2 yX2_keepSums yX2_keepSums, Cond.code yX2_keepSums cX2_keepSums 6 none, Cond.methodLink RX2 19 yX2_addHighest, Cond.instanceMethod yX2_addHighest, Cond.selects RX2 yX2_addHighest yX2_addHighest, Cond.code yX2_addHighest cX2_addHighest 9 none, Cond.methodLink RX2 23 yX2_sumsOf, Cond.instanceMethod yX2_sumsOf, Cond.selects RX2 yX2_sumsOf yX2_sumsOf, Cond.code yX2_sumsOf cX2_sumsOf 4 (some .long), Cond.methodLink RX1 20 yX0_init, Cond.instanceMethod yX0_init, Cond.code yX0_init cX0_init 3 none, Cond.methodLink RX0 3 objectInit, Cond.fieldLink RX0 9 "CryptSums$Corridors" "stones" "[I"]
def wsX4_init_r3 : List Cond := [Cond.fieldLink RX0 15 "CryptSums$Corridors" "partitions" "LCryptSums$Partitions;", Cond.fieldLink RX0 19 "CryptSums$Corridors" "told" "[I", Cond.fieldLink RX0 22 "CryptSums$Corridors" "first" "[I", Cond.fieldLink RX0 25 "CryptSums$Corridors" "size" "[I", Cond.fieldLink RX0 28 "CryptSums$Corridors" "step" "I", Cond.methodLink RX1 30 yX1_clear, Cond.instanceMethod yX1_clear, Cond.selects RX1 yX1_clear yX1_clear, Cond.code yX1_clear cX1_clear 4 none, Cond.fieldLink RX1 34 "CryptSums$Floor" "columns" "I", Cond.fieldLink RX1 38 "CryptSums$Floor" "rows" "I", Cond.static yX4_write, Cond.initialized RX4, Cond.code yX4_write cX4_write 3 none, Cond.methodLink RX1 45 yX0_clear, Cond.instanceMethod yX0_clear, Cond.selects RX0 yX0_clear yX0_clear, Cond.code yX0_clear cX0_clear 3 none, Cond.methodLink RX1 48 yX1_joinCells, Cond.instanceMethod yX1_joinCells, Cond.selects RX1 yX1_joinCells yX1_joinCells, Cond.code yX1_joinCells cX1_joinCells 4 none, Cond.methodLink RX1 51 yX0_join, Cond.instanceMethod yX0_join]
def wsX4_init_r4 : List Cond := [Cond.selects RX0 yX0_join yX0_join, Cond.code yX0_join cX0_join 4 none, Cond.static yX4_read, Cond.code yX4_read cX4_read 2 (some .int), Cond.methodLink RX4 18 yX3_init, Cond.instanceMethod yX3_init, Cond.code yX3_init cX3_init 2 none, Cond.methodLink RX3 3 objectInit, Cond.fieldLink RX3 9 "CryptSums$Search" "floor" "LCryptSums$Floor;", Cond.fieldLink RX3 15 "CryptSums$Search" "holes" "[I", Cond.fieldLink RX3 19 "CryptSums$Search" "kept" "[I", Cond.fieldLink RX3 22 "CryptSums$Search" "holeCount" "I", Cond.fieldLink RX3 26 "CryptSums$Search" "tried" "I", Cond.fieldLink RX3 29 "CryptSums$Search" "found" "I", Cond.fieldLink RX3 32 "CryptSums$Search" "fresh" "Z"]
def wsX4_init : List Cond := .code yX4_init cX4_init 1 none :: ((wsX4_init_r1 ++ (wsX4_init_r2 ++ (wsX4_init_r3 ++ wsX4_init_r4))) ++ wsX10 ++ wsX40 ++ wsX30 ++ wsX20 ++ wsX00)
def wsX4_setFloor_r1 : List Cond := [Cond.classLink RX4 25 "java/lang/IllegalArgumentException", Cond.initialized "java/lang/IllegalArgumentException", Cond.fieldLink RX4 21 "CryptSums" "search" "LCryptSums$Search;", Cond.fieldLink RX4 10 "CryptSums" "floor" "LCryptSums$Floor;", Cond.methodLink RX4 32 yX3_forget, Cond.instanceMethod yX3_forget, Cond.selects RX3 yX3_forget yX3_forget, Cond.initialized RX3, Cond.code yX3_forget cX3_forget 1 none, Cond.fieldLink RX3 32 "CryptSums$Search" "fresh" "Z", Cond.methodLink RX4 35 yX1_clear, Cond.instanceMethod yX1_clear, Cond.selects RX1 yX1_clear yX1_clear, Cond.initialized RX1, Cond.code yX1_clear cX1_clear 4 none, Cond.fieldLink RX1 34 "CryptSums$Floor" "columns" "I", Cond.fieldLink RX1 38 "CryptSums$Floor" "rows" "I", Cond.fieldLink RX1 12 "CryptSums$Floor" "stones" "[I", Cond.fieldLink RX1 23 "CryptSums$Floor" "across" "LCryptSums$Corridors;", Cond.fieldLink RX1 27 "CryptSums$Floor" "down" "LCryptSums$Corridors;", Cond.static yX4_write, Cond.initialized RX4, Cond.code yX4_write cX4_write 3 none, Cond.methodLink RX1 45 yX0_clear]
def wsX4_setFloor_r2 : List Cond := [Cond.instanceMethod yX0_clear, Cond.selects RX0 yX0_clear yX0_clear, Cond.initialized RX0, Cond.code yX0_clear cX0_clear 3 none, Cond.fieldLink RX0 28 "CryptSums$Corridors" "step" "I", Cond.fieldLink RX0 19 "CryptSums$Corridors" "told" "[I", Cond.methodLink RX1 48 yX1_joinCells, Cond.instanceMethod yX1_joinCells, Cond.selects RX1 yX1_joinCells yX1_joinCells, Cond.code yX1_joinCells cX1_joinCells 4 none, Cond.methodLink RX1 51 yX0_join, Cond.instanceMethod yX0_join, Cond.selects RX0 yX0_join yX0_join, Cond.code yX0_join cX0_join 4 none, Cond.fieldLink RX0 25 "CryptSums$Corridors" "size" "[I", Cond.fieldLink RX0 9 "CryptSums$Corridors" "stones" "[I", Cond.fieldLink RX0 22 "CryptSums$Corridors" "first" "[I", Cond.static yX4_read, Cond.code yX4_read cX4_read 2 (some .int), Cond.methodLink RX4 39 yX1_cells, Cond.instanceMethod yX1_cells, Cond.selects RX1 yX1_cells yX1_cells, Cond.code yX1_cells cX1_cells 1 (some .int)]
def wsX4_setFloor : List Cond := .code yX4_setFloor cX4_setFloor 3 (some .int) :: ((wsX4_setFloor_r1 ++ wsX4_setFloor_r2) ++ wsX40 ++ wsX30 ++ wsX10 ++ wsX00 ++ (vx_atS RX4 29 "java/lang/IllegalArgumentException" ["java/lang/RuntimeException", "java/lang/Exception"]).filter goodWord)
def wsX4_checkCell : List Cond := .code yX4_checkCell cX4_checkCell 2 none :: ([.classLink RX4 87 "java/lang/IndexOutOfBoundsException", .initialized "java/lang/IndexOutOfBoundsException", .fieldLink RX4 10 "CryptSums" "floor" "LCryptSums$Floor;", .methodLink RX4 146 yX1_has, .instanceMethod yX1_has, .selects RX1 yX1_has yX1_has, .initialized RX1, .code yX1_has cX1_has 2 (some .boolean), .methodLink RX1 54 yX1_cells, .instanceMethod yX1_cells, .selects RX1 yX1_cells yX1_cells, .code yX1_cells cX1_cells 1 (some .int), .fieldLink RX1 34 "CryptSums$Floor" "columns" "I", .fieldLink RX1 38 "CryptSums$Floor" "rows" "I"] ++ wsX40 ++ wsX10 ++ (vx_atS RX4 91 "java/lang/IndexOutOfBoundsException" ["java/lang/RuntimeException", "java/lang/Exception"]).filter goodWord)
def wsX4_pillar_r1 : List Cond := [Cond.fieldLink RX4 21 "CryptSums" "search" "LCryptSums$Search;", Cond.fieldLink RX4 10 "CryptSums" "floor" "LCryptSums$Floor;", Cond.methodLink RX4 43 yX4_checkCell, Cond.instanceMethod yX4_checkCell, Cond.selects RX4 yX4_checkCell yX4_checkCell, Cond.initialized RX4, Cond.code yX4_checkCell cX4_checkCell 2 none, Cond.classLink RX4 87 "java/lang/IndexOutOfBoundsException", Cond.initialized "java/lang/IndexOutOfBoundsException", Cond.methodLink RX4 146 yX1_has, Cond.instanceMethod yX1_has, Cond.selects RX1 yX1_has yX1_has, Cond.initialized RX1, Cond.code yX1_has cX1_has 2 (some .boolean), Cond.methodLink RX1 54 yX1_cells, Cond.instanceMethod yX1_cells, Cond.selects RX1 yX1_cells yX1_cells, Cond.code yX1_cells cX1_cells 1 (some .int), Cond.fieldLink RX1 34 "CryptSums$Floor" "columns" "I", Cond.fieldLink RX1 38 "CryptSums$Floor" "rows" "I", Cond.methodLink RX4 32 yX3_forget, Cond.instanceMethod yX3_forget, Cond.selects RX3 yX3_forget yX3_forget, Cond.initialized RX3]
def wsX4_pillar_r2 : List Cond := [Cond.code yX3_forget cX3_forget 1 none, Cond.fieldLink RX3 32 "CryptSums$Search" "fresh" "Z", Cond.methodLink RX4 47 yX1_turnPillar, Cond.instanceMethod yX1_turnPillar, Cond.selects RX1 yX1_turnPillar yX1_turnPillar, Cond.code yX1_turnPillar cX1_turnPillar 2 none, Cond.fieldLink RX1 12 "CryptSums$Floor" "stones" "[I", Cond.methodLink RX1 62 yX1_isPillar, Cond.instanceMethod yX1_isPillar, Cond.selects RX1 yX1_isPillar yX1_isPillar, Cond.code yX1_isPillar cX1_isPillar 2 (some .boolean), Cond.static yX4_read, Cond.code yX4_read cX4_read 2 (some .int), Cond.static yX4_write, Cond.code yX4_write cX4_write 3 none, Cond.methodLink RX1 48 yX1_joinCells, Cond.instanceMethod yX1_joinCells, Cond.selects RX1 yX1_joinCells yX1_joinCells, Cond.code yX1_joinCells cX1_joinCells 4 none, Cond.fieldLink RX1 23 "CryptSums$Floor" "across" "LCryptSums$Corridors;", Cond.fieldLink RX1 27 "CryptSums$Floor" "down" "LCryptSums$Corridors;", Cond.methodLink RX1 51 yX0_join, Cond.instanceMethod yX0_join, Cond.selects RX0 yX0_join yX0_join]
def wsX4_pillar_r3 : List Cond := [Cond.initialized RX0, Cond.code yX0_join cX0_join 4 none, Cond.fieldLink RX0 25 "CryptSums$Corridors" "size" "[I", Cond.fieldLink RX0 9 "CryptSums$Corridors" "stones" "[I", Cond.fieldLink RX0 22 "CryptSums$Corridors" "first" "[I", Cond.methodLink RX4 50 yX1_isPillar]
def wsX4_pillar : List Cond := .code yX4_pillar cX4_pillar 2 (some .boolean) :: ((wsX4_pillar_r1 ++ (wsX4_pillar_r2 ++ wsX4_pillar_r3)) ++ wsX40 ++ wsX10 ++ wsX30 ++ wsX00 ++ (vx_atS RX4 91 "java/lang/IndexOutOfBoundsException" ["java/lang/RuntimeException", "java/lang/Exception"]).filter goodWord)
def wsX4_setSum_r1 : List Cond := [Cond.classLink RX4 25 "java/lang/IllegalArgumentException", Cond.initialized "java/lang/IllegalArgumentException", Cond.fieldLink RX4 21 "CryptSums" "search" "LCryptSums$Search;", Cond.fieldLink RX4 10 "CryptSums" "floor" "LCryptSums$Floor;", Cond.methodLink RX4 43 yX4_checkCell, Cond.instanceMethod yX4_checkCell, Cond.selects RX4 yX4_checkCell yX4_checkCell, Cond.initialized RX4, Cond.code yX4_checkCell cX4_checkCell 2 none, Cond.classLink RX4 87 "java/lang/IndexOutOfBoundsException", Cond.initialized "java/lang/IndexOutOfBoundsException", Cond.methodLink RX4 146 yX1_has, Cond.instanceMethod yX1_has, Cond.selects RX1 yX1_has yX1_has, Cond.initialized RX1, Cond.code yX1_has cX1_has 2 (some .boolean), Cond.methodLink RX1 54 yX1_cells, Cond.instanceMethod yX1_cells, Cond.selects RX1 yX1_cells yX1_cells, Cond.code yX1_cells cX1_cells 1 (some .int), Cond.fieldLink RX1 34 "CryptSums$Floor" "columns" "I", Cond.fieldLink RX1 38 "CryptSums$Floor" "rows" "I", Cond.methodLink RX4 32 yX3_forget, Cond.instanceMethod yX3_forget]
def wsX4_setSum_r2 : List Cond := [Cond.selects RX3 yX3_forget yX3_forget, Cond.initialized RX3, Cond.code yX3_forget cX3_forget 1 none, Cond.fieldLink RX3 32 "CryptSums$Search" "fresh" "Z", Cond.methodLink RX4 56 yX1_corridors, Cond.instanceMethod yX1_corridors, Cond.selects RX1 yX1_corridors yX1_corridors, Cond.code yX1_corridors cX1_corridors 2 (some (.object "CryptSums$Corridors")), Cond.fieldLink RX1 27 "CryptSums$Floor" "down" "LCryptSums$Corridors;", Cond.fieldLink RX1 23 "CryptSums$Floor" "across" "LCryptSums$Corridors;", Cond.methodLink RX4 60 yX0_tellSum, Cond.instanceMethod yX0_tellSum, Cond.selects RX0 yX0_tellSum yX0_tellSum, Cond.initialized RX0, Cond.code yX0_tellSum cX0_tellSum 4 (some .int), Cond.fieldLink RX0 19 "CryptSums$Corridors" "told" "[I", Cond.static yX4_read, Cond.code yX4_read cX4_read 2 (some .int), Cond.static yX4_write, Cond.code yX4_write cX4_write 3 none]
def wsX4_setSum : List Cond := .code yX4_setSum cX4_setSum 4 (some .int) :: ((wsX4_setSum_r1 ++ wsX4_setSum_r2) ++ wsX40 ++ wsX10 ++ wsX30 ++ wsX00 ++ (vx_atS RX4 29 "java/lang/IllegalArgumentException" ["java/lang/RuntimeException", "java/lang/Exception"]).filter goodWord ++ (vx_atS RX4 91 "java/lang/IndexOutOfBoundsException" ["java/lang/RuntimeException", "java/lang/Exception"]).filter goodWord)
def wsX4_checkOpen : List Cond := .code yX4_checkOpen cX4_checkOpen 2 none :: ([.classLink RX4 151 "java/lang/IllegalStateException", .initialized "java/lang/IllegalStateException", .fieldLink RX4 10 "CryptSums" "floor" "LCryptSums$Floor;", .methodLink RX4 50 yX1_isPillar, .instanceMethod yX1_isPillar, .selects RX1 yX1_isPillar yX1_isPillar, .initialized RX1, .code yX1_isPillar cX1_isPillar 2 (some .boolean), .fieldLink RX1 12 "CryptSums$Floor" "stones" "[I", .static yX4_read, .initialized RX4, .code yX4_read cX4_read 2 (some .int)] ++ wsX40 ++ wsX10 ++ (vx_atS RX4 155 "java/lang/IllegalStateException" ["java/lang/RuntimeException", "java/lang/Exception"]).filter goodWord)
def wsX4_put_r1 : List Cond := [Cond.classLink RX4 25 "java/lang/IllegalArgumentException", Cond.initialized "java/lang/IllegalArgumentException", Cond.fieldLink RX4 10 "CryptSums" "floor" "LCryptSums$Floor;", Cond.fieldLink RX4 21 "CryptSums" "search" "LCryptSums$Search;", Cond.methodLink RX4 43 yX4_checkCell, Cond.instanceMethod yX4_checkCell, Cond.selects RX4 yX4_checkCell yX4_checkCell, Cond.initialized RX4, Cond.code yX4_checkCell cX4_checkCell 2 none, Cond.classLink RX4 87 "java/lang/IndexOutOfBoundsException", Cond.initialized "java/lang/IndexOutOfBoundsException", Cond.methodLink RX4 146 yX1_has, Cond.instanceMethod yX1_has, Cond.selects RX1 yX1_has yX1_has, Cond.initialized RX1, Cond.code yX1_has cX1_has 2 (some .boolean), Cond.methodLink RX1 54 yX1_cells, Cond.instanceMethod yX1_cells, Cond.selects RX1 yX1_cells yX1_cells, Cond.code yX1_cells cX1_cells 1 (some .int), Cond.fieldLink RX1 34 "CryptSums$Floor" "columns" "I", Cond.fieldLink RX1 38 "CryptSums$Floor" "rows" "I", Cond.methodLink RX4 68 yX4_checkOpen, Cond.instanceMethod yX4_checkOpen]
def wsX4_put_r2 : List Cond := [Cond.selects RX4 yX4_checkOpen yX4_checkOpen, Cond.code yX4_checkOpen cX4_checkOpen 2 none, Cond.classLink RX4 151 "java/lang/IllegalStateException", Cond.initialized "java/lang/IllegalStateException", Cond.methodLink RX4 50 yX1_isPillar, Cond.instanceMethod yX1_isPillar, Cond.selects RX1 yX1_isPillar yX1_isPillar, Cond.code yX1_isPillar cX1_isPillar 2 (some .boolean), Cond.fieldLink RX1 12 "CryptSums$Floor" "stones" "[I", Cond.static yX4_read, Cond.code yX4_read cX4_read 2 (some .int), Cond.methodLink RX4 71 yX1_stoneAt, Cond.instanceMethod yX1_stoneAt, Cond.selects RX1 yX1_stoneAt yX1_stoneAt, Cond.code yX1_stoneAt cX1_stoneAt 2 (some .int), Cond.methodLink RX4 32 yX3_forget, Cond.instanceMethod yX3_forget, Cond.selects RX3 yX3_forget yX3_forget, Cond.initialized RX3, Cond.code yX3_forget cX3_forget 1 none, Cond.fieldLink RX3 32 "CryptSums$Search" "fresh" "Z", Cond.methodLink RX4 75 yX1_lay, Cond.instanceMethod yX1_lay, Cond.selects RX1 yX1_lay yX1_lay]
def wsX4_put_r3 : List Cond := [Cond.code yX1_lay cX1_lay 3 none, Cond.static yX4_write, Cond.code yX4_write cX4_write 3 none]
def wsX4_put : List Cond := .code yX4_put cX4_put 4 (some .int) :: ((wsX4_put_r1 ++ (wsX4_put_r2 ++ wsX4_put_r3)) ++ wsX40 ++ wsX10 ++ wsX30 ++ (vx_atS RX4 29 "java/lang/IllegalArgumentException" ["java/lang/RuntimeException", "java/lang/Exception"]).filter goodWord ++ (vx_atS RX4 91 "java/lang/IndexOutOfBoundsException" ["java/lang/RuntimeException", "java/lang/Exception"]).filter goodWord ++ (vx_atS RX4 155 "java/lang/IllegalStateException" ["java/lang/RuntimeException", "java/lang/Exception"]).filter goodWord)
def wsX4_smallestOf : List Cond := .code yX4_smallestOf cX4_smallestOf 2 (some .int) :: ([.methodLink RX4 168 yX4_hasNumber, .static yX4_hasNumber, .initialized RX4, .code yX4_hasNumber cX4_hasNumber 2 (some .boolean)])
def wsX4_force_r1 : List Cond := [Cond.fieldLink RX4 21 "CryptSums" "search" "LCryptSums$Search;", Cond.fieldLink RX4 10 "CryptSums" "floor" "LCryptSums$Floor;", Cond.methodLink RX4 32 yX3_forget, Cond.instanceMethod yX3_forget, Cond.selects RX3 yX3_forget yX3_forget, Cond.initialized RX3, Cond.code yX3_forget cX3_forget 1 none, Cond.fieldLink RX3 32 "CryptSums$Search" "fresh" "Z", Cond.methodLink RX4 78 yX1_firstSingle, Cond.instanceMethod yX1_firstSingle, Cond.selects RX1 yX1_firstSingle yX1_firstSingle, Cond.initialized RX1, Cond.code yX1_firstSingle cX1_firstSingle 2 (some .int), Cond.methodLink RX1 54 yX1_cells, Cond.instanceMethod yX1_cells, Cond.selects RX1 yX1_cells yX1_cells, Cond.code yX1_cells cX1_cells 1 (some .int), Cond.fieldLink RX1 34 "CryptSums$Floor" "columns" "I", Cond.fieldLink RX1 38 "CryptSums$Floor" "rows" "I", Cond.methodLink RX1 80 yX1_numbersFor, Cond.instanceMethod yX1_numbersFor, Cond.selects RX1 yX1_numbersFor yX1_numbersFor, Cond.code yX1_numbersFor cX1_numbersFor 2 (some .int), Cond.fieldLink RX1 23 "CryptSums$Floor" "across" "LCryptSums$Corridors;"]
def wsX4_force_r2 : List Cond := [Cond.fieldLink RX1 27 "CryptSums$Floor" "down" "LCryptSums$Corridors;", Cond.methodLink RX1 66 yX1_isHole, Cond.instanceMethod yX1_isHole, Cond.selects RX1 yX1_isHole yX1_isHole, Cond.code yX1_isHole cX1_isHole 2 (some .boolean), Cond.fieldLink RX1 12 "CryptSums$Floor" "stones" "[I", Cond.static yX4_read, Cond.initialized RX4, Cond.code yX4_read cX4_read 2 (some .int), Cond.methodLink RX1 69 yX0_numbersFor, Cond.instanceMethod yX0_numbersFor, Cond.selects RX0 yX0_numbersFor yX0_numbersFor, Cond.initialized RX0, Cond.code yX0_numbersFor cX0_numbersFor 10 (some .int), Cond.fieldLink RX0 22 "CryptSums$Corridors" "first" "[I", Cond.fieldLink RX0 58 "CryptSums$Corridors" "seenNumbers" "I", Cond.fieldLink RX0 19 "CryptSums$Corridors" "told" "[I", Cond.fieldLink RX0 25 "CryptSums$Corridors" "size" "[I", Cond.fieldLink RX0 44 "CryptSums$Corridors" "seenStones" "I", Cond.fieldLink RX0 47 "CryptSums$Corridors" "seenTotal" "I", Cond.fieldLink RX0 15 "CryptSums$Corridors" "partitions" "LCryptSums$Partitions;", Cond.methodLink RX0 40 yX0_look, Cond.instanceMethod yX0_look, Cond.selects RX0 yX0_look yX0_look]
def wsX4_force_r3 : List Cond := [Cond.code yX0_look cX0_look 5 none, Cond.fieldLink RX0 9 "CryptSums$Corridors" "stones" "[I", Cond.fieldLink RX0 28 "CryptSums$Corridors" "step" "I", Cond.methodLink RX0 54 yX0_sawAlike, Cond.instanceMethod yX0_sawAlike, Cond.selects RX0 yX0_sawAlike yX0_sawAlike, Cond.code yX0_sawAlike cX0_sawAlike 1 (some .boolean), Cond.methodLink RX0 67 yJ6_bitCount_0f7a4, Cond.static yJ6_bitCount_0f7a4, Cond.initialized RJ6, Cond.code yJ6_bitCount_0f7a4 cJ6_bitCount_0f7a4 1 (some .int), Cond.constant RJ6 265 (1431655765), Cond.constant RJ6 266 (858993459), Cond.constant RJ6 267 (252645135), Cond.methodLink RX0 61 yX2_make, Cond.instanceMethod yX2_make, Cond.selects RX2 yX2_make yX2_make, Cond.initialized RX2, Cond.code yX2_make cX2_make 5 (some .boolean), Cond.fieldLink RX2 11 "CryptSums$Partitions" "sums" "[J", Cond.methodLink RX1 81 yJ6_bitCount_0f7a4, Cond.methodLink RX4 81 yX1_numbersFor, Cond.methodLink RX4 84 yX4_smallestOf, Cond.static yX4_smallestOf]
def wsX4_force_r4 : List Cond := [Cond.code yX4_smallestOf cX4_smallestOf 2 (some .int), Cond.methodLink RX4 168 yX4_hasNumber, Cond.static yX4_hasNumber, Cond.code yX4_hasNumber cX4_hasNumber 2 (some .boolean), Cond.methodLink RX4 75 yX1_lay, Cond.instanceMethod yX1_lay, Cond.selects RX1 yX1_lay yX1_lay, Cond.code yX1_lay cX1_lay 3 none, Cond.static yX4_write, Cond.code yX4_write cX4_write 3 none]
def wsX4_force : List Cond := .code yX4_force cX4_force 3 (some .int) :: ((wsX4_force_r1 ++ (wsX4_force_r2 ++ (wsX4_force_r3 ++ wsX4_force_r4))) ++ wsX40 ++ wsX30 ++ wsX10 ++ wsX00 ++ wsX20)
def wsX4_stone_r1 : List Cond := [Cond.fieldLink RX4 10 "CryptSums" "floor" "LCryptSums$Floor;", Cond.methodLink RX4 43 yX4_checkCell, Cond.instanceMethod yX4_checkCell, Cond.selects RX4 yX4_checkCell yX4_checkCell, Cond.initialized RX4, Cond.code yX4_checkCell cX4_checkCell 2 none, Cond.classLink RX4 87 "java/lang/IndexOutOfBoundsException", Cond.initialized "java/lang/IndexOutOfBoundsException", Cond.methodLink RX4 146 yX1_has, Cond.instanceMethod yX1_has, Cond.selects RX1 yX1_has yX1_has, Cond.initialized RX1, Cond.code yX1_has cX1_has 2 (some .boolean), Cond.methodLink RX1 54 yX1_cells, Cond.instanceMethod yX1_cells, Cond.selects RX1 yX1_cells yX1_cells, Cond.code yX1_cells cX1_cells 1 (some .int), Cond.fieldLink RX1 34 "CryptSums$Floor" "columns" "I", Cond.fieldLink RX1 38 "CryptSums$Floor" "rows" "I", Cond.methodLink RX4 71 yX1_stoneAt, Cond.instanceMethod yX1_stoneAt, Cond.selects RX1 yX1_stoneAt yX1_stoneAt, Cond.code yX1_stoneAt cX1_stoneAt 2 (some .int), Cond.fieldLink RX1 12 "CryptSums$Floor" "stones" "[I"]
def wsX4_stone_r2 : List Cond := [Cond.static yX4_read, Cond.code yX4_read cX4_read 2 (some .int)]
def wsX4_stone : List Cond := .code yX4_stone cX4_stone 2 (some .int) :: ((wsX4_stone_r1 ++ wsX4_stone_r2) ++ wsX40 ++ wsX10 ++ (vx_atS RX4 91 "java/lang/IndexOutOfBoundsException" ["java/lang/RuntimeException", "java/lang/Exception"]).filter goodWord)
def wsX4_corridor_r1 : List Cond := [Cond.classLink RX4 87 "java/lang/IndexOutOfBoundsException", Cond.initialized "java/lang/IndexOutOfBoundsException", Cond.fieldLink RX4 10 "CryptSums" "floor" "LCryptSums$Floor;", Cond.methodLink RX4 43 yX4_checkCell, Cond.instanceMethod yX4_checkCell, Cond.selects RX4 yX4_checkCell yX4_checkCell, Cond.initialized RX4, Cond.code yX4_checkCell cX4_checkCell 2 none, Cond.methodLink RX4 146 yX1_has, Cond.instanceMethod yX1_has, Cond.selects RX1 yX1_has yX1_has, Cond.initialized RX1, Cond.code yX1_has cX1_has 2 (some .boolean), Cond.methodLink RX1 54 yX1_cells, Cond.instanceMethod yX1_cells, Cond.selects RX1 yX1_cells yX1_cells, Cond.code yX1_cells cX1_cells 1 (some .int), Cond.fieldLink RX1 34 "CryptSums$Floor" "columns" "I", Cond.fieldLink RX1 38 "CryptSums$Floor" "rows" "I", Cond.methodLink RX4 56 yX1_corridors, Cond.instanceMethod yX1_corridors, Cond.selects RX1 yX1_corridors yX1_corridors, Cond.code yX1_corridors cX1_corridors 2 (some (.object "CryptSums$Corridors")), Cond.fieldLink RX1 27 "CryptSums$Floor" "down" "LCryptSums$Corridors;"]
def wsX4_corridor_r2 : List Cond := [Cond.fieldLink RX1 23 "CryptSums$Floor" "across" "LCryptSums$Corridors;", Cond.methodLink RX4 92 yX0_tell, Cond.instanceMethod yX0_tell, Cond.selects RX0 yX0_tell yX0_tell, Cond.initialized RX0, Cond.code yX0_tell cX0_tell 4 (some .int), Cond.fieldLink RX0 22 "CryptSums$Corridors" "first" "[I", Cond.fieldLink RX0 25 "CryptSums$Corridors" "size" "[I", Cond.fieldLink RX0 19 "CryptSums$Corridors" "told" "[I", Cond.fieldLink RX0 44 "CryptSums$Corridors" "seenStones" "I", Cond.fieldLink RX0 47 "CryptSums$Corridors" "seenTotal" "I", Cond.static yX4_read, Cond.code yX4_read cX4_read 2 (some .int), Cond.methodLink RX0 40 yX0_look, Cond.instanceMethod yX0_look, Cond.selects RX0 yX0_look yX0_look, Cond.code yX0_look cX0_look 5 none, Cond.fieldLink RX0 58 "CryptSums$Corridors" "seenNumbers" "I", Cond.fieldLink RX0 9 "CryptSums$Corridors" "stones" "[I", Cond.fieldLink RX0 28 "CryptSums$Corridors" "step" "I", Cond.methodLink RX0 50 yX0_isWellFrom, Cond.instanceMethod yX0_isWellFrom, Cond.selects RX0 yX0_isWellFrom yX0_isWellFrom, Cond.code yX0_isWellFrom cX0_isWellFrom 4 (some .boolean)]
def wsX4_corridor_r3 : List Cond := [Cond.fieldLink RX0 15 "CryptSums$Corridors" "partitions" "LCryptSums$Partitions;", Cond.methodLink RX0 54 yX0_sawAlike, Cond.instanceMethod yX0_sawAlike, Cond.selects RX0 yX0_sawAlike yX0_sawAlike, Cond.code yX0_sawAlike cX0_sawAlike 1 (some .boolean), Cond.methodLink RX0 67 yJ6_bitCount_0f7a4, Cond.static yJ6_bitCount_0f7a4, Cond.initialized RJ6, Cond.code yJ6_bitCount_0f7a4 cJ6_bitCount_0f7a4 1 (some .int), Cond.constant RJ6 265 (1431655765), Cond.constant RJ6 266 (858993459), Cond.constant RJ6 267 (252645135), Cond.methodLink RX0 61 yX2_make, Cond.instanceMethod yX2_make, Cond.selects RX2 yX2_make yX2_make, Cond.initialized RX2, Cond.code yX2_make cX2_make 5 (some .boolean), Cond.fieldLink RX2 11 "CryptSums$Partitions" "sums" "[J"]
def wsX4_corridor : List Cond := .code yX4_corridor cX4_corridor 4 (some .int) :: ((wsX4_corridor_r1 ++ (wsX4_corridor_r2 ++ wsX4_corridor_r3)) ++ wsX40 ++ wsX10 ++ wsX00 ++ wsX20 ++ (vx_atS RX4 91 "java/lang/IndexOutOfBoundsException" ["java/lang/RuntimeException", "java/lang/Exception"]).filter goodWord)
def wsX4_can_r1 : List Cond := [Cond.fieldLink RX4 10 "CryptSums" "floor" "LCryptSums$Floor;", Cond.methodLink RX4 43 yX4_checkCell, Cond.instanceMethod yX4_checkCell, Cond.selects RX4 yX4_checkCell yX4_checkCell, Cond.initialized RX4, Cond.code yX4_checkCell cX4_checkCell 2 none, Cond.classLink RX4 87 "java/lang/IndexOutOfBoundsException", Cond.initialized "java/lang/IndexOutOfBoundsException", Cond.methodLink RX4 146 yX1_has, Cond.instanceMethod yX1_has, Cond.selects RX1 yX1_has yX1_has, Cond.initialized RX1, Cond.code yX1_has cX1_has 2 (some .boolean), Cond.methodLink RX1 54 yX1_cells, Cond.instanceMethod yX1_cells, Cond.selects RX1 yX1_cells yX1_cells, Cond.code yX1_cells cX1_cells 1 (some .int), Cond.fieldLink RX1 34 "CryptSums$Floor" "columns" "I", Cond.fieldLink RX1 38 "CryptSums$Floor" "rows" "I", Cond.methodLink RX4 81 yX1_numbersFor, Cond.instanceMethod yX1_numbersFor, Cond.selects RX1 yX1_numbersFor yX1_numbersFor, Cond.code yX1_numbersFor cX1_numbersFor 2 (some .int), Cond.fieldLink RX1 23 "CryptSums$Floor" "across" "LCryptSums$Corridors;"]
def wsX4_can_r2 : List Cond := [Cond.fieldLink RX1 27 "CryptSums$Floor" "down" "LCryptSums$Corridors;", Cond.methodLink RX1 66 yX1_isHole, Cond.instanceMethod yX1_isHole, Cond.selects RX1 yX1_isHole yX1_isHole, Cond.code yX1_isHole cX1_isHole 2 (some .boolean), Cond.fieldLink RX1 12 "CryptSums$Floor" "stones" "[I", Cond.static yX4_read, Cond.code yX4_read cX4_read 2 (some .int), Cond.methodLink RX1 69 yX0_numbersFor, Cond.instanceMethod yX0_numbersFor, Cond.selects RX0 yX0_numbersFor yX0_numbersFor, Cond.initialized RX0, Cond.code yX0_numbersFor cX0_numbersFor 10 (some .int), Cond.fieldLink RX0 22 "CryptSums$Corridors" "first" "[I", Cond.fieldLink RX0 58 "CryptSums$Corridors" "seenNumbers" "I", Cond.fieldLink RX0 19 "CryptSums$Corridors" "told" "[I", Cond.fieldLink RX0 25 "CryptSums$Corridors" "size" "[I", Cond.fieldLink RX0 44 "CryptSums$Corridors" "seenStones" "I", Cond.fieldLink RX0 47 "CryptSums$Corridors" "seenTotal" "I", Cond.fieldLink RX0 15 "CryptSums$Corridors" "partitions" "LCryptSums$Partitions;", Cond.methodLink RX0 40 yX0_look, Cond.instanceMethod yX0_look, Cond.selects RX0 yX0_look yX0_look, Cond.code yX0_look cX0_look 5 none]
def wsX4_can_r3 : List Cond := [Cond.fieldLink RX0 9 "CryptSums$Corridors" "stones" "[I", Cond.fieldLink RX0 28 "CryptSums$Corridors" "step" "I", Cond.methodLink RX0 54 yX0_sawAlike, Cond.instanceMethod yX0_sawAlike, Cond.selects RX0 yX0_sawAlike yX0_sawAlike, Cond.code yX0_sawAlike cX0_sawAlike 1 (some .boolean), Cond.methodLink RX0 67 yJ6_bitCount_0f7a4, Cond.static yJ6_bitCount_0f7a4, Cond.initialized RJ6, Cond.code yJ6_bitCount_0f7a4 cJ6_bitCount_0f7a4 1 (some .int), Cond.constant RJ6 265 (1431655765), Cond.constant RJ6 266 (858993459), Cond.constant RJ6 267 (252645135), Cond.methodLink RX0 61 yX2_make, Cond.instanceMethod yX2_make, Cond.selects RX2 yX2_make yX2_make, Cond.initialized RX2, Cond.code yX2_make cX2_make 5 (some .boolean), Cond.fieldLink RX2 11 "CryptSums$Partitions" "sums" "[J"]
def wsX4_can : List Cond := .code yX4_can cX4_can 2 (some .int) :: ((wsX4_can_r1 ++ (wsX4_can_r2 ++ wsX4_can_r3)) ++ wsX40 ++ wsX10 ++ wsX00 ++ wsX20 ++ (vx_atS RX4 91 "java/lang/IndexOutOfBoundsException" ["java/lang/RuntimeException", "java/lang/Exception"]).filter goodWord)
def wsX4_count_r1 : List Cond := [Cond.classLink RX4 87 "java/lang/IndexOutOfBoundsException", Cond.initialized "java/lang/IndexOutOfBoundsException", Cond.fieldLink RX4 10 "CryptSums" "floor" "LCryptSums$Floor;", Cond.methodLink RX4 97 yX1_tally, Cond.instanceMethod yX1_tally, Cond.selects RX1 yX1_tally yX1_tally, Cond.initialized RX1, Cond.code yX1_tally cX1_tally 2 (some .int), Cond.fieldLink RX1 34 "CryptSums$Floor" "columns" "I", Cond.fieldLink RX1 23 "CryptSums$Floor" "across" "LCryptSums$Corridors;", Cond.fieldLink RX1 27 "CryptSums$Floor" "down" "LCryptSums$Corridors;", Cond.methodLink RX1 54 yX1_cells, Cond.instanceMethod yX1_cells, Cond.selects RX1 yX1_cells yX1_cells, Cond.code yX1_cells cX1_cells 1 (some .int), Cond.fieldLink RX1 38 "CryptSums$Floor" "rows" "I", Cond.methodLink RX1 86 yX1_openCells, Cond.instanceMethod yX1_openCells, Cond.selects RX1 yX1_openCells yX1_openCells, Cond.code yX1_openCells cX1_openCells 3 (some .int), Cond.methodLink RX1 62 yX1_isPillar, Cond.instanceMethod yX1_isPillar, Cond.selects RX1 yX1_isPillar yX1_isPillar, Cond.code yX1_isPillar cX1_isPillar 2 (some .boolean)]
def wsX4_count_r2 : List Cond := [Cond.fieldLink RX1 12 "CryptSums$Floor" "stones" "[I", Cond.static yX4_read, Cond.initialized RX4, Cond.code yX4_read cX4_read 2 (some .int), Cond.methodLink RX1 89 yX1_stonesLaid, Cond.instanceMethod yX1_stonesLaid, Cond.selects RX1 yX1_stonesLaid yX1_stonesLaid, Cond.code yX1_stonesLaid cX1_stonesLaid 3 (some .int), Cond.methodLink RX1 77 yX1_corridorsOf, Cond.instanceMethod yX1_corridorsOf, Cond.selects RX1 yX1_corridorsOf yX1_corridorsOf, Cond.code yX1_corridorsOf cX1_corridorsOf 4 (some .int), Cond.methodLink RX1 98 yX0_beginsAt, Cond.instanceMethod yX0_beginsAt, Cond.selects RX0 yX0_beginsAt yX0_beginsAt, Cond.initialized RX0, Cond.code yX0_beginsAt cX0_beginsAt 2 (some .boolean), Cond.fieldLink RX0 22 "CryptSums$Corridors" "first" "[I", Cond.methodLink RX1 92 yX1_summedOf, Cond.instanceMethod yX1_summedOf, Cond.selects RX1 yX1_summedOf yX1_summedOf, Cond.code yX1_summedOf cX1_summedOf 4 (some .int), Cond.methodLink RX1 101 yX0_toldAt, Cond.instanceMethod yX0_toldAt]
def wsX4_count_r3 : List Cond := [Cond.selects RX0 yX0_toldAt yX0_toldAt, Cond.code yX0_toldAt cX0_toldAt 2 (some .int), Cond.fieldLink RX0 19 "CryptSums$Corridors" "told" "[I", Cond.methodLink RX1 73 yX1_wellOf, Cond.instanceMethod yX1_wellOf, Cond.selects RX1 yX1_wellOf yX1_wellOf, Cond.code yX1_wellOf cX1_wellOf 4 (some .int), Cond.methodLink RX1 104 yX0_isWellFrom, Cond.instanceMethod yX0_isWellFrom, Cond.selects RX0 yX0_isWellFrom yX0_isWellFrom, Cond.code yX0_isWellFrom cX0_isWellFrom 4 (some .boolean), Cond.fieldLink RX0 25 "CryptSums$Corridors" "size" "[I", Cond.fieldLink RX0 44 "CryptSums$Corridors" "seenStones" "I", Cond.fieldLink RX0 15 "CryptSums$Corridors" "partitions" "LCryptSums$Partitions;", Cond.fieldLink RX0 58 "CryptSums$Corridors" "seenNumbers" "I", Cond.fieldLink RX0 47 "CryptSums$Corridors" "seenTotal" "I", Cond.methodLink RX0 40 yX0_look, Cond.instanceMethod yX0_look, Cond.selects RX0 yX0_look yX0_look, Cond.code yX0_look cX0_look 5 none, Cond.fieldLink RX0 9 "CryptSums$Corridors" "stones" "[I", Cond.fieldLink RX0 28 "CryptSums$Corridors" "step" "I", Cond.methodLink RX0 54 yX0_sawAlike, Cond.instanceMethod yX0_sawAlike]
def wsX4_count_r4 : List Cond := [Cond.selects RX0 yX0_sawAlike yX0_sawAlike, Cond.code yX0_sawAlike cX0_sawAlike 1 (some .boolean), Cond.methodLink RX0 67 yJ6_bitCount_0f7a4, Cond.static yJ6_bitCount_0f7a4, Cond.initialized RJ6, Cond.code yJ6_bitCount_0f7a4 cJ6_bitCount_0f7a4 1 (some .int), Cond.constant RJ6 265 (1431655765), Cond.constant RJ6 266 (858993459), Cond.constant RJ6 267 (252645135), Cond.methodLink RX0 61 yX2_make, Cond.instanceMethod yX2_make, Cond.selects RX2 yX2_make yX2_make, Cond.initialized RX2, Cond.code yX2_make cX2_make 5 (some .boolean), Cond.fieldLink RX2 11 "CryptSums$Partitions" "sums" "[J", Cond.methodLink RX1 95 yX1_holesWithChoices, Cond.instanceMethod yX1_holesWithChoices, Cond.selects RX1 yX1_holesWithChoices yX1_holesWithChoices, Cond.code yX1_holesWithChoices cX1_holesWithChoices 4 (some .int), Cond.methodLink RX1 66 yX1_isHole, Cond.instanceMethod yX1_isHole, Cond.selects RX1 yX1_isHole yX1_isHole, Cond.code yX1_isHole cX1_isHole 2 (some .boolean), Cond.methodLink RX1 80 yX1_numbersFor]
def wsX4_count_r5 : List Cond := [Cond.instanceMethod yX1_numbersFor, Cond.selects RX1 yX1_numbersFor yX1_numbersFor, Cond.code yX1_numbersFor cX1_numbersFor 2 (some .int), Cond.methodLink RX1 69 yX0_numbersFor, Cond.instanceMethod yX0_numbersFor, Cond.selects RX0 yX0_numbersFor yX0_numbersFor, Cond.code yX0_numbersFor cX0_numbersFor 10 (some .int), Cond.methodLink RX1 81 yJ6_bitCount_0f7a4]
def wsX4_count : List Cond := .code yX4_count cX4_count 2 (some .int) :: ((wsX4_count_r1 ++ (wsX4_count_r2 ++ (wsX4_count_r3 ++ (wsX4_count_r4 ++ wsX4_count_r5)))) ++ wsX40 ++ wsX10 ++ wsX00 ++ wsX20 ++ (vx_atS RX4 91 "java/lang/IndexOutOfBoundsException" ["java/lang/RuntimeException", "java/lang/Exception"]).filter goodWord)
def wsX4_checkPartition : List Cond := .code yX4_checkPartition cX4_checkPartition 2 none :: ([.classLink RX4 25 "java/lang/IllegalArgumentException", .initialized "java/lang/IllegalArgumentException"] ++ (vx_atS RX4 29 "java/lang/IllegalArgumentException" ["java/lang/RuntimeException", "java/lang/Exception"]).filter goodWord)
def wsX4_totalOf : List Cond := .code yX4_totalOf cX4_totalOf 3 (some .int) :: ([.methodLink RX4 168 yX4_hasNumber, .static yX4_hasNumber, .initialized RX4, .code yX4_hasNumber cX4_hasNumber 2 (some .boolean)])
def wsX4_isPartition : List Cond := .code yX4_isPartition cX4_isPartition 3 (some .boolean) :: ([.methodLink RX4 160 yJ6_bitCount_0f7a4, .static yJ6_bitCount_0f7a4, .initialized RJ6, .code yJ6_bitCount_0f7a4 cJ6_bitCount_0f7a4 1 (some .int), .constant RJ6 265 (1431655765), .constant RJ6 266 (858993459), .constant RJ6 267 (252645135), .methodLink RX4 165 yX4_totalOf, .static yX4_totalOf, .initialized RX4, .code yX4_totalOf cX4_totalOf 3 (some .int), .methodLink RX4 168 yX4_hasNumber, .static yX4_hasNumber, .code yX4_hasNumber cX4_hasNumber 2 (some .boolean)])
def wsX4_ways : List Cond := .code yX4_ways cX4_ways 5 (some .int) :: ([.methodLink RX4 100 yX4_checkPartition, .static yX4_checkPartition, .initialized RX4, .code yX4_checkPartition cX4_checkPartition 2 none, .classLink RX4 25 "java/lang/IllegalArgumentException", .initialized "java/lang/IllegalArgumentException", .methodLink RX4 103 yX4_isPartition, .static yX4_isPartition, .code yX4_isPartition cX4_isPartition 3 (some .boolean), .methodLink RX4 160 yJ6_bitCount_0f7a4, .static yJ6_bitCount_0f7a4, .initialized RJ6, .code yJ6_bitCount_0f7a4 cJ6_bitCount_0f7a4 1 (some .int), .constant RJ6 265 (1431655765), .constant RJ6 266 (858993459), .constant RJ6 267 (252645135), .methodLink RX4 165 yX4_totalOf, .static yX4_totalOf, .code yX4_totalOf cX4_totalOf 3 (some .int), .methodLink RX4 168 yX4_hasNumber, .static yX4_hasNumber, .code yX4_hasNumber cX4_hasNumber 2 (some .boolean)] ++ (vx_atS RX4 29 "java/lang/IllegalArgumentException" ["java/lang/RuntimeException", "java/lang/Exception"]).filter goodWord)
def wsX4_forced : List Cond := .code yX4_forced cX4_forced 6 (some .int) :: ([.methodLink RX4 100 yX4_checkPartition, .static yX4_checkPartition, .initialized RX4, .code yX4_checkPartition cX4_checkPartition 2 none, .classLink RX4 25 "java/lang/IllegalArgumentException", .initialized "java/lang/IllegalArgumentException", .methodLink RX4 103 yX4_isPartition, .static yX4_isPartition, .code yX4_isPartition cX4_isPartition 3 (some .boolean), .methodLink RX4 160 yJ6_bitCount_0f7a4, .static yJ6_bitCount_0f7a4, .initialized RJ6, .code yJ6_bitCount_0f7a4 cJ6_bitCount_0f7a4 1 (some .int), .constant RJ6 265 (1431655765), .constant RJ6 266 (858993459), .constant RJ6 267 (252645135), .methodLink RX4 165 yX4_totalOf, .static yX4_totalOf, .code yX4_totalOf cX4_totalOf 3 (some .int), .methodLink RX4 168 yX4_hasNumber, .static yX4_hasNumber, .code yX4_hasNumber cX4_hasNumber 2 (some .boolean)] ++ (vx_atS RX4 29 "java/lang/IllegalArgumentException" ["java/lang/RuntimeException", "java/lang/Exception"]).filter goodWord)
def wsX4_fillings_r1 : List Cond := [Cond.fieldLink RX4 21 "CryptSums" "search" "LCryptSums$Search;", Cond.methodLink RX4 107 yX3_refresh, Cond.instanceMethod yX3_refresh, Cond.selects RX3 yX3_refresh yX3_refresh, Cond.initialized RX3, Cond.code yX3_refresh cX3_refresh 1 none, Cond.fieldLink RX3 32 "CryptSums$Search" "fresh" "Z", Cond.fieldLink RX3 22 "CryptSums$Search" "holeCount" "I", Cond.fieldLink RX3 26 "CryptSums$Search" "tried" "I", Cond.fieldLink RX3 29 "CryptSums$Search" "found" "I", Cond.fieldLink RX3 9 "CryptSums$Search" "floor" "LCryptSums$Floor;", Cond.methodLink RX3 36 yX1_isAllWell, Cond.instanceMethod yX1_isAllWell, Cond.selects RX1 yX1_isAllWell yX1_isAllWell, Cond.initialized RX1, Cond.code yX1_isAllWell cX1_isAllWell 1 (some .boolean), Cond.fieldLink RX1 23 "CryptSums$Floor" "across" "LCryptSums$Corridors;", Cond.fieldLink RX1 27 "CryptSums$Floor" "down" "LCryptSums$Corridors;", Cond.methodLink RX1 73 yX1_wellOf, Cond.instanceMethod yX1_wellOf, Cond.selects RX1 yX1_wellOf yX1_wellOf, Cond.code yX1_wellOf cX1_wellOf 4 (some .int), Cond.methodLink RX1 54 yX1_cells, Cond.instanceMethod yX1_cells]
def wsX4_fillings_r2 : List Cond := [Cond.selects RX1 yX1_cells yX1_cells, Cond.code yX1_cells cX1_cells 1 (some .int), Cond.fieldLink RX1 34 "CryptSums$Floor" "columns" "I", Cond.fieldLink RX1 38 "CryptSums$Floor" "rows" "I", Cond.methodLink RX1 98 yX0_beginsAt, Cond.instanceMethod yX0_beginsAt, Cond.selects RX0 yX0_beginsAt yX0_beginsAt, Cond.initialized RX0, Cond.code yX0_beginsAt cX0_beginsAt 2 (some .boolean), Cond.fieldLink RX0 22 "CryptSums$Corridors" "first" "[I", Cond.static yX4_read, Cond.initialized RX4, Cond.code yX4_read cX4_read 2 (some .int), Cond.methodLink RX1 104 yX0_isWellFrom, Cond.instanceMethod yX0_isWellFrom, Cond.selects RX0 yX0_isWellFrom yX0_isWellFrom, Cond.code yX0_isWellFrom cX0_isWellFrom 4 (some .boolean), Cond.fieldLink RX0 19 "CryptSums$Corridors" "told" "[I", Cond.fieldLink RX0 25 "CryptSums$Corridors" "size" "[I", Cond.fieldLink RX0 44 "CryptSums$Corridors" "seenStones" "I", Cond.fieldLink RX0 15 "CryptSums$Corridors" "partitions" "LCryptSums$Partitions;", Cond.fieldLink RX0 58 "CryptSums$Corridors" "seenNumbers" "I", Cond.fieldLink RX0 47 "CryptSums$Corridors" "seenTotal" "I", Cond.methodLink RX0 40 yX0_look]
def wsX4_fillings_r3 : List Cond := [Cond.instanceMethod yX0_look, Cond.selects RX0 yX0_look yX0_look, Cond.code yX0_look cX0_look 5 none, Cond.fieldLink RX0 9 "CryptSums$Corridors" "stones" "[I", Cond.fieldLink RX0 28 "CryptSums$Corridors" "step" "I", Cond.methodLink RX0 54 yX0_sawAlike, Cond.instanceMethod yX0_sawAlike, Cond.selects RX0 yX0_sawAlike yX0_sawAlike, Cond.code yX0_sawAlike cX0_sawAlike 1 (some .boolean), Cond.methodLink RX0 67 yJ6_bitCount_0f7a4, Cond.static yJ6_bitCount_0f7a4, Cond.initialized RJ6, Cond.code yJ6_bitCount_0f7a4 cJ6_bitCount_0f7a4 1 (some .int), Cond.constant RJ6 265 (1431655765), Cond.constant RJ6 266 (858993459), Cond.constant RJ6 267 (252645135), Cond.methodLink RX0 61 yX2_make, Cond.instanceMethod yX2_make, Cond.selects RX2 yX2_make yX2_make, Cond.initialized RX2, Cond.code yX2_make cX2_make 5 (some .boolean), Cond.fieldLink RX2 11 "CryptSums$Partitions" "sums" "[J", Cond.methodLink RX1 77 yX1_corridorsOf, Cond.instanceMethod yX1_corridorsOf]
def wsX4_fillings_r4 : List Cond := [Cond.selects RX1 yX1_corridorsOf yX1_corridorsOf, Cond.code yX1_corridorsOf cX1_corridorsOf 4 (some .int), Cond.methodLink RX3 42 yX3_collectHoles, Cond.instanceMethod yX3_collectHoles, Cond.selects RX3 yX3_collectHoles yX3_collectHoles, Cond.code yX3_collectHoles cX3_collectHoles 2 none, Cond.fieldLink RX3 15 "CryptSums$Search" "holes" "[I", Cond.methodLink RX3 56 yX1_cells, Cond.methodLink RX3 60 yX1_isHole, Cond.instanceMethod yX1_isHole, Cond.selects RX1 yX1_isHole yX1_isHole, Cond.code yX1_isHole cX1_isHole 2 (some .boolean), Cond.fieldLink RX1 12 "CryptSums$Floor" "stones" "[I", Cond.static yX4_write, Cond.code yX4_write cX4_write 3 none, Cond.methodLink RX3 45 yX3_fillFrom, Cond.static yX3_fillFrom, Cond.code yX3_fillFrom cX3_fillFrom 6 none, Cond.methodLink RX3 68 yX3_keepFilling, Cond.instanceMethod yX3_keepFilling, Cond.selects RX3 yX3_keepFilling yX3_keepFilling, Cond.code yX3_keepFilling cX3_keepFilling 2 none, Cond.fieldLink RX3 19 "CryptSums$Search" "kept" "[I", Cond.methodLink RX3 86 yX1_stoneAt]
def wsX4_fillings_r5 : List Cond := [Cond.instanceMethod yX1_stoneAt, Cond.selects RX1 yX1_stoneAt yX1_stoneAt, Cond.code yX1_stoneAt cX1_stoneAt 2 (some .int), Cond.methodLink RX3 71 yX1_numbersFor, Cond.instanceMethod yX1_numbersFor, Cond.selects RX1 yX1_numbersFor yX1_numbersFor, Cond.code yX1_numbersFor cX1_numbersFor 2 (some .int), Cond.methodLink RX1 66 yX1_isHole, Cond.methodLink RX1 69 yX0_numbersFor, Cond.instanceMethod yX0_numbersFor, Cond.selects RX0 yX0_numbersFor yX0_numbersFor, Cond.code yX0_numbersFor cX0_numbersFor 10 (some .int), Cond.methodLink RX3 75 yX3_isOver, Cond.instanceMethod yX3_isOver, Cond.selects RX3 yX3_isOver yX3_isOver, Cond.code yX3_isOver cX3_isOver 1 (some .boolean), Cond.methodLink RX3 49 yX3_isUnknown, Cond.instanceMethod yX3_isUnknown, Cond.selects RX3 yX3_isUnknown yX3_isUnknown, Cond.code yX3_isUnknown cX3_isUnknown 1 (some .boolean), Cond.static yX4_hasNumber, Cond.code yX4_hasNumber cX4_hasNumber 2 (some .boolean), Cond.methodLink RX3 82 yX1_lay, Cond.instanceMethod yX1_lay]
def wsX4_fillings_r6 : List Cond := [Cond.selects RX1 yX1_lay yX1_lay, Cond.code yX1_lay cX1_lay 3 none, Cond.methodLink RX4 110 yX3_told, Cond.instanceMethod yX3_told, Cond.selects RX3 yX3_told yX3_told, Cond.code yX3_told cX3_told 1 (some .int)]
def wsX4_fillings : List Cond := .code yX4_fillings cX4_fillings 1 (some .int) :: ((wsX4_fillings_r1 ++ (wsX4_fillings_r2 ++ (wsX4_fillings_r3 ++ (wsX4_fillings_r4 ++ (wsX4_fillings_r5 ++ wsX4_fillings_r6))))) ++ wsX40 ++ wsX30 ++ wsX10 ++ wsX00 ++ wsX20)
def wsX4_tries_r1 : List Cond := [Cond.fieldLink RX4 21 "CryptSums" "search" "LCryptSums$Search;", Cond.methodLink RX4 107 yX3_refresh, Cond.instanceMethod yX3_refresh, Cond.selects RX3 yX3_refresh yX3_refresh, Cond.initialized RX3, Cond.code yX3_refresh cX3_refresh 1 none, Cond.fieldLink RX3 32 "CryptSums$Search" "fresh" "Z", Cond.fieldLink RX3 22 "CryptSums$Search" "holeCount" "I", Cond.fieldLink RX3 26 "CryptSums$Search" "tried" "I", Cond.fieldLink RX3 29 "CryptSums$Search" "found" "I", Cond.fieldLink RX3 9 "CryptSums$Search" "floor" "LCryptSums$Floor;", Cond.methodLink RX3 36 yX1_isAllWell, Cond.instanceMethod yX1_isAllWell, Cond.selects RX1 yX1_isAllWell yX1_isAllWell, Cond.initialized RX1, Cond.code yX1_isAllWell cX1_isAllWell 1 (some .boolean), Cond.fieldLink RX1 23 "CryptSums$Floor" "across" "LCryptSums$Corridors;", Cond.fieldLink RX1 27 "CryptSums$Floor" "down" "LCryptSums$Corridors;", Cond.methodLink RX1 73 yX1_wellOf, Cond.instanceMethod yX1_wellOf, Cond.selects RX1 yX1_wellOf yX1_wellOf, Cond.code yX1_wellOf cX1_wellOf 4 (some .int), Cond.methodLink RX1 54 yX1_cells, Cond.instanceMethod yX1_cells]
def wsX4_tries_r2 : List Cond := [Cond.selects RX1 yX1_cells yX1_cells, Cond.code yX1_cells cX1_cells 1 (some .int), Cond.fieldLink RX1 34 "CryptSums$Floor" "columns" "I", Cond.fieldLink RX1 38 "CryptSums$Floor" "rows" "I", Cond.methodLink RX1 98 yX0_beginsAt, Cond.instanceMethod yX0_beginsAt, Cond.selects RX0 yX0_beginsAt yX0_beginsAt, Cond.initialized RX0, Cond.code yX0_beginsAt cX0_beginsAt 2 (some .boolean), Cond.fieldLink RX0 22 "CryptSums$Corridors" "first" "[I", Cond.static yX4_read, Cond.initialized RX4, Cond.code yX4_read cX4_read 2 (some .int), Cond.methodLink RX1 104 yX0_isWellFrom, Cond.instanceMethod yX0_isWellFrom, Cond.selects RX0 yX0_isWellFrom yX0_isWellFrom, Cond.code yX0_isWellFrom cX0_isWellFrom 4 (some .boolean), Cond.fieldLink RX0 19 "CryptSums$Corridors" "told" "[I", Cond.fieldLink RX0 25 "CryptSums$Corridors" "size" "[I", Cond.fieldLink RX0 44 "CryptSums$Corridors" "seenStones" "I", Cond.fieldLink RX0 15 "CryptSums$Corridors" "partitions" "LCryptSums$Partitions;", Cond.fieldLink RX0 58 "CryptSums$Corridors" "seenNumbers" "I", Cond.fieldLink RX0 47 "CryptSums$Corridors" "seenTotal" "I", Cond.methodLink RX0 40 yX0_look]
def wsX4_tries_r3 : List Cond := [Cond.instanceMethod yX0_look, Cond.selects RX0 yX0_look yX0_look, Cond.code yX0_look cX0_look 5 none, Cond.fieldLink RX0 9 "CryptSums$Corridors" "stones" "[I", Cond.fieldLink RX0 28 "CryptSums$Corridors" "step" "I", Cond.methodLink RX0 54 yX0_sawAlike, Cond.instanceMethod yX0_sawAlike, Cond.selects RX0 yX0_sawAlike yX0_sawAlike, Cond.code yX0_sawAlike cX0_sawAlike 1 (some .boolean), Cond.methodLink RX0 67 yJ6_bitCount_0f7a4, Cond.static yJ6_bitCount_0f7a4, Cond.initialized RJ6, Cond.code yJ6_bitCount_0f7a4 cJ6_bitCount_0f7a4 1 (some .int), Cond.constant RJ6 265 (1431655765), Cond.constant RJ6 266 (858993459), Cond.constant RJ6 267 (252645135), Cond.methodLink RX0 61 yX2_make, Cond.instanceMethod yX2_make, Cond.selects RX2 yX2_make yX2_make, Cond.initialized RX2, Cond.code yX2_make cX2_make 5 (some .boolean), Cond.fieldLink RX2 11 "CryptSums$Partitions" "sums" "[J", Cond.methodLink RX1 77 yX1_corridorsOf, Cond.instanceMethod yX1_corridorsOf]
def wsX4_tries_r4 : List Cond := [Cond.selects RX1 yX1_corridorsOf yX1_corridorsOf, Cond.code yX1_corridorsOf cX1_corridorsOf 4 (some .int), Cond.methodLink RX3 42 yX3_collectHoles, Cond.instanceMethod yX3_collectHoles, Cond.selects RX3 yX3_collectHoles yX3_collectHoles, Cond.code yX3_collectHoles cX3_collectHoles 2 none, Cond.fieldLink RX3 15 "CryptSums$Search" "holes" "[I", Cond.methodLink RX3 56 yX1_cells, Cond.methodLink RX3 60 yX1_isHole, Cond.instanceMethod yX1_isHole, Cond.selects RX1 yX1_isHole yX1_isHole, Cond.code yX1_isHole cX1_isHole 2 (some .boolean), Cond.fieldLink RX1 12 "CryptSums$Floor" "stones" "[I", Cond.static yX4_write, Cond.code yX4_write cX4_write 3 none, Cond.methodLink RX3 45 yX3_fillFrom, Cond.static yX3_fillFrom, Cond.code yX3_fillFrom cX3_fillFrom 6 none, Cond.methodLink RX3 68 yX3_keepFilling, Cond.instanceMethod yX3_keepFilling, Cond.selects RX3 yX3_keepFilling yX3_keepFilling, Cond.code yX3_keepFilling cX3_keepFilling 2 none, Cond.fieldLink RX3 19 "CryptSums$Search" "kept" "[I", Cond.methodLink RX3 86 yX1_stoneAt]
def wsX4_tries_r5 : List Cond := [Cond.instanceMethod yX1_stoneAt, Cond.selects RX1 yX1_stoneAt yX1_stoneAt, Cond.code yX1_stoneAt cX1_stoneAt 2 (some .int), Cond.methodLink RX3 71 yX1_numbersFor, Cond.instanceMethod yX1_numbersFor, Cond.selects RX1 yX1_numbersFor yX1_numbersFor, Cond.code yX1_numbersFor cX1_numbersFor 2 (some .int), Cond.methodLink RX1 66 yX1_isHole, Cond.methodLink RX1 69 yX0_numbersFor, Cond.instanceMethod yX0_numbersFor, Cond.selects RX0 yX0_numbersFor yX0_numbersFor, Cond.code yX0_numbersFor cX0_numbersFor 10 (some .int), Cond.methodLink RX3 75 yX3_isOver, Cond.instanceMethod yX3_isOver, Cond.selects RX3 yX3_isOver yX3_isOver, Cond.code yX3_isOver cX3_isOver 1 (some .boolean), Cond.methodLink RX3 49 yX3_isUnknown, Cond.instanceMethod yX3_isUnknown, Cond.selects RX3 yX3_isUnknown yX3_isUnknown, Cond.code yX3_isUnknown cX3_isUnknown 1 (some .boolean), Cond.static yX4_hasNumber, Cond.code yX4_hasNumber cX4_hasNumber 2 (some .boolean), Cond.methodLink RX3 82 yX1_lay, Cond.instanceMethod yX1_lay]
def wsX4_tries_r6 : List Cond := [Cond.selects RX1 yX1_lay yX1_lay, Cond.code yX1_lay cX1_lay 3 none, Cond.methodLink RX4 113 yX3_tried, Cond.instanceMethod yX3_tried, Cond.selects RX3 yX3_tried yX3_tried, Cond.code yX3_tried cX3_tried 1 (some .int)]
def wsX4_tries : List Cond := .code yX4_tries cX4_tries 1 (some .int) :: ((wsX4_tries_r1 ++ (wsX4_tries_r2 ++ (wsX4_tries_r3 ++ (wsX4_tries_r4 ++ (wsX4_tries_r5 ++ wsX4_tries_r6))))) ++ wsX40 ++ wsX30 ++ wsX10 ++ wsX00 ++ wsX20)
def wsX4_solved_r1 : List Cond := [Cond.fieldLink RX4 10 "CryptSums" "floor" "LCryptSums$Floor;", Cond.fieldLink RX4 21 "CryptSums" "search" "LCryptSums$Search;", Cond.methodLink RX4 43 yX4_checkCell, Cond.instanceMethod yX4_checkCell, Cond.selects RX4 yX4_checkCell yX4_checkCell, Cond.initialized RX4, Cond.code yX4_checkCell cX4_checkCell 2 none, Cond.classLink RX4 87 "java/lang/IndexOutOfBoundsException", Cond.initialized "java/lang/IndexOutOfBoundsException", Cond.methodLink RX4 146 yX1_has, Cond.instanceMethod yX1_has, Cond.selects RX1 yX1_has yX1_has, Cond.initialized RX1, Cond.code yX1_has cX1_has 2 (some .boolean), Cond.methodLink RX1 54 yX1_cells, Cond.instanceMethod yX1_cells, Cond.selects RX1 yX1_cells yX1_cells, Cond.code yX1_cells cX1_cells 1 (some .int), Cond.fieldLink RX1 34 "CryptSums$Floor" "columns" "I", Cond.fieldLink RX1 38 "CryptSums$Floor" "rows" "I", Cond.methodLink RX4 50 yX1_isPillar, Cond.instanceMethod yX1_isPillar, Cond.selects RX1 yX1_isPillar yX1_isPillar, Cond.code yX1_isPillar cX1_isPillar 2 (some .boolean)]
def wsX4_solved_r2 : List Cond := [Cond.fieldLink RX1 12 "CryptSums$Floor" "stones" "[I", Cond.static yX4_read, Cond.code yX4_read cX4_read 2 (some .int), Cond.methodLink RX4 107 yX3_refresh, Cond.instanceMethod yX3_refresh, Cond.selects RX3 yX3_refresh yX3_refresh, Cond.initialized RX3, Cond.code yX3_refresh cX3_refresh 1 none, Cond.fieldLink RX3 32 "CryptSums$Search" "fresh" "Z", Cond.fieldLink RX3 22 "CryptSums$Search" "holeCount" "I", Cond.fieldLink RX3 26 "CryptSums$Search" "tried" "I", Cond.fieldLink RX3 29 "CryptSums$Search" "found" "I", Cond.fieldLink RX3 9 "CryptSums$Search" "floor" "LCryptSums$Floor;", Cond.methodLink RX3 36 yX1_isAllWell, Cond.instanceMethod yX1_isAllWell, Cond.selects RX1 yX1_isAllWell yX1_isAllWell, Cond.code yX1_isAllWell cX1_isAllWell 1 (some .boolean), Cond.fieldLink RX1 23 "CryptSums$Floor" "across" "LCryptSums$Corridors;", Cond.fieldLink RX1 27 "CryptSums$Floor" "down" "LCryptSums$Corridors;", Cond.methodLink RX1 73 yX1_wellOf, Cond.instanceMethod yX1_wellOf, Cond.selects RX1 yX1_wellOf yX1_wellOf, Cond.code yX1_wellOf cX1_wellOf 4 (some .int), Cond.methodLink RX1 98 yX0_beginsAt]
def wsX4_solved_r3 : List Cond := [Cond.instanceMethod yX0_beginsAt, Cond.selects RX0 yX0_beginsAt yX0_beginsAt, Cond.initialized RX0, Cond.code yX0_beginsAt cX0_beginsAt 2 (some .boolean), Cond.fieldLink RX0 22 "CryptSums$Corridors" "first" "[I", Cond.methodLink RX1 104 yX0_isWellFrom, Cond.instanceMethod yX0_isWellFrom, Cond.selects RX0 yX0_isWellFrom yX0_isWellFrom, Cond.code yX0_isWellFrom cX0_isWellFrom 4 (some .boolean), Cond.fieldLink RX0 19 "CryptSums$Corridors" "told" "[I", Cond.fieldLink RX0 25 "CryptSums$Corridors" "size" "[I", Cond.fieldLink RX0 44 "CryptSums$Corridors" "seenStones" "I", Cond.fieldLink RX0 15 "CryptSums$Corridors" "partitions" "LCryptSums$Partitions;", Cond.fieldLink RX0 58 "CryptSums$Corridors" "seenNumbers" "I", Cond.fieldLink RX0 47 "CryptSums$Corridors" "seenTotal" "I", Cond.methodLink RX0 40 yX0_look, Cond.instanceMethod yX0_look, Cond.selects RX0 yX0_look yX0_look, Cond.code yX0_look cX0_look 5 none, Cond.fieldLink RX0 9 "CryptSums$Corridors" "stones" "[I", Cond.fieldLink RX0 28 "CryptSums$Corridors" "step" "I", Cond.methodLink RX0 54 yX0_sawAlike, Cond.instanceMethod yX0_sawAlike, Cond.selects RX0 yX0_sawAlike yX0_sawAlike]
def wsX4_solved_r4 : List Cond := [Cond.code yX0_sawAlike cX0_sawAlike 1 (some .boolean), Cond.methodLink RX0 67 yJ6_bitCount_0f7a4, Cond.static yJ6_bitCount_0f7a4, Cond.initialized RJ6, Cond.code yJ6_bitCount_0f7a4 cJ6_bitCount_0f7a4 1 (some .int), Cond.constant RJ6 265 (1431655765), Cond.constant RJ6 266 (858993459), Cond.constant RJ6 267 (252645135), Cond.methodLink RX0 61 yX2_make, Cond.instanceMethod yX2_make, Cond.selects RX2 yX2_make yX2_make, Cond.initialized RX2, Cond.code yX2_make cX2_make 5 (some .boolean), Cond.fieldLink RX2 11 "CryptSums$Partitions" "sums" "[J", Cond.methodLink RX1 77 yX1_corridorsOf, Cond.instanceMethod yX1_corridorsOf, Cond.selects RX1 yX1_corridorsOf yX1_corridorsOf, Cond.code yX1_corridorsOf cX1_corridorsOf 4 (some .int), Cond.methodLink RX3 42 yX3_collectHoles, Cond.instanceMethod yX3_collectHoles, Cond.selects RX3 yX3_collectHoles yX3_collectHoles, Cond.code yX3_collectHoles cX3_collectHoles 2 none, Cond.fieldLink RX3 15 "CryptSums$Search" "holes" "[I", Cond.methodLink RX3 56 yX1_cells]
def wsX4_solved_r5 : List Cond := [Cond.methodLink RX3 60 yX1_isHole, Cond.instanceMethod yX1_isHole, Cond.selects RX1 yX1_isHole yX1_isHole, Cond.code yX1_isHole cX1_isHole 2 (some .boolean), Cond.static yX4_write, Cond.code yX4_write cX4_write 3 none, Cond.methodLink RX3 45 yX3_fillFrom, Cond.static yX3_fillFrom, Cond.code yX3_fillFrom cX3_fillFrom 6 none, Cond.methodLink RX3 68 yX3_keepFilling, Cond.instanceMethod yX3_keepFilling, Cond.selects RX3 yX3_keepFilling yX3_keepFilling, Cond.code yX3_keepFilling cX3_keepFilling 2 none, Cond.fieldLink RX3 19 "CryptSums$Search" "kept" "[I", Cond.methodLink RX3 86 yX1_stoneAt, Cond.instanceMethod yX1_stoneAt, Cond.selects RX1 yX1_stoneAt yX1_stoneAt, Cond.code yX1_stoneAt cX1_stoneAt 2 (some .int), Cond.methodLink RX3 71 yX1_numbersFor, Cond.instanceMethod yX1_numbersFor, Cond.selects RX1 yX1_numbersFor yX1_numbersFor, Cond.code yX1_numbersFor cX1_numbersFor 2 (some .int), Cond.methodLink RX1 66 yX1_isHole, Cond.methodLink RX1 69 yX0_numbersFor]
def wsX4_solved_r6 : List Cond := [Cond.instanceMethod yX0_numbersFor, Cond.selects RX0 yX0_numbersFor yX0_numbersFor, Cond.code yX0_numbersFor cX0_numbersFor 10 (some .int), Cond.methodLink RX3 75 yX3_isOver, Cond.instanceMethod yX3_isOver, Cond.selects RX3 yX3_isOver yX3_isOver, Cond.code yX3_isOver cX3_isOver 1 (some .boolean), Cond.methodLink RX3 49 yX3_isUnknown, Cond.instanceMethod yX3_isUnknown, Cond.selects RX3 yX3_isUnknown yX3_isUnknown, Cond.code yX3_isUnknown cX3_isUnknown 1 (some .boolean), Cond.static yX4_hasNumber, Cond.code yX4_hasNumber cX4_hasNumber 2 (some .boolean), Cond.methodLink RX3 82 yX1_lay, Cond.instanceMethod yX1_lay, Cond.selects RX1 yX1_lay yX1_lay, Cond.code yX1_lay cX1_lay 3 none, Cond.methodLink RX4 116 yX3_firstFilling, Cond.instanceMethod yX3_firstFilling, Cond.selects RX3 yX3_firstFilling yX3_firstFilling, Cond.code yX3_firstFilling cX3_firstFilling 2 (some .int)]
def wsX4_solved : List Cond := .code yX4_solved cX4_solved 2 (some .int) :: ((wsX4_solved_r1 ++ (wsX4_solved_r2 ++ (wsX4_solved_r3 ++ (wsX4_solved_r4 ++ (wsX4_solved_r5 ++ wsX4_solved_r6))))) ++ wsX40 ++ wsX10 ++ wsX30 ++ wsX00 ++ wsX20 ++ (vx_atS RX4 91 "java/lang/IndexOutOfBoundsException" ["java/lang/RuntimeException", "java/lang/Exception"]).filter goodWord)
def wsX4_next_r1 : List Cond := [Cond.fieldLink RX4 10 "CryptSums" "floor" "LCryptSums$Floor;", Cond.methodLink RX4 119 yX1_tightest, Cond.instanceMethod yX1_tightest, Cond.selects RX1 yX1_tightest yX1_tightest, Cond.initialized RX1, Cond.code yX1_tightest cX1_tightest 5 (some .int), Cond.methodLink RX1 54 yX1_cells, Cond.instanceMethod yX1_cells, Cond.selects RX1 yX1_cells yX1_cells, Cond.code yX1_cells cX1_cells 1 (some .int), Cond.fieldLink RX1 34 "CryptSums$Floor" "columns" "I", Cond.fieldLink RX1 38 "CryptSums$Floor" "rows" "I", Cond.methodLink RX1 80 yX1_numbersFor, Cond.instanceMethod yX1_numbersFor, Cond.selects RX1 yX1_numbersFor yX1_numbersFor, Cond.code yX1_numbersFor cX1_numbersFor 2 (some .int), Cond.fieldLink RX1 23 "CryptSums$Floor" "across" "LCryptSums$Corridors;", Cond.fieldLink RX1 27 "CryptSums$Floor" "down" "LCryptSums$Corridors;", Cond.methodLink RX1 66 yX1_isHole, Cond.instanceMethod yX1_isHole, Cond.selects RX1 yX1_isHole yX1_isHole, Cond.code yX1_isHole cX1_isHole 2 (some .boolean), Cond.fieldLink RX1 12 "CryptSums$Floor" "stones" "[I", Cond.static yX4_read]
def wsX4_next_r2 : List Cond := [Cond.initialized RX4, Cond.code yX4_read cX4_read 2 (some .int), Cond.methodLink RX1 69 yX0_numbersFor, Cond.instanceMethod yX0_numbersFor, Cond.selects RX0 yX0_numbersFor yX0_numbersFor, Cond.initialized RX0, Cond.code yX0_numbersFor cX0_numbersFor 10 (some .int), Cond.fieldLink RX0 22 "CryptSums$Corridors" "first" "[I", Cond.fieldLink RX0 58 "CryptSums$Corridors" "seenNumbers" "I", Cond.fieldLink RX0 19 "CryptSums$Corridors" "told" "[I", Cond.fieldLink RX0 25 "CryptSums$Corridors" "size" "[I", Cond.fieldLink RX0 44 "CryptSums$Corridors" "seenStones" "I", Cond.fieldLink RX0 47 "CryptSums$Corridors" "seenTotal" "I", Cond.fieldLink RX0 15 "CryptSums$Corridors" "partitions" "LCryptSums$Partitions;", Cond.methodLink RX0 40 yX0_look, Cond.instanceMethod yX0_look, Cond.selects RX0 yX0_look yX0_look, Cond.code yX0_look cX0_look 5 none, Cond.fieldLink RX0 9 "CryptSums$Corridors" "stones" "[I", Cond.fieldLink RX0 28 "CryptSums$Corridors" "step" "I", Cond.methodLink RX0 54 yX0_sawAlike, Cond.instanceMethod yX0_sawAlike, Cond.selects RX0 yX0_sawAlike yX0_sawAlike, Cond.code yX0_sawAlike cX0_sawAlike 1 (some .boolean)]
def wsX4_next_r3 : List Cond := [Cond.methodLink RX0 67 yJ6_bitCount_0f7a4, Cond.static yJ6_bitCount_0f7a4, Cond.initialized RJ6, Cond.code yJ6_bitCount_0f7a4 cJ6_bitCount_0f7a4 1 (some .int), Cond.constant RJ6 265 (1431655765), Cond.constant RJ6 266 (858993459), Cond.constant RJ6 267 (252645135), Cond.methodLink RX0 61 yX2_make, Cond.instanceMethod yX2_make, Cond.selects RX2 yX2_make yX2_make, Cond.initialized RX2, Cond.code yX2_make cX2_make 5 (some .boolean), Cond.fieldLink RX2 11 "CryptSums$Partitions" "sums" "[J", Cond.methodLink RX1 81 yJ6_bitCount_0f7a4]
def wsX4_next : List Cond := .code yX4_next cX4_next 1 (some .int) :: ((wsX4_next_r1 ++ (wsX4_next_r2 ++ wsX4_next_r3)) ++ wsX40 ++ wsX10 ++ wsX00 ++ wsX20)
def wsX4_would_r1 : List Cond := [Cond.classLink RX4 25 "java/lang/IllegalArgumentException", Cond.initialized "java/lang/IllegalArgumentException", Cond.fieldLink RX4 10 "CryptSums" "floor" "LCryptSums$Floor;", Cond.fieldLink RX4 21 "CryptSums" "search" "LCryptSums$Search;", Cond.methodLink RX4 43 yX4_checkCell, Cond.instanceMethod yX4_checkCell, Cond.selects RX4 yX4_checkCell yX4_checkCell, Cond.initialized RX4, Cond.code yX4_checkCell cX4_checkCell 2 none, Cond.classLink RX4 87 "java/lang/IndexOutOfBoundsException", Cond.initialized "java/lang/IndexOutOfBoundsException", Cond.methodLink RX4 146 yX1_has, Cond.instanceMethod yX1_has, Cond.selects RX1 yX1_has yX1_has, Cond.initialized RX1, Cond.code yX1_has cX1_has 2 (some .boolean), Cond.methodLink RX1 54 yX1_cells, Cond.instanceMethod yX1_cells, Cond.selects RX1 yX1_cells yX1_cells, Cond.code yX1_cells cX1_cells 1 (some .int), Cond.fieldLink RX1 34 "CryptSums$Floor" "columns" "I", Cond.fieldLink RX1 38 "CryptSums$Floor" "rows" "I", Cond.methodLink RX4 68 yX4_checkOpen, Cond.instanceMethod yX4_checkOpen]
def wsX4_would_r2 : List Cond := [Cond.selects RX4 yX4_checkOpen yX4_checkOpen, Cond.code yX4_checkOpen cX4_checkOpen 2 none, Cond.classLink RX4 151 "java/lang/IllegalStateException", Cond.initialized "java/lang/IllegalStateException", Cond.methodLink RX4 50 yX1_isPillar, Cond.instanceMethod yX1_isPillar, Cond.selects RX1 yX1_isPillar yX1_isPillar, Cond.code yX1_isPillar cX1_isPillar 2 (some .boolean), Cond.fieldLink RX1 12 "CryptSums$Floor" "stones" "[I", Cond.static yX4_read, Cond.code yX4_read cX4_read 2 (some .int), Cond.methodLink RX4 71 yX1_stoneAt, Cond.instanceMethod yX1_stoneAt, Cond.selects RX1 yX1_stoneAt yX1_stoneAt, Cond.code yX1_stoneAt cX1_stoneAt 2 (some .int), Cond.methodLink RX4 75 yX1_lay, Cond.instanceMethod yX1_lay, Cond.selects RX1 yX1_lay yX1_lay, Cond.code yX1_lay cX1_lay 3 none, Cond.static yX4_write, Cond.code yX4_write cX4_write 3 none, Cond.methodLink RX4 32 yX3_forget, Cond.instanceMethod yX3_forget, Cond.selects RX3 yX3_forget yX3_forget]
def wsX4_would_r3 : List Cond := [Cond.initialized RX3, Cond.code yX3_forget cX3_forget 1 none, Cond.fieldLink RX3 32 "CryptSums$Search" "fresh" "Z", Cond.methodLink RX4 107 yX3_refresh, Cond.instanceMethod yX3_refresh, Cond.selects RX3 yX3_refresh yX3_refresh, Cond.code yX3_refresh cX3_refresh 1 none, Cond.fieldLink RX3 22 "CryptSums$Search" "holeCount" "I", Cond.fieldLink RX3 26 "CryptSums$Search" "tried" "I", Cond.fieldLink RX3 29 "CryptSums$Search" "found" "I", Cond.fieldLink RX3 9 "CryptSums$Search" "floor" "LCryptSums$Floor;", Cond.methodLink RX3 36 yX1_isAllWell, Cond.instanceMethod yX1_isAllWell, Cond.selects RX1 yX1_isAllWell yX1_isAllWell, Cond.code yX1_isAllWell cX1_isAllWell 1 (some .boolean), Cond.fieldLink RX1 23 "CryptSums$Floor" "across" "LCryptSums$Corridors;", Cond.fieldLink RX1 27 "CryptSums$Floor" "down" "LCryptSums$Corridors;", Cond.methodLink RX1 73 yX1_wellOf, Cond.instanceMethod yX1_wellOf, Cond.selects RX1 yX1_wellOf yX1_wellOf, Cond.code yX1_wellOf cX1_wellOf 4 (some .int), Cond.methodLink RX1 98 yX0_beginsAt, Cond.instanceMethod yX0_beginsAt, Cond.selects RX0 yX0_beginsAt yX0_beginsAt]
def wsX4_would_r4 : List Cond := [Cond.initialized RX0, Cond.code yX0_beginsAt cX0_beginsAt 2 (some .boolean), Cond.fieldLink RX0 22 "CryptSums$Corridors" "first" "[I", Cond.methodLink RX1 104 yX0_isWellFrom, Cond.instanceMethod yX0_isWellFrom, Cond.selects RX0 yX0_isWellFrom yX0_isWellFrom, Cond.code yX0_isWellFrom cX0_isWellFrom 4 (some .boolean), Cond.fieldLink RX0 19 "CryptSums$Corridors" "told" "[I", Cond.fieldLink RX0 25 "CryptSums$Corridors" "size" "[I", Cond.fieldLink RX0 44 "CryptSums$Corridors" "seenStones" "I", Cond.fieldLink RX0 15 "CryptSums$Corridors" "partitions" "LCryptSums$Partitions;", Cond.fieldLink RX0 58 "CryptSums$Corridors" "seenNumbers" "I", Cond.fieldLink RX0 47 "CryptSums$Corridors" "seenTotal" "I", Cond.methodLink RX0 40 yX0_look, Cond.instanceMethod yX0_look, Cond.selects RX0 yX0_look yX0_look, Cond.code yX0_look cX0_look 5 none, Cond.fieldLink RX0 9 "CryptSums$Corridors" "stones" "[I", Cond.fieldLink RX0 28 "CryptSums$Corridors" "step" "I", Cond.methodLink RX0 54 yX0_sawAlike, Cond.instanceMethod yX0_sawAlike, Cond.selects RX0 yX0_sawAlike yX0_sawAlike, Cond.code yX0_sawAlike cX0_sawAlike 1 (some .boolean), Cond.methodLink RX0 67 yJ6_bitCount_0f7a4]
def wsX4_would_r5 : List Cond := [Cond.static yJ6_bitCount_0f7a4, Cond.initialized RJ6, Cond.code yJ6_bitCount_0f7a4 cJ6_bitCount_0f7a4 1 (some .int), Cond.constant RJ6 265 (1431655765), Cond.constant RJ6 266 (858993459), Cond.constant RJ6 267 (252645135), Cond.methodLink RX0 61 yX2_make, Cond.instanceMethod yX2_make, Cond.selects RX2 yX2_make yX2_make, Cond.initialized RX2, Cond.code yX2_make cX2_make 5 (some .boolean), Cond.fieldLink RX2 11 "CryptSums$Partitions" "sums" "[J", Cond.methodLink RX1 77 yX1_corridorsOf, Cond.instanceMethod yX1_corridorsOf, Cond.selects RX1 yX1_corridorsOf yX1_corridorsOf, Cond.code yX1_corridorsOf cX1_corridorsOf 4 (some .int), Cond.methodLink RX3 42 yX3_collectHoles, Cond.instanceMethod yX3_collectHoles, Cond.selects RX3 yX3_collectHoles yX3_collectHoles, Cond.code yX3_collectHoles cX3_collectHoles 2 none, Cond.fieldLink RX3 15 "CryptSums$Search" "holes" "[I", Cond.methodLink RX3 56 yX1_cells, Cond.methodLink RX3 60 yX1_isHole, Cond.instanceMethod yX1_isHole]
def wsX4_would_r6 : List Cond := [Cond.selects RX1 yX1_isHole yX1_isHole, Cond.code yX1_isHole cX1_isHole 2 (some .boolean), Cond.methodLink RX3 45 yX3_fillFrom, Cond.static yX3_fillFrom, Cond.code yX3_fillFrom cX3_fillFrom 6 none, Cond.methodLink RX3 68 yX3_keepFilling, Cond.instanceMethod yX3_keepFilling, Cond.selects RX3 yX3_keepFilling yX3_keepFilling, Cond.code yX3_keepFilling cX3_keepFilling 2 none, Cond.fieldLink RX3 19 "CryptSums$Search" "kept" "[I", Cond.methodLink RX3 86 yX1_stoneAt, Cond.methodLink RX3 71 yX1_numbersFor, Cond.instanceMethod yX1_numbersFor, Cond.selects RX1 yX1_numbersFor yX1_numbersFor, Cond.code yX1_numbersFor cX1_numbersFor 2 (some .int), Cond.methodLink RX1 66 yX1_isHole, Cond.methodLink RX1 69 yX0_numbersFor, Cond.instanceMethod yX0_numbersFor, Cond.selects RX0 yX0_numbersFor yX0_numbersFor, Cond.code yX0_numbersFor cX0_numbersFor 10 (some .int), Cond.methodLink RX3 75 yX3_isOver, Cond.instanceMethod yX3_isOver, Cond.selects RX3 yX3_isOver yX3_isOver, Cond.code yX3_isOver cX3_isOver 1 (some .boolean)]
def wsX4_would_r7 : List Cond := [Cond.methodLink RX3 49 yX3_isUnknown, Cond.instanceMethod yX3_isUnknown, Cond.selects RX3 yX3_isUnknown yX3_isUnknown, Cond.code yX3_isUnknown cX3_isUnknown 1 (some .boolean), Cond.static yX4_hasNumber, Cond.code yX4_hasNumber cX4_hasNumber 2 (some .boolean), Cond.methodLink RX3 82 yX1_lay, Cond.methodLink RX4 110 yX3_told, Cond.instanceMethod yX3_told, Cond.selects RX3 yX3_told yX3_told, Cond.code yX3_told cX3_told 1 (some .int)]
def wsX4_would : List Cond := .code yX4_would cX4_would 5 (some .int) :: ((wsX4_would_r1 ++ (wsX4_would_r2 ++ (wsX4_would_r3 ++ (wsX4_would_r4 ++ (wsX4_would_r5 ++ (wsX4_would_r6 ++ wsX4_would_r7)))))) ++ wsX40 ++ wsX10 ++ wsX30 ++ wsX00 ++ wsX20 ++ (vx_atS RX4 29 "java/lang/IllegalArgumentException" ["java/lang/RuntimeException", "java/lang/Exception"]).filter goodWord ++ (vx_atS RX4 91 "java/lang/IndexOutOfBoundsException" ["java/lang/RuntimeException", "java/lang/Exception"]).filter goodWord ++ (vx_atS RX4 155 "java/lang/IllegalStateException" ["java/lang/RuntimeException", "java/lang/Exception"]).filter goodWord)
def wsX4_mean_r1 : List Cond := [Cond.fieldLink RX4 10 "CryptSums" "floor" "LCryptSums$Floor;", Cond.methodLink RX4 124 yX1_meanOfNumbers, Cond.instanceMethod yX1_meanOfNumbers, Cond.selects RX1 yX1_meanOfNumbers yX1_meanOfNumbers, Cond.initialized RX1, Cond.code yX1_meanOfNumbers cX1_meanOfNumbers 4 (some .double), Cond.methodLink RX1 54 yX1_cells, Cond.instanceMethod yX1_cells, Cond.selects RX1 yX1_cells yX1_cells, Cond.code yX1_cells cX1_cells 1 (some .int), Cond.fieldLink RX1 34 "CryptSums$Floor" "columns" "I", Cond.fieldLink RX1 38 "CryptSums$Floor" "rows" "I", Cond.methodLink RX1 66 yX1_isHole, Cond.instanceMethod yX1_isHole, Cond.selects RX1 yX1_isHole yX1_isHole, Cond.code yX1_isHole cX1_isHole 2 (some .boolean), Cond.fieldLink RX1 12 "CryptSums$Floor" "stones" "[I", Cond.static yX4_read, Cond.initialized RX4, Cond.code yX4_read cX4_read 2 (some .int), Cond.methodLink RX1 80 yX1_numbersFor, Cond.instanceMethod yX1_numbersFor, Cond.selects RX1 yX1_numbersFor yX1_numbersFor, Cond.code yX1_numbersFor cX1_numbersFor 2 (some .int)]
def wsX4_mean_r2 : List Cond := [Cond.fieldLink RX1 23 "CryptSums$Floor" "across" "LCryptSums$Corridors;", Cond.fieldLink RX1 27 "CryptSums$Floor" "down" "LCryptSums$Corridors;", Cond.methodLink RX1 69 yX0_numbersFor, Cond.instanceMethod yX0_numbersFor, Cond.selects RX0 yX0_numbersFor yX0_numbersFor, Cond.initialized RX0, Cond.code yX0_numbersFor cX0_numbersFor 10 (some .int), Cond.fieldLink RX0 22 "CryptSums$Corridors" "first" "[I", Cond.fieldLink RX0 58 "CryptSums$Corridors" "seenNumbers" "I", Cond.fieldLink RX0 19 "CryptSums$Corridors" "told" "[I", Cond.fieldLink RX0 25 "CryptSums$Corridors" "size" "[I", Cond.fieldLink RX0 44 "CryptSums$Corridors" "seenStones" "I", Cond.fieldLink RX0 47 "CryptSums$Corridors" "seenTotal" "I", Cond.fieldLink RX0 15 "CryptSums$Corridors" "partitions" "LCryptSums$Partitions;", Cond.methodLink RX0 40 yX0_look, Cond.instanceMethod yX0_look, Cond.selects RX0 yX0_look yX0_look, Cond.code yX0_look cX0_look 5 none, Cond.fieldLink RX0 9 "CryptSums$Corridors" "stones" "[I", Cond.fieldLink RX0 28 "CryptSums$Corridors" "step" "I", Cond.methodLink RX0 54 yX0_sawAlike, Cond.instanceMethod yX0_sawAlike, Cond.selects RX0 yX0_sawAlike yX0_sawAlike, Cond.code yX0_sawAlike cX0_sawAlike 1 (some .boolean)]
def wsX4_mean_r3 : List Cond := [Cond.methodLink RX0 67 yJ6_bitCount_0f7a4, Cond.static yJ6_bitCount_0f7a4, Cond.initialized RJ6, Cond.code yJ6_bitCount_0f7a4 cJ6_bitCount_0f7a4 1 (some .int), Cond.constant RJ6 265 (1431655765), Cond.constant RJ6 266 (858993459), Cond.constant RJ6 267 (252645135), Cond.methodLink RX0 61 yX2_make, Cond.instanceMethod yX2_make, Cond.selects RX2 yX2_make yX2_make, Cond.initialized RX2, Cond.code yX2_make cX2_make 5 (some .boolean), Cond.fieldLink RX2 11 "CryptSums$Partitions" "sums" "[J", Cond.methodLink RX1 81 yJ6_bitCount_0f7a4]
def wsX4_mean : List Cond := .code yX4_mean cX4_mean 1 (some .double) :: ((wsX4_mean_r1 ++ (wsX4_mean_r2 ++ wsX4_mean_r3)) ++ wsX40 ++ wsX10 ++ wsX00 ++ wsX20)
def wsX4_stir : List Cond := .code yX4_stir cX4_stir 3 (some .long) :: ([.constantLong RX4 144 (31)])
def wsX4_stirCorridor_r1 : List Cond := [Cond.methodLink RX4 92 yX0_tell, Cond.instanceMethod yX0_tell, Cond.selects RX0 yX0_tell yX0_tell, Cond.initialized RX0, Cond.code yX0_tell cX0_tell 4 (some .int), Cond.fieldLink RX0 22 "CryptSums$Corridors" "first" "[I", Cond.fieldLink RX0 25 "CryptSums$Corridors" "size" "[I", Cond.fieldLink RX0 19 "CryptSums$Corridors" "told" "[I", Cond.fieldLink RX0 44 "CryptSums$Corridors" "seenStones" "I", Cond.fieldLink RX0 47 "CryptSums$Corridors" "seenTotal" "I", Cond.static yX4_read, Cond.initialized RX4, Cond.code yX4_read cX4_read 2 (some .int), Cond.methodLink RX0 40 yX0_look, Cond.instanceMethod yX0_look, Cond.selects RX0 yX0_look yX0_look, Cond.code yX0_look cX0_look 5 none, Cond.fieldLink RX0 58 "CryptSums$Corridors" "seenNumbers" "I", Cond.fieldLink RX0 9 "CryptSums$Corridors" "stones" "[I", Cond.fieldLink RX0 28 "CryptSums$Corridors" "step" "I", Cond.methodLink RX0 50 yX0_isWellFrom, Cond.instanceMethod yX0_isWellFrom, Cond.selects RX0 yX0_isWellFrom yX0_isWellFrom, Cond.code yX0_isWellFrom cX0_isWellFrom 4 (some .boolean)]
def wsX4_stirCorridor_r2 : List Cond := [Cond.fieldLink RX0 15 "CryptSums$Corridors" "partitions" "LCryptSums$Partitions;", Cond.methodLink RX0 54 yX0_sawAlike, Cond.instanceMethod yX0_sawAlike, Cond.selects RX0 yX0_sawAlike yX0_sawAlike, Cond.code yX0_sawAlike cX0_sawAlike 1 (some .boolean), Cond.methodLink RX0 67 yJ6_bitCount_0f7a4, Cond.static yJ6_bitCount_0f7a4, Cond.initialized RJ6, Cond.code yJ6_bitCount_0f7a4 cJ6_bitCount_0f7a4 1 (some .int), Cond.constant RJ6 265 (1431655765), Cond.constant RJ6 266 (858993459), Cond.constant RJ6 267 (252645135), Cond.methodLink RX0 61 yX2_make, Cond.instanceMethod yX2_make, Cond.selects RX2 yX2_make yX2_make, Cond.initialized RX2, Cond.code yX2_make cX2_make 5 (some .boolean), Cond.fieldLink RX2 11 "CryptSums$Partitions" "sums" "[J", Cond.methodLink RX4 130 yX4_stir, Cond.static yX4_stir, Cond.code yX4_stir cX4_stir 3 (some .long), Cond.constantLong RX4 144 (31)]
def wsX4_stirCorridor : List Cond := .code yX4_stirCorridor cX4_stirCorridor 7 (some .long) :: ((wsX4_stirCorridor_r1 ++ wsX4_stirCorridor_r2) ++ wsX00 ++ wsX20)
def wsX4_stirCell_r1 : List Cond := [Cond.fieldLink RX4 10 "CryptSums" "floor" "LCryptSums$Floor;", Cond.methodLink RX4 71 yX1_stoneAt, Cond.instanceMethod yX1_stoneAt, Cond.selects RX1 yX1_stoneAt yX1_stoneAt, Cond.initialized RX1, Cond.code yX1_stoneAt cX1_stoneAt 2 (some .int), Cond.fieldLink RX1 12 "CryptSums$Floor" "stones" "[I", Cond.static yX4_read, Cond.initialized RX4, Cond.code yX4_read cX4_read 2 (some .int), Cond.methodLink RX4 130 yX4_stir, Cond.static yX4_stir, Cond.code yX4_stir cX4_stir 3 (some .long), Cond.constantLong RX4 144 (31), Cond.methodLink RX4 56 yX1_corridors, Cond.instanceMethod yX1_corridors, Cond.selects RX1 yX1_corridors yX1_corridors, Cond.code yX1_corridors cX1_corridors 2 (some (.object "CryptSums$Corridors")), Cond.fieldLink RX1 27 "CryptSums$Floor" "down" "LCryptSums$Corridors;", Cond.fieldLink RX1 23 "CryptSums$Floor" "across" "LCryptSums$Corridors;", Cond.methodLink RX4 137 yX0_toldAt, Cond.instanceMethod yX0_toldAt, Cond.selects RX0 yX0_toldAt yX0_toldAt, Cond.initialized RX0]
def wsX4_stirCell_r2 : List Cond := [Cond.code yX0_toldAt cX0_toldAt 2 (some .int), Cond.fieldLink RX0 19 "CryptSums$Corridors" "told" "[I", Cond.methodLink RX4 81 yX1_numbersFor, Cond.instanceMethod yX1_numbersFor, Cond.selects RX1 yX1_numbersFor yX1_numbersFor, Cond.code yX1_numbersFor cX1_numbersFor 2 (some .int), Cond.methodLink RX1 66 yX1_isHole, Cond.instanceMethod yX1_isHole, Cond.selects RX1 yX1_isHole yX1_isHole, Cond.code yX1_isHole cX1_isHole 2 (some .boolean), Cond.methodLink RX1 69 yX0_numbersFor, Cond.instanceMethod yX0_numbersFor, Cond.selects RX0 yX0_numbersFor yX0_numbersFor, Cond.code yX0_numbersFor cX0_numbersFor 10 (some .int), Cond.fieldLink RX0 22 "CryptSums$Corridors" "first" "[I", Cond.fieldLink RX0 58 "CryptSums$Corridors" "seenNumbers" "I", Cond.fieldLink RX0 25 "CryptSums$Corridors" "size" "[I", Cond.fieldLink RX0 44 "CryptSums$Corridors" "seenStones" "I", Cond.fieldLink RX0 47 "CryptSums$Corridors" "seenTotal" "I", Cond.fieldLink RX0 15 "CryptSums$Corridors" "partitions" "LCryptSums$Partitions;", Cond.methodLink RX0 40 yX0_look, Cond.instanceMethod yX0_look, Cond.selects RX0 yX0_look yX0_look, Cond.code yX0_look cX0_look 5 none]
def wsX4_stirCell_r3 : List Cond := [Cond.fieldLink RX0 9 "CryptSums$Corridors" "stones" "[I", Cond.fieldLink RX0 28 "CryptSums$Corridors" "step" "I", Cond.methodLink RX0 54 yX0_sawAlike, Cond.instanceMethod yX0_sawAlike, Cond.selects RX0 yX0_sawAlike yX0_sawAlike, Cond.code yX0_sawAlike cX0_sawAlike 1 (some .boolean), Cond.methodLink RX0 67 yJ6_bitCount_0f7a4, Cond.static yJ6_bitCount_0f7a4, Cond.initialized RJ6, Cond.code yJ6_bitCount_0f7a4 cJ6_bitCount_0f7a4 1 (some .int), Cond.constant RJ6 265 (1431655765), Cond.constant RJ6 266 (858993459), Cond.constant RJ6 267 (252645135), Cond.methodLink RX0 61 yX2_make, Cond.instanceMethod yX2_make, Cond.selects RX2 yX2_make yX2_make, Cond.initialized RX2, Cond.code yX2_make cX2_make 5 (some .boolean), Cond.fieldLink RX2 11 "CryptSums$Partitions" "sums" "[J", Cond.methodLink RX4 140 yX4_stirCorridor, Cond.static yX4_stirCorridor, Cond.code yX4_stirCorridor cX4_stirCorridor 7 (some .long), Cond.methodLink RX4 92 yX0_tell, Cond.instanceMethod yX0_tell]
def wsX4_stirCell_r4 : List Cond := [Cond.selects RX0 yX0_tell yX0_tell, Cond.code yX0_tell cX0_tell 4 (some .int), Cond.methodLink RX0 50 yX0_isWellFrom, Cond.instanceMethod yX0_isWellFrom, Cond.selects RX0 yX0_isWellFrom yX0_isWellFrom, Cond.code yX0_isWellFrom cX0_isWellFrom 4 (some .boolean)]
def wsX4_stirCell : List Cond := .code yX4_stirCell cX4_stirCell 6 (some .long) :: ((wsX4_stirCell_r1 ++ (wsX4_stirCell_r2 ++ (wsX4_stirCell_r3 ++ wsX4_stirCell_r4))) ++ wsX40 ++ wsX10 ++ wsX00 ++ wsX20)
def wsX4_digest_r1 : List Cond := [Cond.constantLong RX4 128 (1663), Cond.fieldLink RX4 10 "CryptSums" "floor" "LCryptSums$Floor;", Cond.fieldLink RX4 21 "CryptSums" "search" "LCryptSums$Search;", Cond.methodLink RX4 97 yX1_tally, Cond.instanceMethod yX1_tally, Cond.selects RX1 yX1_tally yX1_tally, Cond.initialized RX1, Cond.code yX1_tally cX1_tally 2 (some .int), Cond.fieldLink RX1 34 "CryptSums$Floor" "columns" "I", Cond.fieldLink RX1 23 "CryptSums$Floor" "across" "LCryptSums$Corridors;", Cond.fieldLink RX1 27 "CryptSums$Floor" "down" "LCryptSums$Corridors;", Cond.methodLink RX1 54 yX1_cells, Cond.instanceMethod yX1_cells, Cond.selects RX1 yX1_cells yX1_cells, Cond.code yX1_cells cX1_cells 1 (some .int), Cond.fieldLink RX1 38 "CryptSums$Floor" "rows" "I", Cond.methodLink RX1 86 yX1_openCells, Cond.instanceMethod yX1_openCells, Cond.selects RX1 yX1_openCells yX1_openCells, Cond.code yX1_openCells cX1_openCells 3 (some .int), Cond.methodLink RX1 62 yX1_isPillar, Cond.instanceMethod yX1_isPillar, Cond.selects RX1 yX1_isPillar yX1_isPillar, Cond.code yX1_isPillar cX1_isPillar 2 (some .boolean)]
def wsX4_digest_r2 : List Cond := [Cond.fieldLink RX1 12 "CryptSums$Floor" "stones" "[I", Cond.static yX4_read, Cond.initialized RX4, Cond.code yX4_read cX4_read 2 (some .int), Cond.methodLink RX1 89 yX1_stonesLaid, Cond.instanceMethod yX1_stonesLaid, Cond.selects RX1 yX1_stonesLaid yX1_stonesLaid, Cond.code yX1_stonesLaid cX1_stonesLaid 3 (some .int), Cond.methodLink RX1 77 yX1_corridorsOf, Cond.instanceMethod yX1_corridorsOf, Cond.selects RX1 yX1_corridorsOf yX1_corridorsOf, Cond.code yX1_corridorsOf cX1_corridorsOf 4 (some .int), Cond.methodLink RX1 98 yX0_beginsAt, Cond.instanceMethod yX0_beginsAt, Cond.selects RX0 yX0_beginsAt yX0_beginsAt, Cond.initialized RX0, Cond.code yX0_beginsAt cX0_beginsAt 2 (some .boolean), Cond.fieldLink RX0 22 "CryptSums$Corridors" "first" "[I", Cond.methodLink RX1 92 yX1_summedOf, Cond.instanceMethod yX1_summedOf, Cond.selects RX1 yX1_summedOf yX1_summedOf, Cond.code yX1_summedOf cX1_summedOf 4 (some .int), Cond.methodLink RX1 101 yX0_toldAt, Cond.instanceMethod yX0_toldAt]
def wsX4_digest_r3 : List Cond := [Cond.selects RX0 yX0_toldAt yX0_toldAt, Cond.code yX0_toldAt cX0_toldAt 2 (some .int), Cond.fieldLink RX0 19 "CryptSums$Corridors" "told" "[I", Cond.methodLink RX1 73 yX1_wellOf, Cond.instanceMethod yX1_wellOf, Cond.selects RX1 yX1_wellOf yX1_wellOf, Cond.code yX1_wellOf cX1_wellOf 4 (some .int), Cond.methodLink RX1 104 yX0_isWellFrom, Cond.instanceMethod yX0_isWellFrom, Cond.selects RX0 yX0_isWellFrom yX0_isWellFrom, Cond.code yX0_isWellFrom cX0_isWellFrom 4 (some .boolean), Cond.fieldLink RX0 25 "CryptSums$Corridors" "size" "[I", Cond.fieldLink RX0 44 "CryptSums$Corridors" "seenStones" "I", Cond.fieldLink RX0 15 "CryptSums$Corridors" "partitions" "LCryptSums$Partitions;", Cond.fieldLink RX0 58 "CryptSums$Corridors" "seenNumbers" "I", Cond.fieldLink RX0 47 "CryptSums$Corridors" "seenTotal" "I", Cond.methodLink RX0 40 yX0_look, Cond.instanceMethod yX0_look, Cond.selects RX0 yX0_look yX0_look, Cond.code yX0_look cX0_look 5 none, Cond.fieldLink RX0 9 "CryptSums$Corridors" "stones" "[I", Cond.fieldLink RX0 28 "CryptSums$Corridors" "step" "I", Cond.methodLink RX0 54 yX0_sawAlike, Cond.instanceMethod yX0_sawAlike]
def wsX4_digest_r4 : List Cond := [Cond.selects RX0 yX0_sawAlike yX0_sawAlike, Cond.code yX0_sawAlike cX0_sawAlike 1 (some .boolean), Cond.methodLink RX0 67 yJ6_bitCount_0f7a4, Cond.static yJ6_bitCount_0f7a4, Cond.initialized RJ6, Cond.code yJ6_bitCount_0f7a4 cJ6_bitCount_0f7a4 1 (some .int), Cond.constant RJ6 265 (1431655765), Cond.constant RJ6 266 (858993459), Cond.constant RJ6 267 (252645135), Cond.methodLink RX0 61 yX2_make, Cond.instanceMethod yX2_make, Cond.selects RX2 yX2_make yX2_make, Cond.initialized RX2, Cond.code yX2_make cX2_make 5 (some .boolean), Cond.fieldLink RX2 11 "CryptSums$Partitions" "sums" "[J", Cond.methodLink RX1 95 yX1_holesWithChoices, Cond.instanceMethod yX1_holesWithChoices, Cond.selects RX1 yX1_holesWithChoices yX1_holesWithChoices, Cond.code yX1_holesWithChoices cX1_holesWithChoices 4 (some .int), Cond.methodLink RX1 66 yX1_isHole, Cond.instanceMethod yX1_isHole, Cond.selects RX1 yX1_isHole yX1_isHole, Cond.code yX1_isHole cX1_isHole 2 (some .boolean), Cond.methodLink RX1 80 yX1_numbersFor]
def wsX4_digest_r5 : List Cond := [Cond.instanceMethod yX1_numbersFor, Cond.selects RX1 yX1_numbersFor yX1_numbersFor, Cond.code yX1_numbersFor cX1_numbersFor 2 (some .int), Cond.methodLink RX1 69 yX0_numbersFor, Cond.instanceMethod yX0_numbersFor, Cond.selects RX0 yX0_numbersFor yX0_numbersFor, Cond.code yX0_numbersFor cX0_numbersFor 10 (some .int), Cond.methodLink RX1 81 yJ6_bitCount_0f7a4, Cond.methodLink RX4 130 yX4_stir, Cond.static yX4_stir, Cond.code yX4_stir cX4_stir 3 (some .long), Cond.constantLong RX4 144 (31), Cond.methodLink RX4 39 yX1_cells, Cond.methodLink RX4 134 yX4_stirCell, Cond.instanceMethod yX4_stirCell, Cond.selects RX4 yX4_stirCell yX4_stirCell, Cond.code yX4_stirCell cX4_stirCell 6 (some .long), Cond.methodLink RX4 71 yX1_stoneAt, Cond.instanceMethod yX1_stoneAt, Cond.selects RX1 yX1_stoneAt yX1_stoneAt, Cond.code yX1_stoneAt cX1_stoneAt 2 (some .int), Cond.methodLink RX4 56 yX1_corridors, Cond.instanceMethod yX1_corridors, Cond.selects RX1 yX1_corridors yX1_corridors]
def wsX4_digest_r6 : List Cond := [Cond.code yX1_corridors cX1_corridors 2 (some (.object "CryptSums$Corridors")), Cond.methodLink RX4 137 yX0_toldAt, Cond.methodLink RX4 81 yX1_numbersFor, Cond.methodLink RX4 140 yX4_stirCorridor, Cond.static yX4_stirCorridor, Cond.code yX4_stirCorridor cX4_stirCorridor 7 (some .long), Cond.methodLink RX4 92 yX0_tell, Cond.instanceMethod yX0_tell, Cond.selects RX0 yX0_tell yX0_tell, Cond.code yX0_tell cX0_tell 4 (some .int), Cond.methodLink RX0 50 yX0_isWellFrom, Cond.methodLink RX4 107 yX3_refresh, Cond.instanceMethod yX3_refresh, Cond.selects RX3 yX3_refresh yX3_refresh, Cond.initialized RX3, Cond.code yX3_refresh cX3_refresh 1 none, Cond.fieldLink RX3 32 "CryptSums$Search" "fresh" "Z", Cond.fieldLink RX3 22 "CryptSums$Search" "holeCount" "I", Cond.fieldLink RX3 26 "CryptSums$Search" "tried" "I", Cond.fieldLink RX3 29 "CryptSums$Search" "found" "I", Cond.fieldLink RX3 9 "CryptSums$Search" "floor" "LCryptSums$Floor;", Cond.methodLink RX3 36 yX1_isAllWell, Cond.instanceMethod yX1_isAllWell, Cond.selects RX1 yX1_isAllWell yX1_isAllWell]
def wsX4_digest_r7 : List Cond := [Cond.code yX1_isAllWell cX1_isAllWell 1 (some .boolean), Cond.methodLink RX3 42 yX3_collectHoles, Cond.instanceMethod yX3_collectHoles, Cond.selects RX3 yX3_collectHoles yX3_collectHoles, Cond.code yX3_collectHoles cX3_collectHoles 2 none, Cond.fieldLink RX3 15 "CryptSums$Search" "holes" "[I", Cond.methodLink RX3 56 yX1_cells, Cond.methodLink RX3 60 yX1_isHole, Cond.static yX4_write, Cond.code yX4_write cX4_write 3 none, Cond.methodLink RX3 45 yX3_fillFrom, Cond.static yX3_fillFrom, Cond.code yX3_fillFrom cX3_fillFrom 6 none, Cond.methodLink RX3 68 yX3_keepFilling, Cond.instanceMethod yX3_keepFilling, Cond.selects RX3 yX3_keepFilling yX3_keepFilling, Cond.code yX3_keepFilling cX3_keepFilling 2 none, Cond.fieldLink RX3 19 "CryptSums$Search" "kept" "[I", Cond.methodLink RX3 86 yX1_stoneAt, Cond.methodLink RX3 71 yX1_numbersFor, Cond.methodLink RX3 75 yX3_isOver, Cond.instanceMethod yX3_isOver, Cond.selects RX3 yX3_isOver yX3_isOver, Cond.code yX3_isOver cX3_isOver 1 (some .boolean)]
def wsX4_digest_r8 : List Cond := [Cond.methodLink RX3 49 yX3_isUnknown, Cond.instanceMethod yX3_isUnknown, Cond.selects RX3 yX3_isUnknown yX3_isUnknown, Cond.code yX3_isUnknown cX3_isUnknown 1 (some .boolean), Cond.static yX4_hasNumber, Cond.code yX4_hasNumber cX4_hasNumber 2 (some .boolean), Cond.methodLink RX3 82 yX1_lay, Cond.instanceMethod yX1_lay, Cond.selects RX1 yX1_lay yX1_lay, Cond.code yX1_lay cX1_lay 3 none, Cond.methodLink RX4 110 yX3_told, Cond.instanceMethod yX3_told, Cond.selects RX3 yX3_told yX3_told, Cond.code yX3_told cX3_told 1 (some .int), Cond.methodLink RX4 113 yX3_tried, Cond.instanceMethod yX3_tried, Cond.selects RX3 yX3_tried yX3_tried, Cond.code yX3_tried cX3_tried 1 (some .int)]
def wsX4_digest : List Cond := .code yX4_digest cX4_digest 4 (some .long) :: ((wsX4_digest_r1 ++ (wsX4_digest_r2 ++ (wsX4_digest_r3 ++ (wsX4_digest_r4 ++ (wsX4_digest_r5 ++ (wsX4_digest_r6 ++ (wsX4_digest_r7 ++ wsX4_digest_r8))))))) ++ wsX40 ++ wsX10 ++ wsX00 ++ wsX20 ++ wsX30)
def wsX5_sumOf : List Cond := .code yX5_sumOf cX5_sumOf 3 (some .int) :: ([])
def wsX5_link : List Cond := .code yX5_link cX5_link 4 none :: ([.fieldLink RX5 7 "CryptSumsModel" "w" "I", .fieldLink RX5 13 "CryptSumsModel" "h" "I", .fieldLink RX5 23 "CryptSumsModel" "begins" "[I", .fieldLink RX5 16 "CryptSumsModel" "stones" "[I"] ++ wsX50)
def wsX5_init_r1 : List Cond := [Cond.methodLink RX5 1 objectInit, Cond.instanceMethod objectInit, Cond.code objectInit ⟨#[0xb1]⟩ 1 none, Cond.fieldLink RX5 7 "CryptSumsModel" "w" "I", Cond.fieldLink RX5 13 "CryptSumsModel" "h" "I", Cond.arrayClass .int, Cond.fieldLink RX5 16 "CryptSumsModel" "stones" "[I", Cond.fieldLink RX5 20 "CryptSumsModel" "sums" "[I", Cond.fieldLink RX5 23 "CryptSumsModel" "begins" "[I", Cond.fieldLink RX5 26 "CryptSumsModel" "sets" "[I", Cond.fieldLink RX5 29 "CryptSumsModel" "first" "[I", Cond.fieldLink RX5 32 "CryptSumsModel" "filled" "[I", Cond.methodLink RX5 35 yJ6_bitCount_0f7a4, Cond.static yJ6_bitCount_0f7a4, Cond.initialized RJ6, Cond.code yJ6_bitCount_0f7a4 cJ6_bitCount_0f7a4 1 (some .int), Cond.constant RJ6 265 (1431655765), Cond.constant RJ6 266 (858993459), Cond.constant RJ6 267 (252645135), Cond.methodLink RX5 41 yX5_sumOf, Cond.static yX5_sumOf, Cond.initialized RX5, Cond.code yX5_sumOf cX5_sumOf 3 (some .int), Cond.methodLink RX5 44 yX5_link]
def wsX5_init_r2 : List Cond := [Cond.instanceMethod yX5_link, Cond.selects RX5 yX5_link yX5_link, Cond.code yX5_link cX5_link 4 none]
def wsX5_init : List Cond := .code yX5_init cX5_init 4 none :: ((wsX5_init_r1 ++ wsX5_init_r2) ++ wsX50)
def wsX5_thrown : List Cond := .code yX5_thrown cX5_thrown 1 (some .int) :: ([.fieldLink RX5 47 "CryptSumsModel" "thrown" "I"] ++ wsX50)
def wsX5_no : List Cond := .code yX5_no cX5_no 2 (some .int) :: ([.fieldLink RX5 47 "CryptSumsModel" "thrown" "I"] ++ wsX50)
def wsX5_isIn : List Cond := .code yX5_isIn cX5_isIn 3 (some .boolean) :: ([])
def wsX5_isCell : List Cond := .code yX5_isCell cX5_isCell 2 (some .boolean) :: ([.fieldLink RX5 7 "CryptSumsModel" "w" "I", .fieldLink RX5 13 "CryptSumsModel" "h" "I", .methodLink RX5 50 yX5_isIn, .static yX5_isIn, .initialized RX5, .code yX5_isIn cX5_isIn 3 (some .boolean)] ++ wsX50)
def wsX5_behind : List Cond := .code yX5_behind cX5_behind 3 (some .int) :: ([.fieldLink RX5 7 "CryptSumsModel" "w" "I", .fieldLink RX5 13 "CryptSumsModel" "h" "I"] ++ wsX50)
def wsX5_beginOf : List Cond := .code yX5_beginOf cX5_beginOf 3 (some .int) :: ([.fieldLink RX5 23 "CryptSumsModel" "begins" "[I"] ++ wsX50)
def wsX5_isOpen : List Cond := .code yX5_isOpen cX5_isOpen 2 (some .boolean) :: ([.fieldLink RX5 16 "CryptSumsModel" "stones" "[I"] ++ wsX50)
def wsX5_isMade : List Cond := .code yX5_isMade cX5_isMade 6 (some .boolean) :: ([.fieldLink RX5 29 "CryptSumsModel" "first" "[I", .fieldLink RX5 26 "CryptSumsModel" "sets" "[I"] ++ wsX50)
def wsX5_isWell_r1 : List Cond := [Cond.fieldLink RX5 16 "CryptSumsModel" "stones" "[I", Cond.fieldLink RX5 20 "CryptSumsModel" "sums" "[I", Cond.methodLink RX5 54 yX5_beginOf, Cond.instanceMethod yX5_beginOf, Cond.selects RX5 yX5_beginOf yX5_beginOf, Cond.initialized RX5, Cond.code yX5_beginOf cX5_beginOf 3 (some .int), Cond.fieldLink RX5 23 "CryptSumsModel" "begins" "[I", Cond.methodLink RX5 58 yX5_isOpen, Cond.instanceMethod yX5_isOpen, Cond.selects RX5 yX5_isOpen yX5_isOpen, Cond.code yX5_isOpen cX5_isOpen 2 (some .boolean), Cond.methodLink RX5 62 yX5_behind, Cond.instanceMethod yX5_behind, Cond.selects RX5 yX5_behind yX5_behind, Cond.code yX5_behind cX5_behind 3 (some .int), Cond.fieldLink RX5 7 "CryptSumsModel" "w" "I", Cond.fieldLink RX5 13 "CryptSumsModel" "h" "I", Cond.methodLink RX5 41 yX5_sumOf, Cond.static yX5_sumOf, Cond.code yX5_sumOf cX5_sumOf 3 (some .int), Cond.methodLink RX5 65 yX5_isMade, Cond.instanceMethod yX5_isMade, Cond.selects RX5 yX5_isMade yX5_isMade]
def wsX5_isWell_r2 : List Cond := [Cond.code yX5_isMade cX5_isMade 6 (some .boolean), Cond.fieldLink RX5 29 "CryptSumsModel" "first" "[I", Cond.fieldLink RX5 26 "CryptSumsModel" "sets" "[I"]
def wsX5_isWell : List Cond := .code yX5_isWell cX5_isWell 8 (some .boolean) :: ((wsX5_isWell_r1 ++ wsX5_isWell_r2) ++ wsX50)
def wsX5_stands_r1 : List Cond := [Cond.fieldLink RX5 16 "CryptSumsModel" "stones" "[I", Cond.methodLink RX5 68 yX5_isWell, Cond.instanceMethod yX5_isWell, Cond.selects RX5 yX5_isWell yX5_isWell, Cond.initialized RX5, Cond.code yX5_isWell cX5_isWell 8 (some .boolean), Cond.fieldLink RX5 20 "CryptSumsModel" "sums" "[I", Cond.methodLink RX5 54 yX5_beginOf, Cond.instanceMethod yX5_beginOf, Cond.selects RX5 yX5_beginOf yX5_beginOf, Cond.code yX5_beginOf cX5_beginOf 3 (some .int), Cond.fieldLink RX5 23 "CryptSumsModel" "begins" "[I", Cond.methodLink RX5 58 yX5_isOpen, Cond.instanceMethod yX5_isOpen, Cond.selects RX5 yX5_isOpen yX5_isOpen, Cond.code yX5_isOpen cX5_isOpen 2 (some .boolean), Cond.methodLink RX5 62 yX5_behind, Cond.instanceMethod yX5_behind, Cond.selects RX5 yX5_behind yX5_behind, Cond.code yX5_behind cX5_behind 3 (some .int), Cond.fieldLink RX5 7 "CryptSumsModel" "w" "I", Cond.fieldLink RX5 13 "CryptSumsModel" "h" "I", Cond.methodLink RX5 41 yX5_sumOf, Cond.static yX5_sumOf]
def wsX5_stands_r2 : List Cond := [Cond.code yX5_sumOf cX5_sumOf 3 (some .int), Cond.methodLink RX5 65 yX5_isMade, Cond.instanceMethod yX5_isMade, Cond.selects RX5 yX5_isMade yX5_isMade, Cond.code yX5_isMade cX5_isMade 6 (some .boolean), Cond.fieldLink RX5 29 "CryptSumsModel" "first" "[I", Cond.fieldLink RX5 26 "CryptSumsModel" "sets" "[I"]
def wsX5_stands : List Cond := .code yX5_stands cX5_stands 4 (some .boolean) :: ((wsX5_stands_r1 ++ wsX5_stands_r2) ++ wsX50)
def wsX5_canOf_r1 : List Cond := [Cond.fieldLink RX5 16 "CryptSumsModel" "stones" "[I", Cond.methodLink RX5 72 yX5_stands, Cond.instanceMethod yX5_stands, Cond.selects RX5 yX5_stands yX5_stands, Cond.initialized RX5, Cond.code yX5_stands cX5_stands 4 (some .boolean), Cond.methodLink RX5 68 yX5_isWell, Cond.instanceMethod yX5_isWell, Cond.selects RX5 yX5_isWell yX5_isWell, Cond.code yX5_isWell cX5_isWell 8 (some .boolean), Cond.fieldLink RX5 20 "CryptSumsModel" "sums" "[I", Cond.methodLink RX5 54 yX5_beginOf, Cond.instanceMethod yX5_beginOf, Cond.selects RX5 yX5_beginOf yX5_beginOf, Cond.code yX5_beginOf cX5_beginOf 3 (some .int), Cond.fieldLink RX5 23 "CryptSumsModel" "begins" "[I", Cond.methodLink RX5 58 yX5_isOpen, Cond.instanceMethod yX5_isOpen, Cond.selects RX5 yX5_isOpen yX5_isOpen, Cond.code yX5_isOpen cX5_isOpen 2 (some .boolean), Cond.methodLink RX5 62 yX5_behind, Cond.instanceMethod yX5_behind, Cond.selects RX5 yX5_behind yX5_behind, Cond.code yX5_behind cX5_behind 3 (some .int)]
def wsX5_canOf_r2 : List Cond := [Cond.fieldLink RX5 7 "CryptSumsModel" "w" "I", Cond.fieldLink RX5 13 "CryptSumsModel" "h" "I", Cond.methodLink RX5 41 yX5_sumOf, Cond.static yX5_sumOf, Cond.code yX5_sumOf cX5_sumOf 3 (some .int), Cond.methodLink RX5 65 yX5_isMade, Cond.instanceMethod yX5_isMade, Cond.selects RX5 yX5_isMade yX5_isMade, Cond.code yX5_isMade cX5_isMade 6 (some .boolean), Cond.fieldLink RX5 29 "CryptSumsModel" "first" "[I", Cond.fieldLink RX5 26 "CryptSumsModel" "sets" "[I"]
def wsX5_canOf : List Cond := .code yX5_canOf cX5_canOf 4 (some .int) :: ((wsX5_canOf_r1 ++ wsX5_canOf_r2) ++ wsX50)
def wsX5_isAllWell_r1 : List Cond := [Cond.fieldLink RX5 7 "CryptSumsModel" "w" "I", Cond.fieldLink RX5 13 "CryptSumsModel" "h" "I", Cond.fieldLink RX5 16 "CryptSumsModel" "stones" "[I", Cond.methodLink RX5 68 yX5_isWell, Cond.instanceMethod yX5_isWell, Cond.selects RX5 yX5_isWell yX5_isWell, Cond.initialized RX5, Cond.code yX5_isWell cX5_isWell 8 (some .boolean), Cond.fieldLink RX5 20 "CryptSumsModel" "sums" "[I", Cond.methodLink RX5 54 yX5_beginOf, Cond.instanceMethod yX5_beginOf, Cond.selects RX5 yX5_beginOf yX5_beginOf, Cond.code yX5_beginOf cX5_beginOf 3 (some .int), Cond.fieldLink RX5 23 "CryptSumsModel" "begins" "[I", Cond.methodLink RX5 58 yX5_isOpen, Cond.instanceMethod yX5_isOpen, Cond.selects RX5 yX5_isOpen yX5_isOpen, Cond.code yX5_isOpen cX5_isOpen 2 (some .boolean), Cond.methodLink RX5 62 yX5_behind, Cond.instanceMethod yX5_behind, Cond.selects RX5 yX5_behind yX5_behind, Cond.code yX5_behind cX5_behind 3 (some .int), Cond.methodLink RX5 41 yX5_sumOf, Cond.static yX5_sumOf]
def wsX5_isAllWell_r2 : List Cond := [Cond.code yX5_sumOf cX5_sumOf 3 (some .int), Cond.methodLink RX5 65 yX5_isMade, Cond.instanceMethod yX5_isMade, Cond.selects RX5 yX5_isMade yX5_isMade, Cond.code yX5_isMade cX5_isMade 6 (some .boolean), Cond.fieldLink RX5 29 "CryptSumsModel" "first" "[I", Cond.fieldLink RX5 26 "CryptSumsModel" "sets" "[I"]
def wsX5_isAllWell : List Cond := .code yX5_isAllWell cX5_isAllWell 2 (some .boolean) :: ((wsX5_isAllWell_r1 ++ wsX5_isAllWell_r2) ++ wsX50)
def wsX5_isOver : List Cond := .code yX5_isOver cX5_isOver 1 (some .boolean) :: ([.fieldLink RX5 75 "CryptSumsModel" "isLong" "Z", .fieldLink RX5 79 "CryptSumsModel" "ways" "I"] ++ wsX50)
def wsX5_fill_r1 : List Cond := [Cond.fieldLink RX5 7 "CryptSumsModel" "w" "I", Cond.fieldLink RX5 13 "CryptSumsModel" "h" "I", Cond.fieldLink RX5 16 "CryptSumsModel" "stones" "[I", Cond.fieldLink RX5 79 "CryptSumsModel" "ways" "I", Cond.fieldLink RX5 32 "CryptSumsModel" "filled" "[I", Cond.methodLink RX5 82 arraycopyName, Cond.native arraycopyName, Cond.static arraycopyName, Cond.initialized "java/lang/System", Cond.fieldLink RX5 92 "CryptSumsModel" "tries" "I", Cond.fieldLink RX5 75 "CryptSumsModel" "isLong" "Z", Cond.methodLink RX5 88 yX5_isOver, Cond.instanceMethod yX5_isOver, Cond.selects RX5 yX5_isOver yX5_isOver, Cond.initialized RX5, Cond.code yX5_isOver cX5_isOver 1 (some .boolean), Cond.methodLink RX5 72 yX5_stands, Cond.instanceMethod yX5_stands, Cond.selects RX5 yX5_stands yX5_stands, Cond.code yX5_stands cX5_stands 4 (some .boolean), Cond.methodLink RX5 68 yX5_isWell, Cond.instanceMethod yX5_isWell, Cond.selects RX5 yX5_isWell yX5_isWell, Cond.code yX5_isWell cX5_isWell 8 (some .boolean)]
def wsX5_fill_r2 : List Cond := [Cond.fieldLink RX5 20 "CryptSumsModel" "sums" "[I", Cond.methodLink RX5 54 yX5_beginOf, Cond.instanceMethod yX5_beginOf, Cond.selects RX5 yX5_beginOf yX5_beginOf, Cond.code yX5_beginOf cX5_beginOf 3 (some .int), Cond.fieldLink RX5 23 "CryptSumsModel" "begins" "[I", Cond.methodLink RX5 58 yX5_isOpen, Cond.instanceMethod yX5_isOpen, Cond.selects RX5 yX5_isOpen yX5_isOpen, Cond.code yX5_isOpen cX5_isOpen 2 (some .boolean), Cond.methodLink RX5 62 yX5_behind, Cond.instanceMethod yX5_behind, Cond.selects RX5 yX5_behind yX5_behind, Cond.code yX5_behind cX5_behind 3 (some .int), Cond.methodLink RX5 41 yX5_sumOf, Cond.static yX5_sumOf, Cond.code yX5_sumOf cX5_sumOf 3 (some .int), Cond.methodLink RX5 65 yX5_isMade, Cond.instanceMethod yX5_isMade, Cond.selects RX5 yX5_isMade yX5_isMade, Cond.code yX5_isMade cX5_isMade 6 (some .boolean), Cond.fieldLink RX5 29 "CryptSumsModel" "first" "[I", Cond.fieldLink RX5 26 "CryptSumsModel" "sets" "[I", Cond.methodLink RX5 95 yX5_fill]
def wsX5_fill_r3 : List Cond := [Cond.instanceMethod yX5_fill, Cond.selects RX5 yX5_fill yX5_fill]
def wsX5_fill : List Cond := .code yX5_fill cX5_fill 4 none :: ((wsX5_fill_r1 ++ (wsX5_fill_r2 ++ wsX5_fill_r3)) ++ wsX50)
def wsX5_look_r1 : List Cond := [Cond.fieldLink RX5 92 "CryptSumsModel" "tries" "I", Cond.fieldLink RX5 79 "CryptSumsModel" "ways" "I", Cond.fieldLink RX5 75 "CryptSumsModel" "isLong" "Z", Cond.fieldLink RX5 32 "CryptSumsModel" "filled" "[I", Cond.methodLink RX5 99 yX5_isAllWell, Cond.instanceMethod yX5_isAllWell, Cond.selects RX5 yX5_isAllWell yX5_isAllWell, Cond.initialized RX5, Cond.code yX5_isAllWell cX5_isAllWell 2 (some .boolean), Cond.fieldLink RX5 7 "CryptSumsModel" "w" "I", Cond.fieldLink RX5 13 "CryptSumsModel" "h" "I", Cond.fieldLink RX5 16 "CryptSumsModel" "stones" "[I", Cond.methodLink RX5 68 yX5_isWell, Cond.instanceMethod yX5_isWell, Cond.selects RX5 yX5_isWell yX5_isWell, Cond.code yX5_isWell cX5_isWell 8 (some .boolean), Cond.fieldLink RX5 20 "CryptSumsModel" "sums" "[I", Cond.methodLink RX5 54 yX5_beginOf, Cond.instanceMethod yX5_beginOf, Cond.selects RX5 yX5_beginOf yX5_beginOf, Cond.code yX5_beginOf cX5_beginOf 3 (some .int), Cond.fieldLink RX5 23 "CryptSumsModel" "begins" "[I", Cond.methodLink RX5 58 yX5_isOpen, Cond.instanceMethod yX5_isOpen]
def wsX5_look_r2 : List Cond := [Cond.selects RX5 yX5_isOpen yX5_isOpen, Cond.code yX5_isOpen cX5_isOpen 2 (some .boolean), Cond.methodLink RX5 62 yX5_behind, Cond.instanceMethod yX5_behind, Cond.selects RX5 yX5_behind yX5_behind, Cond.code yX5_behind cX5_behind 3 (some .int), Cond.methodLink RX5 41 yX5_sumOf, Cond.static yX5_sumOf, Cond.code yX5_sumOf cX5_sumOf 3 (some .int), Cond.methodLink RX5 65 yX5_isMade, Cond.instanceMethod yX5_isMade, Cond.selects RX5 yX5_isMade yX5_isMade, Cond.code yX5_isMade cX5_isMade 6 (some .boolean), Cond.fieldLink RX5 29 "CryptSumsModel" "first" "[I", Cond.fieldLink RX5 26 "CryptSumsModel" "sets" "[I", Cond.methodLink RX5 95 yX5_fill, Cond.instanceMethod yX5_fill, Cond.selects RX5 yX5_fill yX5_fill, Cond.code yX5_fill cX5_fill 4 none, Cond.methodLink RX5 82 arraycopyName, Cond.native arraycopyName, Cond.static arraycopyName, Cond.initialized "java/lang/System", Cond.methodLink RX5 88 yX5_isOver]
def wsX5_look_r3 : List Cond := [Cond.instanceMethod yX5_isOver, Cond.selects RX5 yX5_isOver yX5_isOver, Cond.code yX5_isOver cX5_isOver 1 (some .boolean), Cond.methodLink RX5 72 yX5_stands, Cond.instanceMethod yX5_stands, Cond.selects RX5 yX5_stands yX5_stands, Cond.code yX5_stands cX5_stands 4 (some .boolean)]
def wsX5_look : List Cond := .code yX5_look cX5_look 2 none :: ((wsX5_look_r1 ++ (wsX5_look_r2 ++ wsX5_look_r3)) ++ wsX50)
def wsX5_told : List Cond := .code yX5_told cX5_told 1 (some .int) :: ([.fieldLink RX5 75 "CryptSumsModel" "isLong" "Z", .fieldLink RX5 79 "CryptSumsModel" "ways" "I"] ++ wsX50)
def wsX5_setFloor : List Cond := .code yX5_setFloor cX5_setFloor 4 (some .int) :: ([.fieldLink RX5 47 "CryptSumsModel" "thrown" "I", .fieldLink RX5 7 "CryptSumsModel" "w" "I", .fieldLink RX5 13 "CryptSumsModel" "h" "I", .fieldLink RX5 16 "CryptSumsModel" "stones" "[I", .fieldLink RX5 20 "CryptSumsModel" "sums" "[I", .methodLink RX5 50 yX5_isIn, .static yX5_isIn, .initialized RX5, .code yX5_isIn cX5_isIn 3 (some .boolean), .methodLink RX5 102 yX5_no, .instanceMethod yX5_no, .selects RX5 yX5_no yX5_no, .code yX5_no cX5_no 2 (some .int), .methodLink RX5 44 yX5_link, .instanceMethod yX5_link, .selects RX5 yX5_link yX5_link, .code yX5_link cX5_link 4 none, .fieldLink RX5 23 "CryptSumsModel" "begins" "[I"] ++ wsX50)
def wsX5_pillar : List Cond := .code yX5_pillar cX5_pillar 2 (some .boolean) :: ([.fieldLink RX5 47 "CryptSumsModel" "thrown" "I", .fieldLink RX5 16 "CryptSumsModel" "stones" "[I", .methodLink RX5 105 yX5_isCell, .instanceMethod yX5_isCell, .selects RX5 yX5_isCell yX5_isCell, .initialized RX5, .code yX5_isCell cX5_isCell 2 (some .boolean), .fieldLink RX5 7 "CryptSumsModel" "w" "I", .fieldLink RX5 13 "CryptSumsModel" "h" "I", .methodLink RX5 50 yX5_isIn, .static yX5_isIn, .code yX5_isIn cX5_isIn 3 (some .boolean), .methodLink RX5 44 yX5_link, .instanceMethod yX5_link, .selects RX5 yX5_link yX5_link, .code yX5_link cX5_link 4 none, .fieldLink RX5 23 "CryptSumsModel" "begins" "[I"] ++ wsX50)
def wsX5_setSum : List Cond := .code yX5_setSum cX5_setSum 6 (some .int) :: ([.fieldLink RX5 47 "CryptSumsModel" "thrown" "I", .fieldLink RX5 20 "CryptSumsModel" "sums" "[I", .methodLink RX5 105 yX5_isCell, .instanceMethod yX5_isCell, .selects RX5 yX5_isCell yX5_isCell, .initialized RX5, .code yX5_isCell cX5_isCell 2 (some .boolean), .fieldLink RX5 7 "CryptSumsModel" "w" "I", .fieldLink RX5 13 "CryptSumsModel" "h" "I", .methodLink RX5 50 yX5_isIn, .static yX5_isIn, .code yX5_isIn cX5_isIn 3 (some .boolean), .methodLink RX5 102 yX5_no, .instanceMethod yX5_no, .selects RX5 yX5_no yX5_no, .code yX5_no cX5_no 2 (some .int)] ++ wsX50)
def wsX5_put : List Cond := .code yX5_put cX5_put 4 (some .int) :: ([.fieldLink RX5 47 "CryptSumsModel" "thrown" "I", .fieldLink RX5 16 "CryptSumsModel" "stones" "[I", .methodLink RX5 105 yX5_isCell, .instanceMethod yX5_isCell, .selects RX5 yX5_isCell yX5_isCell, .initialized RX5, .code yX5_isCell cX5_isCell 2 (some .boolean), .fieldLink RX5 7 "CryptSumsModel" "w" "I", .fieldLink RX5 13 "CryptSumsModel" "h" "I", .methodLink RX5 50 yX5_isIn, .static yX5_isIn, .code yX5_isIn cX5_isIn 3 (some .boolean), .methodLink RX5 102 yX5_no, .instanceMethod yX5_no, .selects RX5 yX5_no yX5_no, .code yX5_no cX5_no 2 (some .int)] ++ wsX50)
def wsX5_single_r1 : List Cond := [Cond.fieldLink RX5 7 "CryptSumsModel" "w" "I", Cond.fieldLink RX5 13 "CryptSumsModel" "h" "I", Cond.methodLink RX5 108 yX5_canOf, Cond.instanceMethod yX5_canOf, Cond.selects RX5 yX5_canOf yX5_canOf, Cond.initialized RX5, Cond.code yX5_canOf cX5_canOf 4 (some .int), Cond.fieldLink RX5 16 "CryptSumsModel" "stones" "[I", Cond.methodLink RX5 72 yX5_stands, Cond.instanceMethod yX5_stands, Cond.selects RX5 yX5_stands yX5_stands, Cond.code yX5_stands cX5_stands 4 (some .boolean), Cond.methodLink RX5 68 yX5_isWell, Cond.instanceMethod yX5_isWell, Cond.selects RX5 yX5_isWell yX5_isWell, Cond.code yX5_isWell cX5_isWell 8 (some .boolean), Cond.fieldLink RX5 20 "CryptSumsModel" "sums" "[I", Cond.methodLink RX5 54 yX5_beginOf, Cond.instanceMethod yX5_beginOf, Cond.selects RX5 yX5_beginOf yX5_beginOf, Cond.code yX5_beginOf cX5_beginOf 3 (some .int), Cond.fieldLink RX5 23 "CryptSumsModel" "begins" "[I", Cond.methodLink RX5 58 yX5_isOpen, Cond.instanceMethod yX5_isOpen]
def wsX5_single_r2 : List Cond := [Cond.selects RX5 yX5_isOpen yX5_isOpen, Cond.code yX5_isOpen cX5_isOpen 2 (some .boolean), Cond.methodLink RX5 62 yX5_behind, Cond.instanceMethod yX5_behind, Cond.selects RX5 yX5_behind yX5_behind, Cond.code yX5_behind cX5_behind 3 (some .int), Cond.methodLink RX5 41 yX5_sumOf, Cond.static yX5_sumOf, Cond.code yX5_sumOf cX5_sumOf 3 (some .int), Cond.methodLink RX5 65 yX5_isMade, Cond.instanceMethod yX5_isMade, Cond.selects RX5 yX5_isMade yX5_isMade, Cond.code yX5_isMade cX5_isMade 6 (some .boolean), Cond.fieldLink RX5 29 "CryptSumsModel" "first" "[I", Cond.fieldLink RX5 26 "CryptSumsModel" "sets" "[I", Cond.methodLink RX5 35 yJ6_bitCount_0f7a4, Cond.static yJ6_bitCount_0f7a4, Cond.initialized RJ6, Cond.code yJ6_bitCount_0f7a4 cJ6_bitCount_0f7a4 1 (some .int), Cond.constant RJ6 265 (1431655765), Cond.constant RJ6 266 (858993459), Cond.constant RJ6 267 (252645135)]
def wsX5_single : List Cond := .code yX5_single cX5_single 2 (some .int) :: ((wsX5_single_r1 ++ wsX5_single_r2) ++ wsX50)
def wsJ6_numberOfTrailingZeros_0f7a4 : List Cond := .code yJ6_numberOfTrailingZeros_0f7a4 cJ6_numberOfTrailingZeros_0f7a4 2 (some .int) :: ([.constant RJ6 264 (65536)])
def wsX5_force_r1 : List Cond := [Cond.fieldLink RX5 47 "CryptSumsModel" "thrown" "I", Cond.fieldLink RX5 16 "CryptSumsModel" "stones" "[I", Cond.methodLink RX5 111 yX5_single, Cond.instanceMethod yX5_single, Cond.selects RX5 yX5_single yX5_single, Cond.initialized RX5, Cond.code yX5_single cX5_single 2 (some .int), Cond.fieldLink RX5 7 "CryptSumsModel" "w" "I", Cond.fieldLink RX5 13 "CryptSumsModel" "h" "I", Cond.methodLink RX5 108 yX5_canOf, Cond.instanceMethod yX5_canOf, Cond.selects RX5 yX5_canOf yX5_canOf, Cond.code yX5_canOf cX5_canOf 4 (some .int), Cond.methodLink RX5 72 yX5_stands, Cond.instanceMethod yX5_stands, Cond.selects RX5 yX5_stands yX5_stands, Cond.code yX5_stands cX5_stands 4 (some .boolean), Cond.methodLink RX5 68 yX5_isWell, Cond.instanceMethod yX5_isWell, Cond.selects RX5 yX5_isWell yX5_isWell, Cond.code yX5_isWell cX5_isWell 8 (some .boolean), Cond.fieldLink RX5 20 "CryptSumsModel" "sums" "[I", Cond.methodLink RX5 54 yX5_beginOf, Cond.instanceMethod yX5_beginOf]
def wsX5_force_r2 : List Cond := [Cond.selects RX5 yX5_beginOf yX5_beginOf, Cond.code yX5_beginOf cX5_beginOf 3 (some .int), Cond.fieldLink RX5 23 "CryptSumsModel" "begins" "[I", Cond.methodLink RX5 58 yX5_isOpen, Cond.instanceMethod yX5_isOpen, Cond.selects RX5 yX5_isOpen yX5_isOpen, Cond.code yX5_isOpen cX5_isOpen 2 (some .boolean), Cond.methodLink RX5 62 yX5_behind, Cond.instanceMethod yX5_behind, Cond.selects RX5 yX5_behind yX5_behind, Cond.code yX5_behind cX5_behind 3 (some .int), Cond.methodLink RX5 41 yX5_sumOf, Cond.static yX5_sumOf, Cond.code yX5_sumOf cX5_sumOf 3 (some .int), Cond.methodLink RX5 65 yX5_isMade, Cond.instanceMethod yX5_isMade, Cond.selects RX5 yX5_isMade yX5_isMade, Cond.code yX5_isMade cX5_isMade 6 (some .boolean), Cond.fieldLink RX5 29 "CryptSumsModel" "first" "[I", Cond.fieldLink RX5 26 "CryptSumsModel" "sets" "[I", Cond.methodLink RX5 35 yJ6_bitCount_0f7a4, Cond.static yJ6_bitCount_0f7a4, Cond.initialized RJ6, Cond.code yJ6_bitCount_0f7a4 cJ6_bitCount_0f7a4 1 (some .int)]
def wsX5_force_r3 : List Cond := [Cond.constant RJ6 265 (1431655765), Cond.constant RJ6 266 (858993459), Cond.constant RJ6 267 (252645135), Cond.methodLink RX5 115 yJ6_numberOfTrailingZeros_0f7a4, Cond.static yJ6_numberOfTrailingZeros_0f7a4, Cond.code yJ6_numberOfTrailingZeros_0f7a4 cJ6_numberOfTrailingZeros_0f7a4 2 (some .int), Cond.constant RJ6 264 (65536)]
def wsX5_force : List Cond := .code yX5_force cX5_force 3 (some .int) :: ((wsX5_force_r1 ++ (wsX5_force_r2 ++ wsX5_force_r3)) ++ wsX50)
def wsX5_stone : List Cond := .code yX5_stone cX5_stone 2 (some .int) :: ([.fieldLink RX5 47 "CryptSumsModel" "thrown" "I", .fieldLink RX5 16 "CryptSumsModel" "stones" "[I", .methodLink RX5 105 yX5_isCell, .instanceMethod yX5_isCell, .selects RX5 yX5_isCell yX5_isCell, .initialized RX5, .code yX5_isCell cX5_isCell 2 (some .boolean), .fieldLink RX5 7 "CryptSumsModel" "w" "I", .fieldLink RX5 13 "CryptSumsModel" "h" "I", .methodLink RX5 50 yX5_isIn, .static yX5_isIn, .code yX5_isIn cX5_isIn 3 (some .boolean), .methodLink RX5 102 yX5_no, .instanceMethod yX5_no, .selects RX5 yX5_no yX5_no, .code yX5_no cX5_no 2 (some .int)] ++ wsX50)
def wsX5_corridorTold_r1 : List Cond := [Cond.fieldLink RX5 16 "CryptSumsModel" "stones" "[I", Cond.fieldLink RX5 20 "CryptSumsModel" "sums" "[I", Cond.methodLink RX5 54 yX5_beginOf, Cond.instanceMethod yX5_beginOf, Cond.selects RX5 yX5_beginOf yX5_beginOf, Cond.initialized RX5, Cond.code yX5_beginOf cX5_beginOf 3 (some .int), Cond.fieldLink RX5 23 "CryptSumsModel" "begins" "[I", Cond.methodLink RX5 58 yX5_isOpen, Cond.instanceMethod yX5_isOpen, Cond.selects RX5 yX5_isOpen yX5_isOpen, Cond.code yX5_isOpen cX5_isOpen 2 (some .boolean), Cond.methodLink RX5 62 yX5_behind, Cond.instanceMethod yX5_behind, Cond.selects RX5 yX5_behind yX5_behind, Cond.code yX5_behind cX5_behind 3 (some .int), Cond.fieldLink RX5 7 "CryptSumsModel" "w" "I", Cond.fieldLink RX5 13 "CryptSumsModel" "h" "I", Cond.methodLink RX5 68 yX5_isWell, Cond.instanceMethod yX5_isWell, Cond.selects RX5 yX5_isWell yX5_isWell, Cond.code yX5_isWell cX5_isWell 8 (some .boolean), Cond.methodLink RX5 41 yX5_sumOf, Cond.static yX5_sumOf]
def wsX5_corridorTold_r2 : List Cond := [Cond.code yX5_sumOf cX5_sumOf 3 (some .int), Cond.methodLink RX5 65 yX5_isMade, Cond.instanceMethod yX5_isMade, Cond.selects RX5 yX5_isMade yX5_isMade, Cond.code yX5_isMade cX5_isMade 6 (some .boolean), Cond.fieldLink RX5 29 "CryptSumsModel" "first" "[I", Cond.fieldLink RX5 26 "CryptSumsModel" "sets" "[I"]
def wsX5_corridorTold : List Cond := .code yX5_corridorTold cX5_corridorTold 9 (some .int) :: ((wsX5_corridorTold_r1 ++ wsX5_corridorTold_r2) ++ wsX50)
def wsX5_corridor_r1 : List Cond := [Cond.fieldLink RX5 47 "CryptSumsModel" "thrown" "I", Cond.methodLink RX5 105 yX5_isCell, Cond.instanceMethod yX5_isCell, Cond.selects RX5 yX5_isCell yX5_isCell, Cond.initialized RX5, Cond.code yX5_isCell cX5_isCell 2 (some .boolean), Cond.fieldLink RX5 7 "CryptSumsModel" "w" "I", Cond.fieldLink RX5 13 "CryptSumsModel" "h" "I", Cond.methodLink RX5 50 yX5_isIn, Cond.static yX5_isIn, Cond.code yX5_isIn cX5_isIn 3 (some .boolean), Cond.methodLink RX5 118 yX5_corridorTold, Cond.instanceMethod yX5_corridorTold, Cond.selects RX5 yX5_corridorTold yX5_corridorTold, Cond.code yX5_corridorTold cX5_corridorTold 9 (some .int), Cond.fieldLink RX5 16 "CryptSumsModel" "stones" "[I", Cond.fieldLink RX5 20 "CryptSumsModel" "sums" "[I", Cond.methodLink RX5 54 yX5_beginOf, Cond.instanceMethod yX5_beginOf, Cond.selects RX5 yX5_beginOf yX5_beginOf, Cond.code yX5_beginOf cX5_beginOf 3 (some .int), Cond.fieldLink RX5 23 "CryptSumsModel" "begins" "[I", Cond.methodLink RX5 58 yX5_isOpen, Cond.instanceMethod yX5_isOpen]
def wsX5_corridor_r2 : List Cond := [Cond.selects RX5 yX5_isOpen yX5_isOpen, Cond.code yX5_isOpen cX5_isOpen 2 (some .boolean), Cond.methodLink RX5 62 yX5_behind, Cond.instanceMethod yX5_behind, Cond.selects RX5 yX5_behind yX5_behind, Cond.code yX5_behind cX5_behind 3 (some .int), Cond.methodLink RX5 68 yX5_isWell, Cond.instanceMethod yX5_isWell, Cond.selects RX5 yX5_isWell yX5_isWell, Cond.code yX5_isWell cX5_isWell 8 (some .boolean), Cond.methodLink RX5 41 yX5_sumOf, Cond.static yX5_sumOf, Cond.code yX5_sumOf cX5_sumOf 3 (some .int), Cond.methodLink RX5 65 yX5_isMade, Cond.instanceMethod yX5_isMade, Cond.selects RX5 yX5_isMade yX5_isMade, Cond.code yX5_isMade cX5_isMade 6 (some .boolean), Cond.fieldLink RX5 29 "CryptSumsModel" "first" "[I", Cond.fieldLink RX5 26 "CryptSumsModel" "sets" "[I", Cond.methodLink RX5 102 yX5_no, Cond.instanceMethod yX5_no, Cond.selects RX5 yX5_no yX5_no, Cond.code yX5_no cX5_no 2 (some .int)]
def wsX5_corridor : List Cond := .code yX5_corridor cX5_corridor 4 (some .int) :: ((wsX5_corridor_r1 ++ wsX5_corridor_r2) ++ wsX50)
def wsX5_can_r1 : List Cond := [Cond.fieldLink RX5 47 "CryptSumsModel" "thrown" "I", Cond.methodLink RX5 105 yX5_isCell, Cond.instanceMethod yX5_isCell, Cond.selects RX5 yX5_isCell yX5_isCell, Cond.initialized RX5, Cond.code yX5_isCell cX5_isCell 2 (some .boolean), Cond.fieldLink RX5 7 "CryptSumsModel" "w" "I", Cond.fieldLink RX5 13 "CryptSumsModel" "h" "I", Cond.methodLink RX5 50 yX5_isIn, Cond.static yX5_isIn, Cond.code yX5_isIn cX5_isIn 3 (some .boolean), Cond.methodLink RX5 108 yX5_canOf, Cond.instanceMethod yX5_canOf, Cond.selects RX5 yX5_canOf yX5_canOf, Cond.code yX5_canOf cX5_canOf 4 (some .int), Cond.fieldLink RX5 16 "CryptSumsModel" "stones" "[I", Cond.methodLink RX5 72 yX5_stands, Cond.instanceMethod yX5_stands, Cond.selects RX5 yX5_stands yX5_stands, Cond.code yX5_stands cX5_stands 4 (some .boolean), Cond.methodLink RX5 68 yX5_isWell, Cond.instanceMethod yX5_isWell, Cond.selects RX5 yX5_isWell yX5_isWell, Cond.code yX5_isWell cX5_isWell 8 (some .boolean)]
def wsX5_can_r2 : List Cond := [Cond.fieldLink RX5 20 "CryptSumsModel" "sums" "[I", Cond.methodLink RX5 54 yX5_beginOf, Cond.instanceMethod yX5_beginOf, Cond.selects RX5 yX5_beginOf yX5_beginOf, Cond.code yX5_beginOf cX5_beginOf 3 (some .int), Cond.fieldLink RX5 23 "CryptSumsModel" "begins" "[I", Cond.methodLink RX5 58 yX5_isOpen, Cond.instanceMethod yX5_isOpen, Cond.selects RX5 yX5_isOpen yX5_isOpen, Cond.code yX5_isOpen cX5_isOpen 2 (some .boolean), Cond.methodLink RX5 62 yX5_behind, Cond.instanceMethod yX5_behind, Cond.selects RX5 yX5_behind yX5_behind, Cond.code yX5_behind cX5_behind 3 (some .int), Cond.methodLink RX5 41 yX5_sumOf, Cond.static yX5_sumOf, Cond.code yX5_sumOf cX5_sumOf 3 (some .int), Cond.methodLink RX5 65 yX5_isMade, Cond.instanceMethod yX5_isMade, Cond.selects RX5 yX5_isMade yX5_isMade, Cond.code yX5_isMade cX5_isMade 6 (some .boolean), Cond.fieldLink RX5 29 "CryptSumsModel" "first" "[I", Cond.fieldLink RX5 26 "CryptSumsModel" "sets" "[I", Cond.methodLink RX5 102 yX5_no]
def wsX5_can_r3 : List Cond := [Cond.instanceMethod yX5_no, Cond.selects RX5 yX5_no yX5_no, Cond.code yX5_no cX5_no 2 (some .int)]
def wsX5_can : List Cond := .code yX5_can cX5_can 2 (some .int) :: ((wsX5_can_r1 ++ (wsX5_can_r2 ++ wsX5_can_r3)) ++ wsX50)
def wsX5_corridors_r1 : List Cond := [Cond.fieldLink RX5 7 "CryptSumsModel" "w" "I", Cond.fieldLink RX5 13 "CryptSumsModel" "h" "I", Cond.fieldLink RX5 16 "CryptSumsModel" "stones" "[I", Cond.fieldLink RX5 20 "CryptSumsModel" "sums" "[I", Cond.methodLink RX5 54 yX5_beginOf, Cond.instanceMethod yX5_beginOf, Cond.selects RX5 yX5_beginOf yX5_beginOf, Cond.initialized RX5, Cond.code yX5_beginOf cX5_beginOf 3 (some .int), Cond.fieldLink RX5 23 "CryptSumsModel" "begins" "[I", Cond.methodLink RX5 68 yX5_isWell, Cond.instanceMethod yX5_isWell, Cond.selects RX5 yX5_isWell yX5_isWell, Cond.code yX5_isWell cX5_isWell 8 (some .boolean), Cond.methodLink RX5 58 yX5_isOpen, Cond.instanceMethod yX5_isOpen, Cond.selects RX5 yX5_isOpen yX5_isOpen, Cond.code yX5_isOpen cX5_isOpen 2 (some .boolean), Cond.methodLink RX5 62 yX5_behind, Cond.instanceMethod yX5_behind, Cond.selects RX5 yX5_behind yX5_behind, Cond.code yX5_behind cX5_behind 3 (some .int), Cond.methodLink RX5 41 yX5_sumOf, Cond.static yX5_sumOf]
def wsX5_corridors_r2 : List Cond := [Cond.code yX5_sumOf cX5_sumOf 3 (some .int), Cond.methodLink RX5 65 yX5_isMade, Cond.instanceMethod yX5_isMade, Cond.selects RX5 yX5_isMade yX5_isMade, Cond.code yX5_isMade cX5_isMade 6 (some .boolean), Cond.fieldLink RX5 29 "CryptSumsModel" "first" "[I", Cond.fieldLink RX5 26 "CryptSumsModel" "sets" "[I"]
def wsX5_corridors : List Cond := .code yX5_corridors cX5_corridors 6 (some .int) :: ((wsX5_corridors_r1 ++ wsX5_corridors_r2) ++ wsX50)
def wsX5_counted_r1 : List Cond := [Cond.fieldLink RX5 7 "CryptSumsModel" "w" "I", Cond.fieldLink RX5 13 "CryptSumsModel" "h" "I", Cond.fieldLink RX5 16 "CryptSumsModel" "stones" "[I", Cond.methodLink RX5 122 yX5_corridors, Cond.instanceMethod yX5_corridors, Cond.selects RX5 yX5_corridors yX5_corridors, Cond.initialized RX5, Cond.code yX5_corridors cX5_corridors 6 (some .int), Cond.fieldLink RX5 20 "CryptSumsModel" "sums" "[I", Cond.methodLink RX5 54 yX5_beginOf, Cond.instanceMethod yX5_beginOf, Cond.selects RX5 yX5_beginOf yX5_beginOf, Cond.code yX5_beginOf cX5_beginOf 3 (some .int), Cond.fieldLink RX5 23 "CryptSumsModel" "begins" "[I", Cond.methodLink RX5 68 yX5_isWell, Cond.instanceMethod yX5_isWell, Cond.selects RX5 yX5_isWell yX5_isWell, Cond.code yX5_isWell cX5_isWell 8 (some .boolean), Cond.methodLink RX5 58 yX5_isOpen, Cond.instanceMethod yX5_isOpen, Cond.selects RX5 yX5_isOpen yX5_isOpen, Cond.code yX5_isOpen cX5_isOpen 2 (some .boolean), Cond.methodLink RX5 62 yX5_behind, Cond.instanceMethod yX5_behind]
def wsX5_counted_r2 : List Cond := [Cond.selects RX5 yX5_behind yX5_behind, Cond.code yX5_behind cX5_behind 3 (some .int), Cond.methodLink RX5 41 yX5_sumOf, Cond.static yX5_sumOf, Cond.code yX5_sumOf cX5_sumOf 3 (some .int), Cond.methodLink RX5 65 yX5_isMade, Cond.instanceMethod yX5_isMade, Cond.selects RX5 yX5_isMade yX5_isMade, Cond.code yX5_isMade cX5_isMade 6 (some .boolean), Cond.fieldLink RX5 29 "CryptSumsModel" "first" "[I", Cond.fieldLink RX5 26 "CryptSumsModel" "sets" "[I", Cond.methodLink RX5 108 yX5_canOf, Cond.instanceMethod yX5_canOf, Cond.selects RX5 yX5_canOf yX5_canOf, Cond.code yX5_canOf cX5_canOf 4 (some .int), Cond.methodLink RX5 72 yX5_stands, Cond.instanceMethod yX5_stands, Cond.selects RX5 yX5_stands yX5_stands, Cond.code yX5_stands cX5_stands 4 (some .boolean), Cond.methodLink RX5 35 yJ6_bitCount_0f7a4, Cond.static yJ6_bitCount_0f7a4, Cond.initialized RJ6, Cond.code yJ6_bitCount_0f7a4 cJ6_bitCount_0f7a4 1 (some .int), Cond.constant RJ6 265 (1431655765)]
def wsX5_counted_r3 : List Cond := [Cond.constant RJ6 266 (858993459), Cond.constant RJ6 267 (252645135)]
def wsX5_counted : List Cond := .code yX5_counted cX5_counted 4 (some .int) :: ((wsX5_counted_r1 ++ (wsX5_counted_r2 ++ wsX5_counted_r3)) ++ wsX50)
def wsX5_count_r1 : List Cond := [Cond.fieldLink RX5 47 "CryptSumsModel" "thrown" "I", Cond.methodLink RX5 50 yX5_isIn, Cond.static yX5_isIn, Cond.initialized RX5, Cond.code yX5_isIn cX5_isIn 3 (some .boolean), Cond.methodLink RX5 125 yX5_counted, Cond.instanceMethod yX5_counted, Cond.selects RX5 yX5_counted yX5_counted, Cond.code yX5_counted cX5_counted 4 (some .int), Cond.fieldLink RX5 7 "CryptSumsModel" "w" "I", Cond.fieldLink RX5 13 "CryptSumsModel" "h" "I", Cond.fieldLink RX5 16 "CryptSumsModel" "stones" "[I", Cond.methodLink RX5 122 yX5_corridors, Cond.instanceMethod yX5_corridors, Cond.selects RX5 yX5_corridors yX5_corridors, Cond.code yX5_corridors cX5_corridors 6 (some .int), Cond.fieldLink RX5 20 "CryptSumsModel" "sums" "[I", Cond.methodLink RX5 54 yX5_beginOf, Cond.instanceMethod yX5_beginOf, Cond.selects RX5 yX5_beginOf yX5_beginOf, Cond.code yX5_beginOf cX5_beginOf 3 (some .int), Cond.fieldLink RX5 23 "CryptSumsModel" "begins" "[I", Cond.methodLink RX5 68 yX5_isWell, Cond.instanceMethod yX5_isWell]
def wsX5_count_r2 : List Cond := [Cond.selects RX5 yX5_isWell yX5_isWell, Cond.code yX5_isWell cX5_isWell 8 (some .boolean), Cond.methodLink RX5 58 yX5_isOpen, Cond.instanceMethod yX5_isOpen, Cond.selects RX5 yX5_isOpen yX5_isOpen, Cond.code yX5_isOpen cX5_isOpen 2 (some .boolean), Cond.methodLink RX5 62 yX5_behind, Cond.instanceMethod yX5_behind, Cond.selects RX5 yX5_behind yX5_behind, Cond.code yX5_behind cX5_behind 3 (some .int), Cond.methodLink RX5 41 yX5_sumOf, Cond.static yX5_sumOf, Cond.code yX5_sumOf cX5_sumOf 3 (some .int), Cond.methodLink RX5 65 yX5_isMade, Cond.instanceMethod yX5_isMade, Cond.selects RX5 yX5_isMade yX5_isMade, Cond.code yX5_isMade cX5_isMade 6 (some .boolean), Cond.fieldLink RX5 29 "CryptSumsModel" "first" "[I", Cond.fieldLink RX5 26 "CryptSumsModel" "sets" "[I", Cond.methodLink RX5 108 yX5_canOf, Cond.instanceMethod yX5_canOf, Cond.selects RX5 yX5_canOf yX5_canOf, Cond.code yX5_canOf cX5_canOf 4 (some .int), Cond.methodLink RX5 72 yX5_stands]
def wsX5_count_r3 : List Cond := [Cond.instanceMethod yX5_stands, Cond.selects RX5 yX5_stands yX5_stands, Cond.code yX5_stands cX5_stands 4 (some .boolean), Cond.methodLink RX5 35 yJ6_bitCount_0f7a4, Cond.static yJ6_bitCount_0f7a4, Cond.initialized RJ6, Cond.code yJ6_bitCount_0f7a4 cJ6_bitCount_0f7a4 1 (some .int), Cond.constant RJ6 265 (1431655765), Cond.constant RJ6 266 (858993459), Cond.constant RJ6 267 (252645135), Cond.methodLink RX5 102 yX5_no, Cond.instanceMethod yX5_no, Cond.selects RX5 yX5_no yX5_no, Cond.code yX5_no cX5_no 2 (some .int)]
def wsX5_count : List Cond := .code yX5_count cX5_count 2 (some .int) :: ((wsX5_count_r1 ++ (wsX5_count_r2 ++ wsX5_count_r3)) ++ wsX50)
def wsX5_forcedOf : List Cond := .code yX5_forcedOf cX5_forcedOf 6 (some .int) :: ([.fieldLink RX5 29 "CryptSumsModel" "first" "[I", .fieldLink RX5 26 "CryptSumsModel" "sets" "[I"] ++ wsX50)
def wsX5_ways : List Cond := .code yX5_ways cX5_ways 3 (some .int) :: ([.fieldLink RX5 47 "CryptSumsModel" "thrown" "I", .fieldLink RX5 29 "CryptSumsModel" "first" "[I", .methodLink RX5 50 yX5_isIn, .static yX5_isIn, .initialized RX5, .code yX5_isIn cX5_isIn 3 (some .boolean), .methodLink RX5 102 yX5_no, .instanceMethod yX5_no, .selects RX5 yX5_no yX5_no, .code yX5_no cX5_no 2 (some .int)] ++ wsX50)
def wsX5_forced : List Cond := .code yX5_forced cX5_forced 3 (some .int) :: ([.fieldLink RX5 47 "CryptSumsModel" "thrown" "I", .methodLink RX5 50 yX5_isIn, .static yX5_isIn, .initialized RX5, .code yX5_isIn cX5_isIn 3 (some .boolean), .methodLink RX5 128 yX5_forcedOf, .instanceMethod yX5_forcedOf, .selects RX5 yX5_forcedOf yX5_forcedOf, .code yX5_forcedOf cX5_forcedOf 6 (some .int), .fieldLink RX5 29 "CryptSumsModel" "first" "[I", .fieldLink RX5 26 "CryptSumsModel" "sets" "[I", .methodLink RX5 102 yX5_no, .instanceMethod yX5_no, .selects RX5 yX5_no yX5_no, .code yX5_no cX5_no 2 (some .int)] ++ wsX50)
def wsX5_fillings_r1 : List Cond := [Cond.fieldLink RX5 47 "CryptSumsModel" "thrown" "I", Cond.methodLink RX5 131 yX5_look, Cond.instanceMethod yX5_look, Cond.selects RX5 yX5_look yX5_look, Cond.initialized RX5, Cond.code yX5_look cX5_look 2 none, Cond.fieldLink RX5 92 "CryptSumsModel" "tries" "I", Cond.fieldLink RX5 79 "CryptSumsModel" "ways" "I", Cond.fieldLink RX5 75 "CryptSumsModel" "isLong" "Z", Cond.fieldLink RX5 32 "CryptSumsModel" "filled" "[I", Cond.methodLink RX5 99 yX5_isAllWell, Cond.instanceMethod yX5_isAllWell, Cond.selects RX5 yX5_isAllWell yX5_isAllWell, Cond.code yX5_isAllWell cX5_isAllWell 2 (some .boolean), Cond.fieldLink RX5 7 "CryptSumsModel" "w" "I", Cond.fieldLink RX5 13 "CryptSumsModel" "h" "I", Cond.fieldLink RX5 16 "CryptSumsModel" "stones" "[I", Cond.methodLink RX5 68 yX5_isWell, Cond.instanceMethod yX5_isWell, Cond.selects RX5 yX5_isWell yX5_isWell, Cond.code yX5_isWell cX5_isWell 8 (some .boolean), Cond.fieldLink RX5 20 "CryptSumsModel" "sums" "[I", Cond.methodLink RX5 54 yX5_beginOf, Cond.instanceMethod yX5_beginOf]
def wsX5_fillings_r2 : List Cond := [Cond.selects RX5 yX5_beginOf yX5_beginOf, Cond.code yX5_beginOf cX5_beginOf 3 (some .int), Cond.fieldLink RX5 23 "CryptSumsModel" "begins" "[I", Cond.methodLink RX5 58 yX5_isOpen, Cond.instanceMethod yX5_isOpen, Cond.selects RX5 yX5_isOpen yX5_isOpen, Cond.code yX5_isOpen cX5_isOpen 2 (some .boolean), Cond.methodLink RX5 62 yX5_behind, Cond.instanceMethod yX5_behind, Cond.selects RX5 yX5_behind yX5_behind, Cond.code yX5_behind cX5_behind 3 (some .int), Cond.methodLink RX5 41 yX5_sumOf, Cond.static yX5_sumOf, Cond.code yX5_sumOf cX5_sumOf 3 (some .int), Cond.methodLink RX5 65 yX5_isMade, Cond.instanceMethod yX5_isMade, Cond.selects RX5 yX5_isMade yX5_isMade, Cond.code yX5_isMade cX5_isMade 6 (some .boolean), Cond.fieldLink RX5 29 "CryptSumsModel" "first" "[I", Cond.fieldLink RX5 26 "CryptSumsModel" "sets" "[I", Cond.methodLink RX5 95 yX5_fill, Cond.instanceMethod yX5_fill, Cond.selects RX5 yX5_fill yX5_fill, Cond.code yX5_fill cX5_fill 4 none]
def wsX5_fillings_r3 : List Cond := [Cond.methodLink RX5 82 arraycopyName, Cond.native arraycopyName, Cond.static arraycopyName, Cond.initialized "java/lang/System", Cond.methodLink RX5 88 yX5_isOver, Cond.instanceMethod yX5_isOver, Cond.selects RX5 yX5_isOver yX5_isOver, Cond.code yX5_isOver cX5_isOver 1 (some .boolean), Cond.methodLink RX5 72 yX5_stands, Cond.instanceMethod yX5_stands, Cond.selects RX5 yX5_stands yX5_stands, Cond.code yX5_stands cX5_stands 4 (some .boolean), Cond.methodLink RX5 134 yX5_told, Cond.instanceMethod yX5_told, Cond.selects RX5 yX5_told yX5_told, Cond.code yX5_told cX5_told 1 (some .int)]
def wsX5_fillings : List Cond := .code yX5_fillings cX5_fillings 1 (some .int) :: ((wsX5_fillings_r1 ++ (wsX5_fillings_r2 ++ wsX5_fillings_r3)) ++ wsX50)
def wsX5_tries_r1 : List Cond := [Cond.fieldLink RX5 47 "CryptSumsModel" "thrown" "I", Cond.fieldLink RX5 92 "CryptSumsModel" "tries" "I", Cond.methodLink RX5 131 yX5_look, Cond.instanceMethod yX5_look, Cond.selects RX5 yX5_look yX5_look, Cond.initialized RX5, Cond.code yX5_look cX5_look 2 none, Cond.fieldLink RX5 79 "CryptSumsModel" "ways" "I", Cond.fieldLink RX5 75 "CryptSumsModel" "isLong" "Z", Cond.fieldLink RX5 32 "CryptSumsModel" "filled" "[I", Cond.methodLink RX5 99 yX5_isAllWell, Cond.instanceMethod yX5_isAllWell, Cond.selects RX5 yX5_isAllWell yX5_isAllWell, Cond.code yX5_isAllWell cX5_isAllWell 2 (some .boolean), Cond.fieldLink RX5 7 "CryptSumsModel" "w" "I", Cond.fieldLink RX5 13 "CryptSumsModel" "h" "I", Cond.fieldLink RX5 16 "CryptSumsModel" "stones" "[I", Cond.methodLink RX5 68 yX5_isWell, Cond.instanceMethod yX5_isWell, Cond.selects RX5 yX5_isWell yX5_isWell, Cond.code yX5_isWell cX5_isWell 8 (some .boolean), Cond.fieldLink RX5 20 "CryptSumsModel" "sums" "[I", Cond.methodLink RX5 54 yX5_beginOf, Cond.instanceMethod yX5_beginOf]
def wsX5_tries_r2 : List Cond := [Cond.selects RX5 yX5_beginOf yX5_beginOf, Cond.code yX5_beginOf cX5_beginOf 3 (some .int), Cond.fieldLink RX5 23 "CryptSumsModel" "begins" "[I", Cond.methodLink RX5 58 yX5_isOpen, Cond.instanceMethod yX5_isOpen, Cond.selects RX5 yX5_isOpen yX5_isOpen, Cond.code yX5_isOpen cX5_isOpen 2 (some .boolean), Cond.methodLink RX5 62 yX5_behind, Cond.instanceMethod yX5_behind, Cond.selects RX5 yX5_behind yX5_behind, Cond.code yX5_behind cX5_behind 3 (some .int), Cond.methodLink RX5 41 yX5_sumOf, Cond.static yX5_sumOf, Cond.code yX5_sumOf cX5_sumOf 3 (some .int), Cond.methodLink RX5 65 yX5_isMade, Cond.instanceMethod yX5_isMade, Cond.selects RX5 yX5_isMade yX5_isMade, Cond.code yX5_isMade cX5_isMade 6 (some .boolean), Cond.fieldLink RX5 29 "CryptSumsModel" "first" "[I", Cond.fieldLink RX5 26 "CryptSumsModel" "sets" "[I", Cond.methodLink RX5 95 yX5_fill, Cond.instanceMethod yX5_fill, Cond.selects RX5 yX5_fill yX5_fill, Cond.code yX5_fill cX5_fill 4 none]
def wsX5_tries_r3 : List Cond := [Cond.methodLink RX5 82 arraycopyName, Cond.native arraycopyName, Cond.static arraycopyName, Cond.initialized "java/lang/System", Cond.methodLink RX5 88 yX5_isOver, Cond.instanceMethod yX5_isOver, Cond.selects RX5 yX5_isOver yX5_isOver, Cond.code yX5_isOver cX5_isOver 1 (some .boolean), Cond.methodLink RX5 72 yX5_stands, Cond.instanceMethod yX5_stands, Cond.selects RX5 yX5_stands yX5_stands, Cond.code yX5_stands cX5_stands 4 (some .boolean)]
def wsX5_tries : List Cond := .code yX5_tries cX5_tries 1 (some .int) :: ((wsX5_tries_r1 ++ (wsX5_tries_r2 ++ wsX5_tries_r3)) ++ wsX50)
def wsX5_solvedAt_r1 : List Cond := [Cond.fieldLink RX5 75 "CryptSumsModel" "isLong" "Z", Cond.fieldLink RX5 79 "CryptSumsModel" "ways" "I", Cond.fieldLink RX5 16 "CryptSumsModel" "stones" "[I", Cond.fieldLink RX5 32 "CryptSumsModel" "filled" "[I", Cond.methodLink RX5 131 yX5_look, Cond.instanceMethod yX5_look, Cond.selects RX5 yX5_look yX5_look, Cond.initialized RX5, Cond.code yX5_look cX5_look 2 none, Cond.fieldLink RX5 92 "CryptSumsModel" "tries" "I", Cond.methodLink RX5 99 yX5_isAllWell, Cond.instanceMethod yX5_isAllWell, Cond.selects RX5 yX5_isAllWell yX5_isAllWell, Cond.code yX5_isAllWell cX5_isAllWell 2 (some .boolean), Cond.fieldLink RX5 7 "CryptSumsModel" "w" "I", Cond.fieldLink RX5 13 "CryptSumsModel" "h" "I", Cond.methodLink RX5 68 yX5_isWell, Cond.instanceMethod yX5_isWell, Cond.selects RX5 yX5_isWell yX5_isWell, Cond.code yX5_isWell cX5_isWell 8 (some .boolean), Cond.fieldLink RX5 20 "CryptSumsModel" "sums" "[I", Cond.methodLink RX5 54 yX5_beginOf, Cond.instanceMethod yX5_beginOf, Cond.selects RX5 yX5_beginOf yX5_beginOf]
def wsX5_solvedAt_r2 : List Cond := [Cond.code yX5_beginOf cX5_beginOf 3 (some .int), Cond.fieldLink RX5 23 "CryptSumsModel" "begins" "[I", Cond.methodLink RX5 58 yX5_isOpen, Cond.instanceMethod yX5_isOpen, Cond.selects RX5 yX5_isOpen yX5_isOpen, Cond.code yX5_isOpen cX5_isOpen 2 (some .boolean), Cond.methodLink RX5 62 yX5_behind, Cond.instanceMethod yX5_behind, Cond.selects RX5 yX5_behind yX5_behind, Cond.code yX5_behind cX5_behind 3 (some .int), Cond.methodLink RX5 41 yX5_sumOf, Cond.static yX5_sumOf, Cond.code yX5_sumOf cX5_sumOf 3 (some .int), Cond.methodLink RX5 65 yX5_isMade, Cond.instanceMethod yX5_isMade, Cond.selects RX5 yX5_isMade yX5_isMade, Cond.code yX5_isMade cX5_isMade 6 (some .boolean), Cond.fieldLink RX5 29 "CryptSumsModel" "first" "[I", Cond.fieldLink RX5 26 "CryptSumsModel" "sets" "[I", Cond.methodLink RX5 95 yX5_fill, Cond.instanceMethod yX5_fill, Cond.selects RX5 yX5_fill yX5_fill, Cond.code yX5_fill cX5_fill 4 none, Cond.methodLink RX5 82 arraycopyName]
def wsX5_solvedAt_r3 : List Cond := [Cond.native arraycopyName, Cond.static arraycopyName, Cond.initialized "java/lang/System", Cond.methodLink RX5 88 yX5_isOver, Cond.instanceMethod yX5_isOver, Cond.selects RX5 yX5_isOver yX5_isOver, Cond.code yX5_isOver cX5_isOver 1 (some .boolean), Cond.methodLink RX5 72 yX5_stands, Cond.instanceMethod yX5_stands, Cond.selects RX5 yX5_stands yX5_stands, Cond.code yX5_stands cX5_stands 4 (some .boolean)]
def wsX5_solvedAt : List Cond := .code yX5_solvedAt cX5_solvedAt 2 (some .int) :: ((wsX5_solvedAt_r1 ++ (wsX5_solvedAt_r2 ++ wsX5_solvedAt_r3)) ++ wsX50)
def wsX5_solved_r1 : List Cond := [Cond.fieldLink RX5 47 "CryptSumsModel" "thrown" "I", Cond.methodLink RX5 105 yX5_isCell, Cond.instanceMethod yX5_isCell, Cond.selects RX5 yX5_isCell yX5_isCell, Cond.initialized RX5, Cond.code yX5_isCell cX5_isCell 2 (some .boolean), Cond.fieldLink RX5 7 "CryptSumsModel" "w" "I", Cond.fieldLink RX5 13 "CryptSumsModel" "h" "I", Cond.methodLink RX5 50 yX5_isIn, Cond.static yX5_isIn, Cond.code yX5_isIn cX5_isIn 3 (some .boolean), Cond.methodLink RX5 137 yX5_solvedAt, Cond.instanceMethod yX5_solvedAt, Cond.selects RX5 yX5_solvedAt yX5_solvedAt, Cond.code yX5_solvedAt cX5_solvedAt 2 (some .int), Cond.fieldLink RX5 75 "CryptSumsModel" "isLong" "Z", Cond.fieldLink RX5 79 "CryptSumsModel" "ways" "I", Cond.fieldLink RX5 16 "CryptSumsModel" "stones" "[I", Cond.fieldLink RX5 32 "CryptSumsModel" "filled" "[I", Cond.methodLink RX5 131 yX5_look, Cond.instanceMethod yX5_look, Cond.selects RX5 yX5_look yX5_look, Cond.code yX5_look cX5_look 2 none, Cond.fieldLink RX5 92 "CryptSumsModel" "tries" "I"]
def wsX5_solved_r2 : List Cond := [Cond.methodLink RX5 99 yX5_isAllWell, Cond.instanceMethod yX5_isAllWell, Cond.selects RX5 yX5_isAllWell yX5_isAllWell, Cond.code yX5_isAllWell cX5_isAllWell 2 (some .boolean), Cond.methodLink RX5 68 yX5_isWell, Cond.instanceMethod yX5_isWell, Cond.selects RX5 yX5_isWell yX5_isWell, Cond.code yX5_isWell cX5_isWell 8 (some .boolean), Cond.fieldLink RX5 20 "CryptSumsModel" "sums" "[I", Cond.methodLink RX5 54 yX5_beginOf, Cond.instanceMethod yX5_beginOf, Cond.selects RX5 yX5_beginOf yX5_beginOf, Cond.code yX5_beginOf cX5_beginOf 3 (some .int), Cond.fieldLink RX5 23 "CryptSumsModel" "begins" "[I", Cond.methodLink RX5 58 yX5_isOpen, Cond.instanceMethod yX5_isOpen, Cond.selects RX5 yX5_isOpen yX5_isOpen, Cond.code yX5_isOpen cX5_isOpen 2 (some .boolean), Cond.methodLink RX5 62 yX5_behind, Cond.instanceMethod yX5_behind, Cond.selects RX5 yX5_behind yX5_behind, Cond.code yX5_behind cX5_behind 3 (some .int), Cond.methodLink RX5 41 yX5_sumOf, Cond.static yX5_sumOf]
def wsX5_solved_r3 : List Cond := [Cond.code yX5_sumOf cX5_sumOf 3 (some .int), Cond.methodLink RX5 65 yX5_isMade, Cond.instanceMethod yX5_isMade, Cond.selects RX5 yX5_isMade yX5_isMade, Cond.code yX5_isMade cX5_isMade 6 (some .boolean), Cond.fieldLink RX5 29 "CryptSumsModel" "first" "[I", Cond.fieldLink RX5 26 "CryptSumsModel" "sets" "[I", Cond.methodLink RX5 95 yX5_fill, Cond.instanceMethod yX5_fill, Cond.selects RX5 yX5_fill yX5_fill, Cond.code yX5_fill cX5_fill 4 none, Cond.methodLink RX5 82 arraycopyName, Cond.native arraycopyName, Cond.static arraycopyName, Cond.initialized "java/lang/System", Cond.methodLink RX5 88 yX5_isOver, Cond.instanceMethod yX5_isOver, Cond.selects RX5 yX5_isOver yX5_isOver, Cond.code yX5_isOver cX5_isOver 1 (some .boolean), Cond.methodLink RX5 72 yX5_stands, Cond.instanceMethod yX5_stands, Cond.selects RX5 yX5_stands yX5_stands, Cond.code yX5_stands cX5_stands 4 (some .boolean), Cond.methodLink RX5 102 yX5_no]
def wsX5_solved_r4 : List Cond := [Cond.instanceMethod yX5_no, Cond.selects RX5 yX5_no yX5_no, Cond.code yX5_no cX5_no 2 (some .int)]
def wsX5_solved : List Cond := .code yX5_solved cX5_solved 2 (some .int) :: ((wsX5_solved_r1 ++ (wsX5_solved_r2 ++ (wsX5_solved_r3 ++ wsX5_solved_r4))) ++ wsX50)
def wsX5_next_r1 : List Cond := [Cond.fieldLink RX5 47 "CryptSumsModel" "thrown" "I", Cond.fieldLink RX5 7 "CryptSumsModel" "w" "I", Cond.fieldLink RX5 13 "CryptSumsModel" "h" "I", Cond.fieldLink RX5 16 "CryptSumsModel" "stones" "[I", Cond.methodLink RX5 108 yX5_canOf, Cond.instanceMethod yX5_canOf, Cond.selects RX5 yX5_canOf yX5_canOf, Cond.initialized RX5, Cond.code yX5_canOf cX5_canOf 4 (some .int), Cond.methodLink RX5 72 yX5_stands, Cond.instanceMethod yX5_stands, Cond.selects RX5 yX5_stands yX5_stands, Cond.code yX5_stands cX5_stands 4 (some .boolean), Cond.methodLink RX5 68 yX5_isWell, Cond.instanceMethod yX5_isWell, Cond.selects RX5 yX5_isWell yX5_isWell, Cond.code yX5_isWell cX5_isWell 8 (some .boolean), Cond.fieldLink RX5 20 "CryptSumsModel" "sums" "[I", Cond.methodLink RX5 54 yX5_beginOf, Cond.instanceMethod yX5_beginOf, Cond.selects RX5 yX5_beginOf yX5_beginOf, Cond.code yX5_beginOf cX5_beginOf 3 (some .int), Cond.fieldLink RX5 23 "CryptSumsModel" "begins" "[I", Cond.methodLink RX5 58 yX5_isOpen]
def wsX5_next_r2 : List Cond := [Cond.instanceMethod yX5_isOpen, Cond.selects RX5 yX5_isOpen yX5_isOpen, Cond.code yX5_isOpen cX5_isOpen 2 (some .boolean), Cond.methodLink RX5 62 yX5_behind, Cond.instanceMethod yX5_behind, Cond.selects RX5 yX5_behind yX5_behind, Cond.code yX5_behind cX5_behind 3 (some .int), Cond.methodLink RX5 41 yX5_sumOf, Cond.static yX5_sumOf, Cond.code yX5_sumOf cX5_sumOf 3 (some .int), Cond.methodLink RX5 65 yX5_isMade, Cond.instanceMethod yX5_isMade, Cond.selects RX5 yX5_isMade yX5_isMade, Cond.code yX5_isMade cX5_isMade 6 (some .boolean), Cond.fieldLink RX5 29 "CryptSumsModel" "first" "[I", Cond.fieldLink RX5 26 "CryptSumsModel" "sets" "[I", Cond.methodLink RX5 35 yJ6_bitCount_0f7a4, Cond.static yJ6_bitCount_0f7a4, Cond.initialized RJ6, Cond.code yJ6_bitCount_0f7a4 cJ6_bitCount_0f7a4 1 (some .int), Cond.constant RJ6 265 (1431655765), Cond.constant RJ6 266 (858993459), Cond.constant RJ6 267 (252645135)]
def wsX5_next : List Cond := .code yX5_next cX5_next 5 (some .int) :: ((wsX5_next_r1 ++ wsX5_next_r2) ++ wsX50)
def wsX5_would_r1 : List Cond := [Cond.fieldLink RX5 47 "CryptSumsModel" "thrown" "I", Cond.fieldLink RX5 16 "CryptSumsModel" "stones" "[I", Cond.methodLink RX5 105 yX5_isCell, Cond.instanceMethod yX5_isCell, Cond.selects RX5 yX5_isCell yX5_isCell, Cond.initialized RX5, Cond.code yX5_isCell cX5_isCell 2 (some .boolean), Cond.fieldLink RX5 7 "CryptSumsModel" "w" "I", Cond.fieldLink RX5 13 "CryptSumsModel" "h" "I", Cond.methodLink RX5 50 yX5_isIn, Cond.static yX5_isIn, Cond.code yX5_isIn cX5_isIn 3 (some .boolean), Cond.methodLink RX5 102 yX5_no, Cond.instanceMethod yX5_no, Cond.selects RX5 yX5_no yX5_no, Cond.code yX5_no cX5_no 2 (some .int), Cond.methodLink RX5 131 yX5_look, Cond.instanceMethod yX5_look, Cond.selects RX5 yX5_look yX5_look, Cond.code yX5_look cX5_look 2 none, Cond.fieldLink RX5 92 "CryptSumsModel" "tries" "I", Cond.fieldLink RX5 79 "CryptSumsModel" "ways" "I", Cond.fieldLink RX5 75 "CryptSumsModel" "isLong" "Z", Cond.fieldLink RX5 32 "CryptSumsModel" "filled" "[I"]
def wsX5_would_r2 : List Cond := [Cond.methodLink RX5 99 yX5_isAllWell, Cond.instanceMethod yX5_isAllWell, Cond.selects RX5 yX5_isAllWell yX5_isAllWell, Cond.code yX5_isAllWell cX5_isAllWell 2 (some .boolean), Cond.methodLink RX5 68 yX5_isWell, Cond.instanceMethod yX5_isWell, Cond.selects RX5 yX5_isWell yX5_isWell, Cond.code yX5_isWell cX5_isWell 8 (some .boolean), Cond.fieldLink RX5 20 "CryptSumsModel" "sums" "[I", Cond.methodLink RX5 54 yX5_beginOf, Cond.instanceMethod yX5_beginOf, Cond.selects RX5 yX5_beginOf yX5_beginOf, Cond.code yX5_beginOf cX5_beginOf 3 (some .int), Cond.fieldLink RX5 23 "CryptSumsModel" "begins" "[I", Cond.methodLink RX5 58 yX5_isOpen, Cond.instanceMethod yX5_isOpen, Cond.selects RX5 yX5_isOpen yX5_isOpen, Cond.code yX5_isOpen cX5_isOpen 2 (some .boolean), Cond.methodLink RX5 62 yX5_behind, Cond.instanceMethod yX5_behind, Cond.selects RX5 yX5_behind yX5_behind, Cond.code yX5_behind cX5_behind 3 (some .int), Cond.methodLink RX5 41 yX5_sumOf, Cond.static yX5_sumOf]
def wsX5_would_r3 : List Cond := [Cond.code yX5_sumOf cX5_sumOf 3 (some .int), Cond.methodLink RX5 65 yX5_isMade, Cond.instanceMethod yX5_isMade, Cond.selects RX5 yX5_isMade yX5_isMade, Cond.code yX5_isMade cX5_isMade 6 (some .boolean), Cond.fieldLink RX5 29 "CryptSumsModel" "first" "[I", Cond.fieldLink RX5 26 "CryptSumsModel" "sets" "[I", Cond.methodLink RX5 95 yX5_fill, Cond.instanceMethod yX5_fill, Cond.selects RX5 yX5_fill yX5_fill, Cond.code yX5_fill cX5_fill 4 none, Cond.methodLink RX5 82 arraycopyName, Cond.native arraycopyName, Cond.static arraycopyName, Cond.initialized "java/lang/System", Cond.methodLink RX5 88 yX5_isOver, Cond.instanceMethod yX5_isOver, Cond.selects RX5 yX5_isOver yX5_isOver, Cond.code yX5_isOver cX5_isOver 1 (some .boolean), Cond.methodLink RX5 72 yX5_stands, Cond.instanceMethod yX5_stands, Cond.selects RX5 yX5_stands yX5_stands, Cond.code yX5_stands cX5_stands 4 (some .boolean), Cond.methodLink RX5 134 yX5_told]
def wsX5_would_r4 : List Cond := [Cond.instanceMethod yX5_told, Cond.selects RX5 yX5_told yX5_told, Cond.code yX5_told cX5_told 1 (some .int)]
def wsX5_would : List Cond := .code yX5_would cX5_would 4 (some .int) :: ((wsX5_would_r1 ++ (wsX5_would_r2 ++ (wsX5_would_r3 ++ wsX5_would_r4))) ++ wsX50)
def wsX5_mean_r1 : List Cond := [Cond.fieldLink RX5 47 "CryptSumsModel" "thrown" "I", Cond.fieldLink RX5 7 "CryptSumsModel" "w" "I", Cond.fieldLink RX5 13 "CryptSumsModel" "h" "I", Cond.fieldLink RX5 16 "CryptSumsModel" "stones" "[I", Cond.methodLink RX5 108 yX5_canOf, Cond.instanceMethod yX5_canOf, Cond.selects RX5 yX5_canOf yX5_canOf, Cond.initialized RX5, Cond.code yX5_canOf cX5_canOf 4 (some .int), Cond.methodLink RX5 72 yX5_stands, Cond.instanceMethod yX5_stands, Cond.selects RX5 yX5_stands yX5_stands, Cond.code yX5_stands cX5_stands 4 (some .boolean), Cond.methodLink RX5 68 yX5_isWell, Cond.instanceMethod yX5_isWell, Cond.selects RX5 yX5_isWell yX5_isWell, Cond.code yX5_isWell cX5_isWell 8 (some .boolean), Cond.fieldLink RX5 20 "CryptSumsModel" "sums" "[I", Cond.methodLink RX5 54 yX5_beginOf, Cond.instanceMethod yX5_beginOf, Cond.selects RX5 yX5_beginOf yX5_beginOf, Cond.code yX5_beginOf cX5_beginOf 3 (some .int), Cond.fieldLink RX5 23 "CryptSumsModel" "begins" "[I", Cond.methodLink RX5 58 yX5_isOpen]
def wsX5_mean_r2 : List Cond := [Cond.instanceMethod yX5_isOpen, Cond.selects RX5 yX5_isOpen yX5_isOpen, Cond.code yX5_isOpen cX5_isOpen 2 (some .boolean), Cond.methodLink RX5 62 yX5_behind, Cond.instanceMethod yX5_behind, Cond.selects RX5 yX5_behind yX5_behind, Cond.code yX5_behind cX5_behind 3 (some .int), Cond.methodLink RX5 41 yX5_sumOf, Cond.static yX5_sumOf, Cond.code yX5_sumOf cX5_sumOf 3 (some .int), Cond.methodLink RX5 65 yX5_isMade, Cond.instanceMethod yX5_isMade, Cond.selects RX5 yX5_isMade yX5_isMade, Cond.code yX5_isMade cX5_isMade 6 (some .boolean), Cond.fieldLink RX5 29 "CryptSumsModel" "first" "[I", Cond.fieldLink RX5 26 "CryptSumsModel" "sets" "[I", Cond.methodLink RX5 35 yJ6_bitCount_0f7a4, Cond.static yJ6_bitCount_0f7a4, Cond.initialized RJ6, Cond.code yJ6_bitCount_0f7a4 cJ6_bitCount_0f7a4 1 (some .int), Cond.constant RJ6 265 (1431655765), Cond.constant RJ6 266 (858993459), Cond.constant RJ6 267 (252645135)]
def wsX5_mean : List Cond := .code yX5_mean cX5_mean 4 (some .double) :: ((wsX5_mean_r1 ++ wsX5_mean_r2) ++ wsX50)
def wsX5_digest_r1 : List Cond := [Cond.fieldLink RX5 47 "CryptSumsModel" "thrown" "I", Cond.constantLong RX5 140 (1663), Cond.constantLong RX5 142 (31), Cond.fieldLink RX5 7 "CryptSumsModel" "w" "I", Cond.fieldLink RX5 13 "CryptSumsModel" "h" "I", Cond.fieldLink RX5 16 "CryptSumsModel" "stones" "[I", Cond.fieldLink RX5 20 "CryptSumsModel" "sums" "[I", Cond.fieldLink RX5 92 "CryptSumsModel" "tries" "I", Cond.methodLink RX5 125 yX5_counted, Cond.instanceMethod yX5_counted, Cond.selects RX5 yX5_counted yX5_counted, Cond.initialized RX5, Cond.code yX5_counted cX5_counted 4 (some .int), Cond.methodLink RX5 122 yX5_corridors, Cond.instanceMethod yX5_corridors, Cond.selects RX5 yX5_corridors yX5_corridors, Cond.code yX5_corridors cX5_corridors 6 (some .int), Cond.methodLink RX5 54 yX5_beginOf, Cond.instanceMethod yX5_beginOf, Cond.selects RX5 yX5_beginOf yX5_beginOf, Cond.code yX5_beginOf cX5_beginOf 3 (some .int), Cond.fieldLink RX5 23 "CryptSumsModel" "begins" "[I", Cond.methodLink RX5 68 yX5_isWell, Cond.instanceMethod yX5_isWell]
def wsX5_digest_r2 : List Cond := [Cond.selects RX5 yX5_isWell yX5_isWell, Cond.code yX5_isWell cX5_isWell 8 (some .boolean), Cond.methodLink RX5 58 yX5_isOpen, Cond.instanceMethod yX5_isOpen, Cond.selects RX5 yX5_isOpen yX5_isOpen, Cond.code yX5_isOpen cX5_isOpen 2 (some .boolean), Cond.methodLink RX5 62 yX5_behind, Cond.instanceMethod yX5_behind, Cond.selects RX5 yX5_behind yX5_behind, Cond.code yX5_behind cX5_behind 3 (some .int), Cond.methodLink RX5 41 yX5_sumOf, Cond.static yX5_sumOf, Cond.code yX5_sumOf cX5_sumOf 3 (some .int), Cond.methodLink RX5 65 yX5_isMade, Cond.instanceMethod yX5_isMade, Cond.selects RX5 yX5_isMade yX5_isMade, Cond.code yX5_isMade cX5_isMade 6 (some .boolean), Cond.fieldLink RX5 29 "CryptSumsModel" "first" "[I", Cond.fieldLink RX5 26 "CryptSumsModel" "sets" "[I", Cond.methodLink RX5 108 yX5_canOf, Cond.instanceMethod yX5_canOf, Cond.selects RX5 yX5_canOf yX5_canOf, Cond.code yX5_canOf cX5_canOf 4 (some .int), Cond.methodLink RX5 72 yX5_stands]
def wsX5_digest_r3 : List Cond := [Cond.instanceMethod yX5_stands, Cond.selects RX5 yX5_stands yX5_stands, Cond.code yX5_stands cX5_stands 4 (some .boolean), Cond.methodLink RX5 35 yJ6_bitCount_0f7a4, Cond.static yJ6_bitCount_0f7a4, Cond.initialized RJ6, Cond.code yJ6_bitCount_0f7a4 cJ6_bitCount_0f7a4 1 (some .int), Cond.constant RJ6 265 (1431655765), Cond.constant RJ6 266 (858993459), Cond.constant RJ6 267 (252645135), Cond.methodLink RX5 118 yX5_corridorTold, Cond.instanceMethod yX5_corridorTold, Cond.selects RX5 yX5_corridorTold yX5_corridorTold, Cond.code yX5_corridorTold cX5_corridorTold 9 (some .int), Cond.methodLink RX5 131 yX5_look, Cond.instanceMethod yX5_look, Cond.selects RX5 yX5_look yX5_look, Cond.code yX5_look cX5_look 2 none, Cond.fieldLink RX5 79 "CryptSumsModel" "ways" "I", Cond.fieldLink RX5 75 "CryptSumsModel" "isLong" "Z", Cond.fieldLink RX5 32 "CryptSumsModel" "filled" "[I", Cond.methodLink RX5 99 yX5_isAllWell, Cond.instanceMethod yX5_isAllWell, Cond.selects RX5 yX5_isAllWell yX5_isAllWell]
def wsX5_digest_r4 : List Cond := [Cond.code yX5_isAllWell cX5_isAllWell 2 (some .boolean), Cond.methodLink RX5 95 yX5_fill, Cond.instanceMethod yX5_fill, Cond.selects RX5 yX5_fill yX5_fill, Cond.code yX5_fill cX5_fill 4 none, Cond.methodLink RX5 82 arraycopyName, Cond.native arraycopyName, Cond.static arraycopyName, Cond.initialized "java/lang/System", Cond.methodLink RX5 88 yX5_isOver, Cond.instanceMethod yX5_isOver, Cond.selects RX5 yX5_isOver yX5_isOver, Cond.code yX5_isOver cX5_isOver 1 (some .boolean), Cond.methodLink RX5 134 yX5_told, Cond.instanceMethod yX5_told, Cond.selects RX5 yX5_told yX5_told, Cond.code yX5_told cX5_told 1 (some .int)]
def wsX5_digest : List Cond := .code yX5_digest cX5_digest 5 (some .long) :: ((wsX5_digest_r1 ++ (wsX5_digest_r2 ++ (wsX5_digest_r3 ++ wsX5_digest_r4))) ++ wsX50)
def wsL_setFloor_r1 : List Cond := [Cond.classLink RL 13 "java/lang/IllegalArgumentException", Cond.methodLink RL 7 yX4_setFloor, Cond.instanceMethod yX4_setFloor, Cond.selects RX4 yX4_setFloor yX4_setFloor, Cond.initialized RX4, Cond.code yX4_setFloor cX4_setFloor 3 (some .int), Cond.classLink RX4 25 "java/lang/IllegalArgumentException", Cond.initialized "java/lang/IllegalArgumentException", Cond.fieldLink RX4 21 "CryptSums" "search" "LCryptSums$Search;", Cond.fieldLink RX4 10 "CryptSums" "floor" "LCryptSums$Floor;", Cond.methodLink RX4 32 yX3_forget, Cond.instanceMethod yX3_forget, Cond.selects RX3 yX3_forget yX3_forget, Cond.initialized RX3, Cond.code yX3_forget cX3_forget 1 none, Cond.fieldLink RX3 32 "CryptSums$Search" "fresh" "Z", Cond.methodLink RX4 35 yX1_clear, Cond.instanceMethod yX1_clear, Cond.selects RX1 yX1_clear yX1_clear, Cond.initialized RX1, Cond.code yX1_clear cX1_clear 4 none, Cond.fieldLink RX1 34 "CryptSums$Floor" "columns" "I", Cond.fieldLink RX1 38 "CryptSums$Floor" "rows" "I", Cond.fieldLink RX1 12 "CryptSums$Floor" "stones" "[I"]
def wsL_setFloor_r2 : List Cond := [Cond.fieldLink RX1 23 "CryptSums$Floor" "across" "LCryptSums$Corridors;", Cond.fieldLink RX1 27 "CryptSums$Floor" "down" "LCryptSums$Corridors;", Cond.static yX4_write, Cond.code yX4_write cX4_write 3 none, Cond.methodLink RX1 45 yX0_clear, Cond.instanceMethod yX0_clear, Cond.selects RX0 yX0_clear yX0_clear, Cond.initialized RX0, Cond.code yX0_clear cX0_clear 3 none, Cond.fieldLink RX0 28 "CryptSums$Corridors" "step" "I", Cond.fieldLink RX0 19 "CryptSums$Corridors" "told" "[I", Cond.methodLink RX1 48 yX1_joinCells, Cond.instanceMethod yX1_joinCells, Cond.selects RX1 yX1_joinCells yX1_joinCells, Cond.code yX1_joinCells cX1_joinCells 4 none, Cond.methodLink RX1 51 yX0_join, Cond.instanceMethod yX0_join, Cond.selects RX0 yX0_join yX0_join, Cond.code yX0_join cX0_join 4 none, Cond.fieldLink RX0 25 "CryptSums$Corridors" "size" "[I", Cond.fieldLink RX0 9 "CryptSums$Corridors" "stones" "[I", Cond.fieldLink RX0 22 "CryptSums$Corridors" "first" "[I", Cond.static yX4_read, Cond.code yX4_read cX4_read 2 (some .int)]
def wsL_setFloor_r3 : List Cond := [Cond.methodLink RX4 39 yX1_cells, Cond.instanceMethod yX1_cells, Cond.selects RX1 yX1_cells yX1_cells, Cond.code yX1_cells cX1_cells 1 (some .int)]
def wsL_setFloor : List Cond := .codeWith yL_setFloor cL_setFloor 5 (some .int) [(0, 10, 13, 13)] :: ((wsL_setFloor_r1 ++ (wsL_setFloor_r2 ++ wsL_setFloor_r3)) ++ wsX40 ++ wsX30 ++ wsX10 ++ wsX00 ++ (vx_atS RX4 29 "java/lang/IllegalArgumentException" ["java/lang/RuntimeException", "java/lang/Exception"]).filter goodWord)
def wsL_pillar_r1 : List Cond := [Cond.classLink RL 19 "java/lang/IndexOutOfBoundsException", Cond.methodLink RL 15 yX4_pillar, Cond.instanceMethod yX4_pillar, Cond.selects RX4 yX4_pillar yX4_pillar, Cond.initialized RX4, Cond.code yX4_pillar cX4_pillar 2 (some .boolean), Cond.fieldLink RX4 21 "CryptSums" "search" "LCryptSums$Search;", Cond.fieldLink RX4 10 "CryptSums" "floor" "LCryptSums$Floor;", Cond.methodLink RX4 43 yX4_checkCell, Cond.instanceMethod yX4_checkCell, Cond.selects RX4 yX4_checkCell yX4_checkCell, Cond.code yX4_checkCell cX4_checkCell 2 none, Cond.classLink RX4 87 "java/lang/IndexOutOfBoundsException", Cond.initialized "java/lang/IndexOutOfBoundsException", Cond.methodLink RX4 146 yX1_has, Cond.instanceMethod yX1_has, Cond.selects RX1 yX1_has yX1_has, Cond.initialized RX1, Cond.code yX1_has cX1_has 2 (some .boolean), Cond.methodLink RX1 54 yX1_cells, Cond.instanceMethod yX1_cells, Cond.selects RX1 yX1_cells yX1_cells, Cond.code yX1_cells cX1_cells 1 (some .int), Cond.fieldLink RX1 34 "CryptSums$Floor" "columns" "I"]
def wsL_pillar_r2 : List Cond := [Cond.fieldLink RX1 38 "CryptSums$Floor" "rows" "I", Cond.methodLink RX4 32 yX3_forget, Cond.instanceMethod yX3_forget, Cond.selects RX3 yX3_forget yX3_forget, Cond.initialized RX3, Cond.code yX3_forget cX3_forget 1 none, Cond.fieldLink RX3 32 "CryptSums$Search" "fresh" "Z", Cond.methodLink RX4 47 yX1_turnPillar, Cond.instanceMethod yX1_turnPillar, Cond.selects RX1 yX1_turnPillar yX1_turnPillar, Cond.code yX1_turnPillar cX1_turnPillar 2 none, Cond.fieldLink RX1 12 "CryptSums$Floor" "stones" "[I", Cond.methodLink RX1 62 yX1_isPillar, Cond.instanceMethod yX1_isPillar, Cond.selects RX1 yX1_isPillar yX1_isPillar, Cond.code yX1_isPillar cX1_isPillar 2 (some .boolean), Cond.static yX4_read, Cond.code yX4_read cX4_read 2 (some .int), Cond.static yX4_write, Cond.code yX4_write cX4_write 3 none, Cond.methodLink RX1 48 yX1_joinCells, Cond.instanceMethod yX1_joinCells, Cond.selects RX1 yX1_joinCells yX1_joinCells, Cond.code yX1_joinCells cX1_joinCells 4 none]
def wsL_pillar_r3 : List Cond := [Cond.fieldLink RX1 23 "CryptSums$Floor" "across" "LCryptSums$Corridors;", Cond.fieldLink RX1 27 "CryptSums$Floor" "down" "LCryptSums$Corridors;", Cond.methodLink RX1 51 yX0_join, Cond.instanceMethod yX0_join, Cond.selects RX0 yX0_join yX0_join, Cond.initialized RX0, Cond.code yX0_join cX0_join 4 none, Cond.fieldLink RX0 25 "CryptSums$Corridors" "size" "[I", Cond.fieldLink RX0 9 "CryptSums$Corridors" "stones" "[I", Cond.fieldLink RX0 22 "CryptSums$Corridors" "first" "[I", Cond.methodLink RX4 50 yX1_isPillar]
def wsL_pillar : List Cond := .codeWith yL_pillar cL_pillar 4 (some .int) [(0, 16, 19, 19)] :: ((wsL_pillar_r1 ++ (wsL_pillar_r2 ++ wsL_pillar_r3)) ++ wsX40 ++ wsX10 ++ wsX30 ++ wsX00 ++ (vx_atS RX4 91 "java/lang/IndexOutOfBoundsException" ["java/lang/RuntimeException", "java/lang/Exception"]).filter goodWord)
def wsL_setSum_r1 : List Cond := [Cond.classLink RL 19 "java/lang/IndexOutOfBoundsException", Cond.classLink RL 13 "java/lang/IllegalArgumentException", Cond.methodLink RL 21 yX4_setSum, Cond.instanceMethod yX4_setSum, Cond.selects RX4 yX4_setSum yX4_setSum, Cond.initialized RX4, Cond.code yX4_setSum cX4_setSum 4 (some .int), Cond.classLink RX4 25 "java/lang/IllegalArgumentException", Cond.initialized "java/lang/IllegalArgumentException", Cond.fieldLink RX4 21 "CryptSums" "search" "LCryptSums$Search;", Cond.fieldLink RX4 10 "CryptSums" "floor" "LCryptSums$Floor;", Cond.methodLink RX4 43 yX4_checkCell, Cond.instanceMethod yX4_checkCell, Cond.selects RX4 yX4_checkCell yX4_checkCell, Cond.code yX4_checkCell cX4_checkCell 2 none, Cond.classLink RX4 87 "java/lang/IndexOutOfBoundsException", Cond.initialized "java/lang/IndexOutOfBoundsException", Cond.methodLink RX4 146 yX1_has, Cond.instanceMethod yX1_has, Cond.selects RX1 yX1_has yX1_has, Cond.initialized RX1, Cond.code yX1_has cX1_has 2 (some .boolean), Cond.methodLink RX1 54 yX1_cells, Cond.instanceMethod yX1_cells]
def wsL_setSum_r2 : List Cond := [Cond.selects RX1 yX1_cells yX1_cells, Cond.code yX1_cells cX1_cells 1 (some .int), Cond.fieldLink RX1 34 "CryptSums$Floor" "columns" "I", Cond.fieldLink RX1 38 "CryptSums$Floor" "rows" "I", Cond.methodLink RX4 32 yX3_forget, Cond.instanceMethod yX3_forget, Cond.selects RX3 yX3_forget yX3_forget, Cond.initialized RX3, Cond.code yX3_forget cX3_forget 1 none, Cond.fieldLink RX3 32 "CryptSums$Search" "fresh" "Z", Cond.methodLink RX4 56 yX1_corridors, Cond.instanceMethod yX1_corridors, Cond.selects RX1 yX1_corridors yX1_corridors, Cond.code yX1_corridors cX1_corridors 2 (some (.object "CryptSums$Corridors")), Cond.fieldLink RX1 27 "CryptSums$Floor" "down" "LCryptSums$Corridors;", Cond.fieldLink RX1 23 "CryptSums$Floor" "across" "LCryptSums$Corridors;", Cond.methodLink RX4 60 yX0_tellSum, Cond.instanceMethod yX0_tellSum, Cond.selects RX0 yX0_tellSum yX0_tellSum, Cond.initialized RX0, Cond.code yX0_tellSum cX0_tellSum 4 (some .int), Cond.fieldLink RX0 19 "CryptSums$Corridors" "told" "[I", Cond.static yX4_read, Cond.code yX4_read cX4_read 2 (some .int)]
def wsL_setSum_r3 : List Cond := [Cond.static yX4_write, Cond.code yX4_write cX4_write 3 none]
def wsL_setSum : List Cond := .codeWith yL_setSum cL_setSum 6 (some .int) [(0, 12, 15, 19), (0, 12, 19, 13)] :: ((wsL_setSum_r1 ++ (wsL_setSum_r2 ++ wsL_setSum_r3)) ++ wsX40 ++ wsX10 ++ wsX30 ++ wsX00 ++ (vx_atS RX4 29 "java/lang/IllegalArgumentException" ["java/lang/RuntimeException", "java/lang/Exception"]).filter goodWord ++ (vx_atS RX4 91 "java/lang/IndexOutOfBoundsException" ["java/lang/RuntimeException", "java/lang/Exception"]).filter goodWord)
def wsL_put_r1 : List Cond := [Cond.classLink RL 19 "java/lang/IndexOutOfBoundsException", Cond.classLink RL 13 "java/lang/IllegalArgumentException", Cond.classLink RL 28 "java/lang/IllegalStateException", Cond.methodLink RL 25 yX4_put, Cond.instanceMethod yX4_put, Cond.selects RX4 yX4_put yX4_put, Cond.initialized RX4, Cond.code yX4_put cX4_put 4 (some .int), Cond.classLink RX4 25 "java/lang/IllegalArgumentException", Cond.initialized "java/lang/IllegalArgumentException", Cond.fieldLink RX4 10 "CryptSums" "floor" "LCryptSums$Floor;", Cond.fieldLink RX4 21 "CryptSums" "search" "LCryptSums$Search;", Cond.methodLink RX4 43 yX4_checkCell, Cond.instanceMethod yX4_checkCell, Cond.selects RX4 yX4_checkCell yX4_checkCell, Cond.code yX4_checkCell cX4_checkCell 2 none, Cond.classLink RX4 87 "java/lang/IndexOutOfBoundsException", Cond.initialized "java/lang/IndexOutOfBoundsException", Cond.methodLink RX4 146 yX1_has, Cond.instanceMethod yX1_has, Cond.selects RX1 yX1_has yX1_has, Cond.initialized RX1, Cond.code yX1_has cX1_has 2 (some .boolean), Cond.methodLink RX1 54 yX1_cells]
def wsL_put_r2 : List Cond := [Cond.instanceMethod yX1_cells, Cond.selects RX1 yX1_cells yX1_cells, Cond.code yX1_cells cX1_cells 1 (some .int), Cond.fieldLink RX1 34 "CryptSums$Floor" "columns" "I", Cond.fieldLink RX1 38 "CryptSums$Floor" "rows" "I", Cond.methodLink RX4 68 yX4_checkOpen, Cond.instanceMethod yX4_checkOpen, Cond.selects RX4 yX4_checkOpen yX4_checkOpen, Cond.code yX4_checkOpen cX4_checkOpen 2 none, Cond.classLink RX4 151 "java/lang/IllegalStateException", Cond.initialized "java/lang/IllegalStateException", Cond.methodLink RX4 50 yX1_isPillar, Cond.instanceMethod yX1_isPillar, Cond.selects RX1 yX1_isPillar yX1_isPillar, Cond.code yX1_isPillar cX1_isPillar 2 (some .boolean), Cond.fieldLink RX1 12 "CryptSums$Floor" "stones" "[I", Cond.static yX4_read, Cond.code yX4_read cX4_read 2 (some .int), Cond.methodLink RX4 71 yX1_stoneAt, Cond.instanceMethod yX1_stoneAt, Cond.selects RX1 yX1_stoneAt yX1_stoneAt, Cond.code yX1_stoneAt cX1_stoneAt 2 (some .int), Cond.methodLink RX4 32 yX3_forget, Cond.instanceMethod yX3_forget]
def wsL_put_r3 : List Cond := [Cond.selects RX3 yX3_forget yX3_forget, Cond.initialized RX3, Cond.code yX3_forget cX3_forget 1 none, Cond.fieldLink RX3 32 "CryptSums$Search" "fresh" "Z", Cond.methodLink RX4 75 yX1_lay, Cond.instanceMethod yX1_lay, Cond.selects RX1 yX1_lay yX1_lay, Cond.code yX1_lay cX1_lay 3 none, Cond.static yX4_write, Cond.code yX4_write cX4_write 3 none]
def wsL_put : List Cond := .codeWith yL_put cL_put 5 (some .int) [(0, 10, 13, 19), (0, 10, 17, 13), (0, 10, 21, 28)] :: ((wsL_put_r1 ++ (wsL_put_r2 ++ wsL_put_r3)) ++ wsX40 ++ wsX10 ++ wsX30 ++ (vx_atS RX4 29 "java/lang/IllegalArgumentException" ["java/lang/RuntimeException", "java/lang/Exception"]).filter goodWord ++ (vx_atS RX4 91 "java/lang/IndexOutOfBoundsException" ["java/lang/RuntimeException", "java/lang/Exception"]).filter goodWord ++ (vx_atS RX4 155 "java/lang/IllegalStateException" ["java/lang/RuntimeException", "java/lang/Exception"]).filter goodWord)
def wsL_stone_r1 : List Cond := [Cond.classLink RL 19 "java/lang/IndexOutOfBoundsException", Cond.methodLink RL 30 yX4_stone, Cond.instanceMethod yX4_stone, Cond.selects RX4 yX4_stone yX4_stone, Cond.initialized RX4, Cond.code yX4_stone cX4_stone 2 (some .int), Cond.fieldLink RX4 10 "CryptSums" "floor" "LCryptSums$Floor;", Cond.methodLink RX4 43 yX4_checkCell, Cond.instanceMethod yX4_checkCell, Cond.selects RX4 yX4_checkCell yX4_checkCell, Cond.code yX4_checkCell cX4_checkCell 2 none, Cond.classLink RX4 87 "java/lang/IndexOutOfBoundsException", Cond.initialized "java/lang/IndexOutOfBoundsException", Cond.methodLink RX4 146 yX1_has, Cond.instanceMethod yX1_has, Cond.selects RX1 yX1_has yX1_has, Cond.initialized RX1, Cond.code yX1_has cX1_has 2 (some .boolean), Cond.methodLink RX1 54 yX1_cells, Cond.instanceMethod yX1_cells, Cond.selects RX1 yX1_cells yX1_cells, Cond.code yX1_cells cX1_cells 1 (some .int), Cond.fieldLink RX1 34 "CryptSums$Floor" "columns" "I", Cond.fieldLink RX1 38 "CryptSums$Floor" "rows" "I"]
def wsL_stone_r2 : List Cond := [Cond.methodLink RX4 71 yX1_stoneAt, Cond.instanceMethod yX1_stoneAt, Cond.selects RX1 yX1_stoneAt yX1_stoneAt, Cond.code yX1_stoneAt cX1_stoneAt 2 (some .int), Cond.fieldLink RX1 12 "CryptSums$Floor" "stones" "[I", Cond.static yX4_read, Cond.code yX4_read cX4_read 2 (some .int)]
def wsL_stone : List Cond := .codeWith yL_stone cL_stone 4 (some .int) [(0, 9, 12, 19)] :: ((wsL_stone_r1 ++ wsL_stone_r2) ++ wsX40 ++ wsX10 ++ (vx_atS RX4 91 "java/lang/IndexOutOfBoundsException" ["java/lang/RuntimeException", "java/lang/Exception"]).filter goodWord)
def wsL_corridor_r1 : List Cond := [Cond.classLink RL 19 "java/lang/IndexOutOfBoundsException", Cond.methodLink RL 34 yX4_corridor, Cond.instanceMethod yX4_corridor, Cond.selects RX4 yX4_corridor yX4_corridor, Cond.initialized RX4, Cond.code yX4_corridor cX4_corridor 4 (some .int), Cond.classLink RX4 87 "java/lang/IndexOutOfBoundsException", Cond.initialized "java/lang/IndexOutOfBoundsException", Cond.fieldLink RX4 10 "CryptSums" "floor" "LCryptSums$Floor;", Cond.methodLink RX4 43 yX4_checkCell, Cond.instanceMethod yX4_checkCell, Cond.selects RX4 yX4_checkCell yX4_checkCell, Cond.code yX4_checkCell cX4_checkCell 2 none, Cond.methodLink RX4 146 yX1_has, Cond.instanceMethod yX1_has, Cond.selects RX1 yX1_has yX1_has, Cond.initialized RX1, Cond.code yX1_has cX1_has 2 (some .boolean), Cond.methodLink RX1 54 yX1_cells, Cond.instanceMethod yX1_cells, Cond.selects RX1 yX1_cells yX1_cells, Cond.code yX1_cells cX1_cells 1 (some .int), Cond.fieldLink RX1 34 "CryptSums$Floor" "columns" "I", Cond.fieldLink RX1 38 "CryptSums$Floor" "rows" "I"]
def wsL_corridor_r2 : List Cond := [Cond.methodLink RX4 56 yX1_corridors, Cond.instanceMethod yX1_corridors, Cond.selects RX1 yX1_corridors yX1_corridors, Cond.code yX1_corridors cX1_corridors 2 (some (.object "CryptSums$Corridors")), Cond.fieldLink RX1 27 "CryptSums$Floor" "down" "LCryptSums$Corridors;", Cond.fieldLink RX1 23 "CryptSums$Floor" "across" "LCryptSums$Corridors;", Cond.methodLink RX4 92 yX0_tell, Cond.instanceMethod yX0_tell, Cond.selects RX0 yX0_tell yX0_tell, Cond.initialized RX0, Cond.code yX0_tell cX0_tell 4 (some .int), Cond.fieldLink RX0 22 "CryptSums$Corridors" "first" "[I", Cond.fieldLink RX0 25 "CryptSums$Corridors" "size" "[I", Cond.fieldLink RX0 19 "CryptSums$Corridors" "told" "[I", Cond.fieldLink RX0 44 "CryptSums$Corridors" "seenStones" "I", Cond.fieldLink RX0 47 "CryptSums$Corridors" "seenTotal" "I", Cond.static yX4_read, Cond.code yX4_read cX4_read 2 (some .int), Cond.methodLink RX0 40 yX0_look, Cond.instanceMethod yX0_look, Cond.selects RX0 yX0_look yX0_look, Cond.code yX0_look cX0_look 5 none, Cond.fieldLink RX0 58 "CryptSums$Corridors" "seenNumbers" "I", Cond.fieldLink RX0 9 "CryptSums$Corridors" "stones" "[I"]
def wsL_corridor_r3 : List Cond := [Cond.fieldLink RX0 28 "CryptSums$Corridors" "step" "I", Cond.methodLink RX0 50 yX0_isWellFrom, Cond.instanceMethod yX0_isWellFrom, Cond.selects RX0 yX0_isWellFrom yX0_isWellFrom, Cond.code yX0_isWellFrom cX0_isWellFrom 4 (some .boolean), Cond.fieldLink RX0 15 "CryptSums$Corridors" "partitions" "LCryptSums$Partitions;", Cond.methodLink RX0 54 yX0_sawAlike, Cond.instanceMethod yX0_sawAlike, Cond.selects RX0 yX0_sawAlike yX0_sawAlike, Cond.code yX0_sawAlike cX0_sawAlike 1 (some .boolean), Cond.methodLink RX0 67 yJ6_bitCount_0f7a4, Cond.static yJ6_bitCount_0f7a4, Cond.initialized RJ6, Cond.code yJ6_bitCount_0f7a4 cJ6_bitCount_0f7a4 1 (some .int), Cond.constant RJ6 265 (1431655765), Cond.constant RJ6 266 (858993459), Cond.constant RJ6 267 (252645135), Cond.methodLink RX0 61 yX2_make, Cond.instanceMethod yX2_make, Cond.selects RX2 yX2_make yX2_make, Cond.initialized RX2, Cond.code yX2_make cX2_make 5 (some .boolean), Cond.fieldLink RX2 11 "CryptSums$Partitions" "sums" "[J"]
def wsL_corridor : List Cond := .codeWith yL_corridor cL_corridor 6 (some .int) [(0, 12, 15, 19)] :: ((wsL_corridor_r1 ++ (wsL_corridor_r2 ++ wsL_corridor_r3)) ++ wsX40 ++ wsX10 ++ wsX00 ++ wsX20 ++ (vx_atS RX4 91 "java/lang/IndexOutOfBoundsException" ["java/lang/RuntimeException", "java/lang/Exception"]).filter goodWord)
def wsL_can_r1 : List Cond := [Cond.classLink RL 19 "java/lang/IndexOutOfBoundsException", Cond.methodLink RL 37 yX4_can, Cond.instanceMethod yX4_can, Cond.selects RX4 yX4_can yX4_can, Cond.initialized RX4, Cond.code yX4_can cX4_can 2 (some .int), Cond.fieldLink RX4 10 "CryptSums" "floor" "LCryptSums$Floor;", Cond.methodLink RX4 43 yX4_checkCell, Cond.instanceMethod yX4_checkCell, Cond.selects RX4 yX4_checkCell yX4_checkCell, Cond.code yX4_checkCell cX4_checkCell 2 none, Cond.classLink RX4 87 "java/lang/IndexOutOfBoundsException", Cond.initialized "java/lang/IndexOutOfBoundsException", Cond.methodLink RX4 146 yX1_has, Cond.instanceMethod yX1_has, Cond.selects RX1 yX1_has yX1_has, Cond.initialized RX1, Cond.code yX1_has cX1_has 2 (some .boolean), Cond.methodLink RX1 54 yX1_cells, Cond.instanceMethod yX1_cells, Cond.selects RX1 yX1_cells yX1_cells, Cond.code yX1_cells cX1_cells 1 (some .int), Cond.fieldLink RX1 34 "CryptSums$Floor" "columns" "I", Cond.fieldLink RX1 38 "CryptSums$Floor" "rows" "I"]
def wsL_can_r2 : List Cond := [Cond.methodLink RX4 81 yX1_numbersFor, Cond.instanceMethod yX1_numbersFor, Cond.selects RX1 yX1_numbersFor yX1_numbersFor, Cond.code yX1_numbersFor cX1_numbersFor 2 (some .int), Cond.fieldLink RX1 23 "CryptSums$Floor" "across" "LCryptSums$Corridors;", Cond.fieldLink RX1 27 "CryptSums$Floor" "down" "LCryptSums$Corridors;", Cond.methodLink RX1 66 yX1_isHole, Cond.instanceMethod yX1_isHole, Cond.selects RX1 yX1_isHole yX1_isHole, Cond.code yX1_isHole cX1_isHole 2 (some .boolean), Cond.fieldLink RX1 12 "CryptSums$Floor" "stones" "[I", Cond.static yX4_read, Cond.code yX4_read cX4_read 2 (some .int), Cond.methodLink RX1 69 yX0_numbersFor, Cond.instanceMethod yX0_numbersFor, Cond.selects RX0 yX0_numbersFor yX0_numbersFor, Cond.initialized RX0, Cond.code yX0_numbersFor cX0_numbersFor 10 (some .int), Cond.fieldLink RX0 22 "CryptSums$Corridors" "first" "[I", Cond.fieldLink RX0 58 "CryptSums$Corridors" "seenNumbers" "I", Cond.fieldLink RX0 19 "CryptSums$Corridors" "told" "[I", Cond.fieldLink RX0 25 "CryptSums$Corridors" "size" "[I", Cond.fieldLink RX0 44 "CryptSums$Corridors" "seenStones" "I", Cond.fieldLink RX0 47 "CryptSums$Corridors" "seenTotal" "I"]
def wsL_can_r3 : List Cond := [Cond.fieldLink RX0 15 "CryptSums$Corridors" "partitions" "LCryptSums$Partitions;", Cond.methodLink RX0 40 yX0_look, Cond.instanceMethod yX0_look, Cond.selects RX0 yX0_look yX0_look, Cond.code yX0_look cX0_look 5 none, Cond.fieldLink RX0 9 "CryptSums$Corridors" "stones" "[I", Cond.fieldLink RX0 28 "CryptSums$Corridors" "step" "I", Cond.methodLink RX0 54 yX0_sawAlike, Cond.instanceMethod yX0_sawAlike, Cond.selects RX0 yX0_sawAlike yX0_sawAlike, Cond.code yX0_sawAlike cX0_sawAlike 1 (some .boolean), Cond.methodLink RX0 67 yJ6_bitCount_0f7a4, Cond.static yJ6_bitCount_0f7a4, Cond.initialized RJ6, Cond.code yJ6_bitCount_0f7a4 cJ6_bitCount_0f7a4 1 (some .int), Cond.constant RJ6 265 (1431655765), Cond.constant RJ6 266 (858993459), Cond.constant RJ6 267 (252645135), Cond.methodLink RX0 61 yX2_make, Cond.instanceMethod yX2_make, Cond.selects RX2 yX2_make yX2_make, Cond.initialized RX2, Cond.code yX2_make cX2_make 5 (some .boolean), Cond.fieldLink RX2 11 "CryptSums$Partitions" "sums" "[J"]
def wsL_can : List Cond := .codeWith yL_can cL_can 4 (some .int) [(0, 9, 12, 19)] :: ((wsL_can_r1 ++ (wsL_can_r2 ++ wsL_can_r3)) ++ wsX40 ++ wsX10 ++ wsX00 ++ wsX20 ++ (vx_atS RX4 91 "java/lang/IndexOutOfBoundsException" ["java/lang/RuntimeException", "java/lang/Exception"]).filter goodWord)
def wsL_count_r1 : List Cond := [Cond.classLink RL 19 "java/lang/IndexOutOfBoundsException", Cond.methodLink RL 40 yX4_count, Cond.instanceMethod yX4_count, Cond.selects RX4 yX4_count yX4_count, Cond.initialized RX4, Cond.code yX4_count cX4_count 2 (some .int), Cond.classLink RX4 87 "java/lang/IndexOutOfBoundsException", Cond.initialized "java/lang/IndexOutOfBoundsException", Cond.fieldLink RX4 10 "CryptSums" "floor" "LCryptSums$Floor;", Cond.methodLink RX4 97 yX1_tally, Cond.instanceMethod yX1_tally, Cond.selects RX1 yX1_tally yX1_tally, Cond.initialized RX1, Cond.code yX1_tally cX1_tally 2 (some .int), Cond.fieldLink RX1 34 "CryptSums$Floor" "columns" "I", Cond.fieldLink RX1 23 "CryptSums$Floor" "across" "LCryptSums$Corridors;", Cond.fieldLink RX1 27 "CryptSums$Floor" "down" "LCryptSums$Corridors;", Cond.methodLink RX1 54 yX1_cells, Cond.instanceMethod yX1_cells, Cond.selects RX1 yX1_cells yX1_cells, Cond.code yX1_cells cX1_cells 1 (some .int), Cond.fieldLink RX1 38 "CryptSums$Floor" "rows" "I", Cond.methodLink RX1 86 yX1_openCells, Cond.instanceMethod yX1_openCells]
def wsL_count_r2 : List Cond := [Cond.selects RX1 yX1_openCells yX1_openCells, Cond.code yX1_openCells cX1_openCells 3 (some .int), Cond.methodLink RX1 62 yX1_isPillar, Cond.instanceMethod yX1_isPillar, Cond.selects RX1 yX1_isPillar yX1_isPillar, Cond.code yX1_isPillar cX1_isPillar 2 (some .boolean), Cond.fieldLink RX1 12 "CryptSums$Floor" "stones" "[I", Cond.static yX4_read, Cond.code yX4_read cX4_read 2 (some .int), Cond.methodLink RX1 89 yX1_stonesLaid, Cond.instanceMethod yX1_stonesLaid, Cond.selects RX1 yX1_stonesLaid yX1_stonesLaid, Cond.code yX1_stonesLaid cX1_stonesLaid 3 (some .int), Cond.methodLink RX1 77 yX1_corridorsOf, Cond.instanceMethod yX1_corridorsOf, Cond.selects RX1 yX1_corridorsOf yX1_corridorsOf, Cond.code yX1_corridorsOf cX1_corridorsOf 4 (some .int), Cond.methodLink RX1 98 yX0_beginsAt, Cond.instanceMethod yX0_beginsAt, Cond.selects RX0 yX0_beginsAt yX0_beginsAt, Cond.initialized RX0, Cond.code yX0_beginsAt cX0_beginsAt 2 (some .boolean), Cond.fieldLink RX0 22 "CryptSums$Corridors" "first" "[I", Cond.methodLink RX1 92 yX1_summedOf]
def wsL_count_r3 : List Cond := [Cond.instanceMethod yX1_summedOf, Cond.selects RX1 yX1_summedOf yX1_summedOf, Cond.code yX1_summedOf cX1_summedOf 4 (some .int), Cond.methodLink RX1 101 yX0_toldAt, Cond.instanceMethod yX0_toldAt, Cond.selects RX0 yX0_toldAt yX0_toldAt, Cond.code yX0_toldAt cX0_toldAt 2 (some .int), Cond.fieldLink RX0 19 "CryptSums$Corridors" "told" "[I", Cond.methodLink RX1 73 yX1_wellOf, Cond.instanceMethod yX1_wellOf, Cond.selects RX1 yX1_wellOf yX1_wellOf, Cond.code yX1_wellOf cX1_wellOf 4 (some .int), Cond.methodLink RX1 104 yX0_isWellFrom, Cond.instanceMethod yX0_isWellFrom, Cond.selects RX0 yX0_isWellFrom yX0_isWellFrom, Cond.code yX0_isWellFrom cX0_isWellFrom 4 (some .boolean), Cond.fieldLink RX0 25 "CryptSums$Corridors" "size" "[I", Cond.fieldLink RX0 44 "CryptSums$Corridors" "seenStones" "I", Cond.fieldLink RX0 15 "CryptSums$Corridors" "partitions" "LCryptSums$Partitions;", Cond.fieldLink RX0 58 "CryptSums$Corridors" "seenNumbers" "I", Cond.fieldLink RX0 47 "CryptSums$Corridors" "seenTotal" "I", Cond.methodLink RX0 40 yX0_look, Cond.instanceMethod yX0_look, Cond.selects RX0 yX0_look yX0_look]
def wsL_count_r4 : List Cond := [Cond.code yX0_look cX0_look 5 none, Cond.fieldLink RX0 9 "CryptSums$Corridors" "stones" "[I", Cond.fieldLink RX0 28 "CryptSums$Corridors" "step" "I", Cond.methodLink RX0 54 yX0_sawAlike, Cond.instanceMethod yX0_sawAlike, Cond.selects RX0 yX0_sawAlike yX0_sawAlike, Cond.code yX0_sawAlike cX0_sawAlike 1 (some .boolean), Cond.methodLink RX0 67 yJ6_bitCount_0f7a4, Cond.static yJ6_bitCount_0f7a4, Cond.initialized RJ6, Cond.code yJ6_bitCount_0f7a4 cJ6_bitCount_0f7a4 1 (some .int), Cond.constant RJ6 265 (1431655765), Cond.constant RJ6 266 (858993459), Cond.constant RJ6 267 (252645135), Cond.methodLink RX0 61 yX2_make, Cond.instanceMethod yX2_make, Cond.selects RX2 yX2_make yX2_make, Cond.initialized RX2, Cond.code yX2_make cX2_make 5 (some .boolean), Cond.fieldLink RX2 11 "CryptSums$Partitions" "sums" "[J", Cond.methodLink RX1 95 yX1_holesWithChoices, Cond.instanceMethod yX1_holesWithChoices, Cond.selects RX1 yX1_holesWithChoices yX1_holesWithChoices, Cond.code yX1_holesWithChoices cX1_holesWithChoices 4 (some .int)]
def wsL_count_r5 : List Cond := [Cond.methodLink RX1 66 yX1_isHole, Cond.instanceMethod yX1_isHole, Cond.selects RX1 yX1_isHole yX1_isHole, Cond.code yX1_isHole cX1_isHole 2 (some .boolean), Cond.methodLink RX1 80 yX1_numbersFor, Cond.instanceMethod yX1_numbersFor, Cond.selects RX1 yX1_numbersFor yX1_numbersFor, Cond.code yX1_numbersFor cX1_numbersFor 2 (some .int), Cond.methodLink RX1 69 yX0_numbersFor, Cond.instanceMethod yX0_numbersFor, Cond.selects RX0 yX0_numbersFor yX0_numbersFor, Cond.code yX0_numbersFor cX0_numbersFor 10 (some .int), Cond.methodLink RX1 81 yJ6_bitCount_0f7a4]
def wsL_count : List Cond := .codeWith yL_count cL_count 4 (some .int) [(0, 9, 12, 19)] :: ((wsL_count_r1 ++ (wsL_count_r2 ++ (wsL_count_r3 ++ (wsL_count_r4 ++ wsL_count_r5)))) ++ wsX40 ++ wsX10 ++ wsX00 ++ wsX20 ++ (vx_atS RX4 91 "java/lang/IndexOutOfBoundsException" ["java/lang/RuntimeException", "java/lang/Exception"]).filter goodWord)
def wsL_ways_r1 : List Cond := [Cond.classLink RL 13 "java/lang/IllegalArgumentException", Cond.methodLink RL 43 yX4_ways, Cond.instanceMethod yX4_ways, Cond.selects RX4 yX4_ways yX4_ways, Cond.initialized RX4, Cond.code yX4_ways cX4_ways 5 (some .int), Cond.methodLink RX4 100 yX4_checkPartition, Cond.static yX4_checkPartition, Cond.code yX4_checkPartition cX4_checkPartition 2 none, Cond.classLink RX4 25 "java/lang/IllegalArgumentException", Cond.initialized "java/lang/IllegalArgumentException", Cond.methodLink RX4 103 yX4_isPartition, Cond.static yX4_isPartition, Cond.code yX4_isPartition cX4_isPartition 3 (some .boolean), Cond.methodLink RX4 160 yJ6_bitCount_0f7a4, Cond.static yJ6_bitCount_0f7a4, Cond.initialized RJ6, Cond.code yJ6_bitCount_0f7a4 cJ6_bitCount_0f7a4 1 (some .int), Cond.constant RJ6 265 (1431655765), Cond.constant RJ6 266 (858993459), Cond.constant RJ6 267 (252645135), Cond.methodLink RX4 165 yX4_totalOf, Cond.static yX4_totalOf, Cond.code yX4_totalOf cX4_totalOf 3 (some .int)]
def wsL_ways_r2 : List Cond := [Cond.methodLink RX4 168 yX4_hasNumber, Cond.static yX4_hasNumber, Cond.code yX4_hasNumber cX4_hasNumber 2 (some .boolean)]
def wsL_ways : List Cond := .codeWith yL_ways cL_ways 5 (some .int) [(0, 10, 13, 13)] :: ((wsL_ways_r1 ++ wsL_ways_r2) ++ (vx_atS RX4 29 "java/lang/IllegalArgumentException" ["java/lang/RuntimeException", "java/lang/Exception"]).filter goodWord)
def wsL_forced_r1 : List Cond := [Cond.classLink RL 13 "java/lang/IllegalArgumentException", Cond.methodLink RL 46 yX4_forced, Cond.instanceMethod yX4_forced, Cond.selects RX4 yX4_forced yX4_forced, Cond.initialized RX4, Cond.code yX4_forced cX4_forced 6 (some .int), Cond.methodLink RX4 100 yX4_checkPartition, Cond.static yX4_checkPartition, Cond.code yX4_checkPartition cX4_checkPartition 2 none, Cond.classLink RX4 25 "java/lang/IllegalArgumentException", Cond.initialized "java/lang/IllegalArgumentException", Cond.methodLink RX4 103 yX4_isPartition, Cond.static yX4_isPartition, Cond.code yX4_isPartition cX4_isPartition 3 (some .boolean), Cond.methodLink RX4 160 yJ6_bitCount_0f7a4, Cond.static yJ6_bitCount_0f7a4, Cond.initialized RJ6, Cond.code yJ6_bitCount_0f7a4 cJ6_bitCount_0f7a4 1 (some .int), Cond.constant RJ6 265 (1431655765), Cond.constant RJ6 266 (858993459), Cond.constant RJ6 267 (252645135), Cond.methodLink RX4 165 yX4_totalOf, Cond.static yX4_totalOf, Cond.code yX4_totalOf cX4_totalOf 3 (some .int)]
def wsL_forced_r2 : List Cond := [Cond.methodLink RX4 168 yX4_hasNumber, Cond.static yX4_hasNumber, Cond.code yX4_hasNumber cX4_hasNumber 2 (some .boolean)]
def wsL_forced : List Cond := .codeWith yL_forced cL_forced 5 (some .int) [(0, 10, 13, 13)] :: ((wsL_forced_r1 ++ wsL_forced_r2) ++ (vx_atS RX4 29 "java/lang/IllegalArgumentException" ["java/lang/RuntimeException", "java/lang/Exception"]).filter goodWord)
def wsL_solved_r1 : List Cond := [Cond.classLink RL 19 "java/lang/IndexOutOfBoundsException", Cond.methodLink RL 49 yX4_solved, Cond.instanceMethod yX4_solved, Cond.selects RX4 yX4_solved yX4_solved, Cond.initialized RX4, Cond.code yX4_solved cX4_solved 2 (some .int), Cond.fieldLink RX4 10 "CryptSums" "floor" "LCryptSums$Floor;", Cond.fieldLink RX4 21 "CryptSums" "search" "LCryptSums$Search;", Cond.methodLink RX4 43 yX4_checkCell, Cond.instanceMethod yX4_checkCell, Cond.selects RX4 yX4_checkCell yX4_checkCell, Cond.code yX4_checkCell cX4_checkCell 2 none, Cond.classLink RX4 87 "java/lang/IndexOutOfBoundsException", Cond.initialized "java/lang/IndexOutOfBoundsException", Cond.methodLink RX4 146 yX1_has, Cond.instanceMethod yX1_has, Cond.selects RX1 yX1_has yX1_has, Cond.initialized RX1, Cond.code yX1_has cX1_has 2 (some .boolean), Cond.methodLink RX1 54 yX1_cells, Cond.instanceMethod yX1_cells, Cond.selects RX1 yX1_cells yX1_cells, Cond.code yX1_cells cX1_cells 1 (some .int), Cond.fieldLink RX1 34 "CryptSums$Floor" "columns" "I"]
def wsL_solved_r2 : List Cond := [Cond.fieldLink RX1 38 "CryptSums$Floor" "rows" "I", Cond.methodLink RX4 50 yX1_isPillar, Cond.instanceMethod yX1_isPillar, Cond.selects RX1 yX1_isPillar yX1_isPillar, Cond.code yX1_isPillar cX1_isPillar 2 (some .boolean), Cond.fieldLink RX1 12 "CryptSums$Floor" "stones" "[I", Cond.static yX4_read, Cond.code yX4_read cX4_read 2 (some .int), Cond.methodLink RX4 107 yX3_refresh, Cond.instanceMethod yX3_refresh, Cond.selects RX3 yX3_refresh yX3_refresh, Cond.initialized RX3, Cond.code yX3_refresh cX3_refresh 1 none, Cond.fieldLink RX3 32 "CryptSums$Search" "fresh" "Z", Cond.fieldLink RX3 22 "CryptSums$Search" "holeCount" "I", Cond.fieldLink RX3 26 "CryptSums$Search" "tried" "I", Cond.fieldLink RX3 29 "CryptSums$Search" "found" "I", Cond.fieldLink RX3 9 "CryptSums$Search" "floor" "LCryptSums$Floor;", Cond.methodLink RX3 36 yX1_isAllWell, Cond.instanceMethod yX1_isAllWell, Cond.selects RX1 yX1_isAllWell yX1_isAllWell, Cond.code yX1_isAllWell cX1_isAllWell 1 (some .boolean), Cond.fieldLink RX1 23 "CryptSums$Floor" "across" "LCryptSums$Corridors;", Cond.fieldLink RX1 27 "CryptSums$Floor" "down" "LCryptSums$Corridors;"]
def wsL_solved_r3 : List Cond := [Cond.methodLink RX1 73 yX1_wellOf, Cond.instanceMethod yX1_wellOf, Cond.selects RX1 yX1_wellOf yX1_wellOf, Cond.code yX1_wellOf cX1_wellOf 4 (some .int), Cond.methodLink RX1 98 yX0_beginsAt, Cond.instanceMethod yX0_beginsAt, Cond.selects RX0 yX0_beginsAt yX0_beginsAt, Cond.initialized RX0, Cond.code yX0_beginsAt cX0_beginsAt 2 (some .boolean), Cond.fieldLink RX0 22 "CryptSums$Corridors" "first" "[I", Cond.methodLink RX1 104 yX0_isWellFrom, Cond.instanceMethod yX0_isWellFrom, Cond.selects RX0 yX0_isWellFrom yX0_isWellFrom, Cond.code yX0_isWellFrom cX0_isWellFrom 4 (some .boolean), Cond.fieldLink RX0 19 "CryptSums$Corridors" "told" "[I", Cond.fieldLink RX0 25 "CryptSums$Corridors" "size" "[I", Cond.fieldLink RX0 44 "CryptSums$Corridors" "seenStones" "I", Cond.fieldLink RX0 15 "CryptSums$Corridors" "partitions" "LCryptSums$Partitions;", Cond.fieldLink RX0 58 "CryptSums$Corridors" "seenNumbers" "I", Cond.fieldLink RX0 47 "CryptSums$Corridors" "seenTotal" "I", Cond.methodLink RX0 40 yX0_look, Cond.instanceMethod yX0_look, Cond.selects RX0 yX0_look yX0_look, Cond.code yX0_look cX0_look 5 none]
def wsL_solved_r4 : List Cond := [Cond.fieldLink RX0 9 "CryptSums$Corridors" "stones" "[I", Cond.fieldLink RX0 28 "CryptSums$Corridors" "step" "I", Cond.methodLink RX0 54 yX0_sawAlike, Cond.instanceMethod yX0_sawAlike, Cond.selects RX0 yX0_sawAlike yX0_sawAlike, Cond.code yX0_sawAlike cX0_sawAlike 1 (some .boolean), Cond.methodLink RX0 67 yJ6_bitCount_0f7a4, Cond.static yJ6_bitCount_0f7a4, Cond.initialized RJ6, Cond.code yJ6_bitCount_0f7a4 cJ6_bitCount_0f7a4 1 (some .int), Cond.constant RJ6 265 (1431655765), Cond.constant RJ6 266 (858993459), Cond.constant RJ6 267 (252645135), Cond.methodLink RX0 61 yX2_make, Cond.instanceMethod yX2_make, Cond.selects RX2 yX2_make yX2_make, Cond.initialized RX2, Cond.code yX2_make cX2_make 5 (some .boolean), Cond.fieldLink RX2 11 "CryptSums$Partitions" "sums" "[J", Cond.methodLink RX1 77 yX1_corridorsOf, Cond.instanceMethod yX1_corridorsOf, Cond.selects RX1 yX1_corridorsOf yX1_corridorsOf, Cond.code yX1_corridorsOf cX1_corridorsOf 4 (some .int), Cond.methodLink RX3 42 yX3_collectHoles]
def wsL_solved_r5 : List Cond := [Cond.instanceMethod yX3_collectHoles, Cond.selects RX3 yX3_collectHoles yX3_collectHoles, Cond.code yX3_collectHoles cX3_collectHoles 2 none, Cond.fieldLink RX3 15 "CryptSums$Search" "holes" "[I", Cond.methodLink RX3 56 yX1_cells, Cond.methodLink RX3 60 yX1_isHole, Cond.instanceMethod yX1_isHole, Cond.selects RX1 yX1_isHole yX1_isHole, Cond.code yX1_isHole cX1_isHole 2 (some .boolean), Cond.static yX4_write, Cond.code yX4_write cX4_write 3 none, Cond.methodLink RX3 45 yX3_fillFrom, Cond.static yX3_fillFrom, Cond.code yX3_fillFrom cX3_fillFrom 6 none, Cond.methodLink RX3 68 yX3_keepFilling, Cond.instanceMethod yX3_keepFilling, Cond.selects RX3 yX3_keepFilling yX3_keepFilling, Cond.code yX3_keepFilling cX3_keepFilling 2 none, Cond.fieldLink RX3 19 "CryptSums$Search" "kept" "[I", Cond.methodLink RX3 86 yX1_stoneAt, Cond.instanceMethod yX1_stoneAt, Cond.selects RX1 yX1_stoneAt yX1_stoneAt, Cond.code yX1_stoneAt cX1_stoneAt 2 (some .int), Cond.methodLink RX3 71 yX1_numbersFor]
def wsL_solved_r6 : List Cond := [Cond.instanceMethod yX1_numbersFor, Cond.selects RX1 yX1_numbersFor yX1_numbersFor, Cond.code yX1_numbersFor cX1_numbersFor 2 (some .int), Cond.methodLink RX1 66 yX1_isHole, Cond.methodLink RX1 69 yX0_numbersFor, Cond.instanceMethod yX0_numbersFor, Cond.selects RX0 yX0_numbersFor yX0_numbersFor, Cond.code yX0_numbersFor cX0_numbersFor 10 (some .int), Cond.methodLink RX3 75 yX3_isOver, Cond.instanceMethod yX3_isOver, Cond.selects RX3 yX3_isOver yX3_isOver, Cond.code yX3_isOver cX3_isOver 1 (some .boolean), Cond.methodLink RX3 49 yX3_isUnknown, Cond.instanceMethod yX3_isUnknown, Cond.selects RX3 yX3_isUnknown yX3_isUnknown, Cond.code yX3_isUnknown cX3_isUnknown 1 (some .boolean), Cond.static yX4_hasNumber, Cond.code yX4_hasNumber cX4_hasNumber 2 (some .boolean), Cond.methodLink RX3 82 yX1_lay, Cond.instanceMethod yX1_lay, Cond.selects RX1 yX1_lay yX1_lay, Cond.code yX1_lay cX1_lay 3 none, Cond.methodLink RX4 116 yX3_firstFilling, Cond.instanceMethod yX3_firstFilling]
def wsL_solved_r7 : List Cond := [Cond.selects RX3 yX3_firstFilling yX3_firstFilling, Cond.code yX3_firstFilling cX3_firstFilling 2 (some .int)]
def wsL_solved : List Cond := .codeWith yL_solved cL_solved 4 (some .int) [(0, 9, 12, 19)] :: ((wsL_solved_r1 ++ (wsL_solved_r2 ++ (wsL_solved_r3 ++ (wsL_solved_r4 ++ (wsL_solved_r5 ++ (wsL_solved_r6 ++ wsL_solved_r7)))))) ++ wsX40 ++ wsX10 ++ wsX30 ++ wsX00 ++ wsX20 ++ (vx_atS RX4 91 "java/lang/IndexOutOfBoundsException" ["java/lang/RuntimeException", "java/lang/Exception"]).filter goodWord)
def wsL_would_r1 : List Cond := [Cond.classLink RL 19 "java/lang/IndexOutOfBoundsException", Cond.classLink RL 13 "java/lang/IllegalArgumentException", Cond.classLink RL 28 "java/lang/IllegalStateException", Cond.methodLink RL 52 yX4_would, Cond.instanceMethod yX4_would, Cond.selects RX4 yX4_would yX4_would, Cond.initialized RX4, Cond.code yX4_would cX4_would 5 (some .int), Cond.classLink RX4 25 "java/lang/IllegalArgumentException", Cond.initialized "java/lang/IllegalArgumentException", Cond.fieldLink RX4 10 "CryptSums" "floor" "LCryptSums$Floor;", Cond.fieldLink RX4 21 "CryptSums" "search" "LCryptSums$Search;", Cond.methodLink RX4 43 yX4_checkCell, Cond.instanceMethod yX4_checkCell, Cond.selects RX4 yX4_checkCell yX4_checkCell, Cond.code yX4_checkCell cX4_checkCell 2 none, Cond.classLink RX4 87 "java/lang/IndexOutOfBoundsException", Cond.initialized "java/lang/IndexOutOfBoundsException", Cond.methodLink RX4 146 yX1_has, Cond.instanceMethod yX1_has, Cond.selects RX1 yX1_has yX1_has, Cond.initialized RX1, Cond.code yX1_has cX1_has 2 (some .boolean), Cond.methodLink RX1 54 yX1_cells]
def wsL_would_r2 : List Cond := [Cond.instanceMethod yX1_cells, Cond.selects RX1 yX1_cells yX1_cells, Cond.code yX1_cells cX1_cells 1 (some .int), Cond.fieldLink RX1 34 "CryptSums$Floor" "columns" "I", Cond.fieldLink RX1 38 "CryptSums$Floor" "rows" "I", Cond.methodLink RX4 68 yX4_checkOpen, Cond.instanceMethod yX4_checkOpen, Cond.selects RX4 yX4_checkOpen yX4_checkOpen, Cond.code yX4_checkOpen cX4_checkOpen 2 none, Cond.classLink RX4 151 "java/lang/IllegalStateException", Cond.initialized "java/lang/IllegalStateException", Cond.methodLink RX4 50 yX1_isPillar, Cond.instanceMethod yX1_isPillar, Cond.selects RX1 yX1_isPillar yX1_isPillar, Cond.code yX1_isPillar cX1_isPillar 2 (some .boolean), Cond.fieldLink RX1 12 "CryptSums$Floor" "stones" "[I", Cond.static yX4_read, Cond.code yX4_read cX4_read 2 (some .int), Cond.methodLink RX4 71 yX1_stoneAt, Cond.instanceMethod yX1_stoneAt, Cond.selects RX1 yX1_stoneAt yX1_stoneAt, Cond.code yX1_stoneAt cX1_stoneAt 2 (some .int), Cond.methodLink RX4 75 yX1_lay, Cond.instanceMethod yX1_lay]
def wsL_would_r3 : List Cond := [Cond.selects RX1 yX1_lay yX1_lay, Cond.code yX1_lay cX1_lay 3 none, Cond.static yX4_write, Cond.code yX4_write cX4_write 3 none, Cond.methodLink RX4 32 yX3_forget, Cond.instanceMethod yX3_forget, Cond.selects RX3 yX3_forget yX3_forget, Cond.initialized RX3, Cond.code yX3_forget cX3_forget 1 none, Cond.fieldLink RX3 32 "CryptSums$Search" "fresh" "Z", Cond.methodLink RX4 107 yX3_refresh, Cond.instanceMethod yX3_refresh, Cond.selects RX3 yX3_refresh yX3_refresh, Cond.code yX3_refresh cX3_refresh 1 none, Cond.fieldLink RX3 22 "CryptSums$Search" "holeCount" "I", Cond.fieldLink RX3 26 "CryptSums$Search" "tried" "I", Cond.fieldLink RX3 29 "CryptSums$Search" "found" "I", Cond.fieldLink RX3 9 "CryptSums$Search" "floor" "LCryptSums$Floor;", Cond.methodLink RX3 36 yX1_isAllWell, Cond.instanceMethod yX1_isAllWell, Cond.selects RX1 yX1_isAllWell yX1_isAllWell, Cond.code yX1_isAllWell cX1_isAllWell 1 (some .boolean), Cond.fieldLink RX1 23 "CryptSums$Floor" "across" "LCryptSums$Corridors;", Cond.fieldLink RX1 27 "CryptSums$Floor" "down" "LCryptSums$Corridors;"]
def wsL_would_r4 : List Cond := [Cond.methodLink RX1 73 yX1_wellOf, Cond.instanceMethod yX1_wellOf, Cond.selects RX1 yX1_wellOf yX1_wellOf, Cond.code yX1_wellOf cX1_wellOf 4 (some .int), Cond.methodLink RX1 98 yX0_beginsAt, Cond.instanceMethod yX0_beginsAt, Cond.selects RX0 yX0_beginsAt yX0_beginsAt, Cond.initialized RX0, Cond.code yX0_beginsAt cX0_beginsAt 2 (some .boolean), Cond.fieldLink RX0 22 "CryptSums$Corridors" "first" "[I", Cond.methodLink RX1 104 yX0_isWellFrom, Cond.instanceMethod yX0_isWellFrom, Cond.selects RX0 yX0_isWellFrom yX0_isWellFrom, Cond.code yX0_isWellFrom cX0_isWellFrom 4 (some .boolean), Cond.fieldLink RX0 19 "CryptSums$Corridors" "told" "[I", Cond.fieldLink RX0 25 "CryptSums$Corridors" "size" "[I", Cond.fieldLink RX0 44 "CryptSums$Corridors" "seenStones" "I", Cond.fieldLink RX0 15 "CryptSums$Corridors" "partitions" "LCryptSums$Partitions;", Cond.fieldLink RX0 58 "CryptSums$Corridors" "seenNumbers" "I", Cond.fieldLink RX0 47 "CryptSums$Corridors" "seenTotal" "I", Cond.methodLink RX0 40 yX0_look, Cond.instanceMethod yX0_look, Cond.selects RX0 yX0_look yX0_look, Cond.code yX0_look cX0_look 5 none]
def wsL_would_r5 : List Cond := [Cond.fieldLink RX0 9 "CryptSums$Corridors" "stones" "[I", Cond.fieldLink RX0 28 "CryptSums$Corridors" "step" "I", Cond.methodLink RX0 54 yX0_sawAlike, Cond.instanceMethod yX0_sawAlike, Cond.selects RX0 yX0_sawAlike yX0_sawAlike, Cond.code yX0_sawAlike cX0_sawAlike 1 (some .boolean), Cond.methodLink RX0 67 yJ6_bitCount_0f7a4, Cond.static yJ6_bitCount_0f7a4, Cond.initialized RJ6, Cond.code yJ6_bitCount_0f7a4 cJ6_bitCount_0f7a4 1 (some .int), Cond.constant RJ6 265 (1431655765), Cond.constant RJ6 266 (858993459), Cond.constant RJ6 267 (252645135), Cond.methodLink RX0 61 yX2_make, Cond.instanceMethod yX2_make, Cond.selects RX2 yX2_make yX2_make, Cond.initialized RX2, Cond.code yX2_make cX2_make 5 (some .boolean), Cond.fieldLink RX2 11 "CryptSums$Partitions" "sums" "[J", Cond.methodLink RX1 77 yX1_corridorsOf, Cond.instanceMethod yX1_corridorsOf, Cond.selects RX1 yX1_corridorsOf yX1_corridorsOf, Cond.code yX1_corridorsOf cX1_corridorsOf 4 (some .int), Cond.methodLink RX3 42 yX3_collectHoles]
def wsL_would_r6 : List Cond := [Cond.instanceMethod yX3_collectHoles, Cond.selects RX3 yX3_collectHoles yX3_collectHoles, Cond.code yX3_collectHoles cX3_collectHoles 2 none, Cond.fieldLink RX3 15 "CryptSums$Search" "holes" "[I", Cond.methodLink RX3 56 yX1_cells, Cond.methodLink RX3 60 yX1_isHole, Cond.instanceMethod yX1_isHole, Cond.selects RX1 yX1_isHole yX1_isHole, Cond.code yX1_isHole cX1_isHole 2 (some .boolean), Cond.methodLink RX3 45 yX3_fillFrom, Cond.static yX3_fillFrom, Cond.code yX3_fillFrom cX3_fillFrom 6 none, Cond.methodLink RX3 68 yX3_keepFilling, Cond.instanceMethod yX3_keepFilling, Cond.selects RX3 yX3_keepFilling yX3_keepFilling, Cond.code yX3_keepFilling cX3_keepFilling 2 none, Cond.fieldLink RX3 19 "CryptSums$Search" "kept" "[I", Cond.methodLink RX3 86 yX1_stoneAt, Cond.methodLink RX3 71 yX1_numbersFor, Cond.instanceMethod yX1_numbersFor, Cond.selects RX1 yX1_numbersFor yX1_numbersFor, Cond.code yX1_numbersFor cX1_numbersFor 2 (some .int), Cond.methodLink RX1 66 yX1_isHole, Cond.methodLink RX1 69 yX0_numbersFor]
def wsL_would_r7 : List Cond := [Cond.instanceMethod yX0_numbersFor, Cond.selects RX0 yX0_numbersFor yX0_numbersFor, Cond.code yX0_numbersFor cX0_numbersFor 10 (some .int), Cond.methodLink RX3 75 yX3_isOver, Cond.instanceMethod yX3_isOver, Cond.selects RX3 yX3_isOver yX3_isOver, Cond.code yX3_isOver cX3_isOver 1 (some .boolean), Cond.methodLink RX3 49 yX3_isUnknown, Cond.instanceMethod yX3_isUnknown, Cond.selects RX3 yX3_isUnknown yX3_isUnknown, Cond.code yX3_isUnknown cX3_isUnknown 1 (some .boolean), Cond.static yX4_hasNumber, Cond.code yX4_hasNumber cX4_hasNumber 2 (some .boolean), Cond.methodLink RX3 82 yX1_lay, Cond.methodLink RX4 110 yX3_told, Cond.instanceMethod yX3_told, Cond.selects RX3 yX3_told yX3_told, Cond.code yX3_told cX3_told 1 (some .int)]
def wsL_would : List Cond := .codeWith yL_would cL_would 5 (some .int) [(0, 10, 13, 19), (0, 10, 17, 13), (0, 10, 21, 28)] :: ((wsL_would_r1 ++ (wsL_would_r2 ++ (wsL_would_r3 ++ (wsL_would_r4 ++ (wsL_would_r5 ++ (wsL_would_r6 ++ wsL_would_r7)))))) ++ wsX40 ++ wsX10 ++ wsX30 ++ wsX00 ++ wsX20 ++ (vx_atS RX4 29 "java/lang/IllegalArgumentException" ["java/lang/RuntimeException", "java/lang/Exception"]).filter goodWord ++ (vx_atS RX4 91 "java/lang/IndexOutOfBoundsException" ["java/lang/RuntimeException", "java/lang/Exception"]).filter goodWord ++ (vx_atS RX4 155 "java/lang/IllegalStateException" ["java/lang/RuntimeException", "java/lang/Exception"]).filter goodWord)
def wsL_law0_r1 : List Cond := [Cond.classLink RL 8 RX4, Cond.instantiable RX4 2, Cond.initialized RX4, Cond.classLink RL 56 RX5, Cond.instantiable RX5 12, Cond.initialized RX5, Cond.arrayClass .long, Cond.methodLink RL 55 yX4_init, Cond.instanceMethod yX4_init, Cond.code yX4_init cX4_init 1 none, Cond.methodLink RX4 1 objectInit, Cond.instanceMethod objectInit, Cond.code objectInit ⟨#[0xb1]⟩ 1 none, Cond.classLink RX4 7 RX1, Cond.instantiable RX1 5, Cond.initialized RX1, Cond.fieldLink RX4 10 "CryptSums" "floor" "LCryptSums$Floor;", Cond.classLink RX4 16 RX3, Cond.instantiable RX3 7, Cond.initialized RX3, Cond.fieldLink RX4 21 "CryptSums" "search" "LCryptSums$Search;", Cond.methodLink RX4 9 yX1_init, Cond.instanceMethod yX1_init, Cond.code yX1_init cX1_init 3 none]
def wsL_law0_r2 : List Cond := [Cond.methodLink RX1 3 objectInit, Cond.arrayClass .int, Cond.classLink RX1 9 RX2, Cond.instantiable RX2 1, Cond.initialized RX2, Cond.fieldLink RX1 12 "CryptSums$Floor" "stones" "[I", Cond.classLink RX1 18 RX0, Cond.instantiable RX0 9, Cond.initialized RX0, Cond.fieldLink RX1 23 "CryptSums$Floor" "across" "LCryptSums$Corridors;", Cond.fieldLink RX1 27 "CryptSums$Floor" "down" "LCryptSums$Corridors;", Cond.methodLink RX1 11 yX2_init, Cond.instanceMethod yX2_init, Cond.code yX2_init cX2_init 3 none, Cond.methodLink RX2 3 objectInit, Cond.fieldLink RX2 11 "CryptSums$Partitions" "sums" "[J", Cond.methodLink RX2 15 yX2_keepSums, Cond.instanceMethod yX2_keepSums, Cond.selects RX2 yX2_keepSums yX2_keepSums, Cond.code yX2_keepSums cX2_keepSums 6 none, Cond.methodLink RX2 19 yX2_addHighest, Cond.instanceMethod yX2_addHighest, Cond.selects RX2 yX2_addHighest yX2_addHighest, Cond.code yX2_addHighest cX2_addHighest 9 none]
def wsL_law0_r3 : List Cond := [Cond.methodLink RX2 23 yX2_sumsOf, Cond.instanceMethod yX2_sumsOf, Cond.selects RX2 yX2_sumsOf yX2_sumsOf, Cond.code yX2_sumsOf cX2_sumsOf 4 (some .long), Cond.methodLink RX1 20 yX0_init, Cond.instanceMethod yX0_init, Cond.code yX0_init cX0_init 3 none, Cond.methodLink RX0 3 objectInit, Cond.fieldLink RX0 9 "CryptSums$Corridors" "stones" "[I", Cond.fieldLink RX0 15 "CryptSums$Corridors" "partitions" "LCryptSums$Partitions;", Cond.fieldLink RX0 19 "CryptSums$Corridors" "told" "[I", Cond.fieldLink RX0 22 "CryptSums$Corridors" "first" "[I", Cond.fieldLink RX0 25 "CryptSums$Corridors" "size" "[I", Cond.fieldLink RX0 28 "CryptSums$Corridors" "step" "I", Cond.methodLink RX1 30 yX1_clear, Cond.instanceMethod yX1_clear, Cond.selects RX1 yX1_clear yX1_clear, Cond.code yX1_clear cX1_clear 4 none, Cond.fieldLink RX1 34 "CryptSums$Floor" "columns" "I", Cond.fieldLink RX1 38 "CryptSums$Floor" "rows" "I", Cond.static yX4_write, Cond.code yX4_write cX4_write 3 none, Cond.methodLink RX1 45 yX0_clear, Cond.instanceMethod yX0_clear]
def wsL_law0_r4 : List Cond := [Cond.selects RX0 yX0_clear yX0_clear, Cond.code yX0_clear cX0_clear 3 none, Cond.methodLink RX1 48 yX1_joinCells, Cond.instanceMethod yX1_joinCells, Cond.selects RX1 yX1_joinCells yX1_joinCells, Cond.code yX1_joinCells cX1_joinCells 4 none, Cond.methodLink RX1 51 yX0_join, Cond.instanceMethod yX0_join, Cond.selects RX0 yX0_join yX0_join, Cond.code yX0_join cX0_join 4 none, Cond.static yX4_read, Cond.code yX4_read cX4_read 2 (some .int), Cond.methodLink RX4 18 yX3_init, Cond.instanceMethod yX3_init, Cond.code yX3_init cX3_init 2 none, Cond.methodLink RX3 3 objectInit, Cond.fieldLink RX3 9 "CryptSums$Search" "floor" "LCryptSums$Floor;", Cond.fieldLink RX3 15 "CryptSums$Search" "holes" "[I", Cond.fieldLink RX3 19 "CryptSums$Search" "kept" "[I", Cond.fieldLink RX3 22 "CryptSums$Search" "holeCount" "I", Cond.fieldLink RX3 26 "CryptSums$Search" "tried" "I", Cond.fieldLink RX3 29 "CryptSums$Search" "found" "I", Cond.fieldLink RX3 32 "CryptSums$Search" "fresh" "Z", Cond.methodLink RL 58 yX5_init]
def wsL_law0_r5 : List Cond := [Cond.instanceMethod yX5_init, Cond.code yX5_init cX5_init 4 none, Cond.methodLink RX5 1 objectInit, Cond.fieldLink RX5 7 "CryptSumsModel" "w" "I", Cond.fieldLink RX5 13 "CryptSumsModel" "h" "I", Cond.fieldLink RX5 16 "CryptSumsModel" "stones" "[I", Cond.fieldLink RX5 20 "CryptSumsModel" "sums" "[I", Cond.fieldLink RX5 23 "CryptSumsModel" "begins" "[I", Cond.fieldLink RX5 26 "CryptSumsModel" "sets" "[I", Cond.fieldLink RX5 29 "CryptSumsModel" "first" "[I", Cond.fieldLink RX5 32 "CryptSumsModel" "filled" "[I", Cond.methodLink RX5 35 yJ6_bitCount_0f7a4, Cond.static yJ6_bitCount_0f7a4, Cond.initialized RJ6, Cond.code yJ6_bitCount_0f7a4 cJ6_bitCount_0f7a4 1 (some .int), Cond.constant RJ6 265 (1431655765), Cond.constant RJ6 266 (858993459), Cond.constant RJ6 267 (252645135), Cond.methodLink RX5 41 yX5_sumOf, Cond.static yX5_sumOf, Cond.code yX5_sumOf cX5_sumOf 3 (some .int), Cond.methodLink RX5 44 yX5_link, Cond.instanceMethod yX5_link, Cond.selects RX5 yX5_link yX5_link]
def wsL_law0_r6 : List Cond := [Cond.code yX5_link cX5_link 4 none, Cond.methodLink RL 59 yL_setFloor, Cond.static yL_setFloor, Cond.initialized RL, Cond.codeWith yL_setFloor cL_setFloor 5 (some .int) [(0, 10, 13, 13)], Cond.classLink RL 13 "java/lang/IllegalArgumentException", Cond.methodLink RL 7 yX4_setFloor, Cond.instanceMethod yX4_setFloor, Cond.selects RX4 yX4_setFloor yX4_setFloor, Cond.code yX4_setFloor cX4_setFloor 3 (some .int), Cond.classLink RX4 25 "java/lang/IllegalArgumentException", Cond.initialized "java/lang/IllegalArgumentException", Cond.methodLink RX4 32 yX3_forget, Cond.instanceMethod yX3_forget, Cond.selects RX3 yX3_forget yX3_forget, Cond.code yX3_forget cX3_forget 1 none, Cond.methodLink RX4 35 yX1_clear, Cond.methodLink RX4 39 yX1_cells, Cond.instanceMethod yX1_cells, Cond.selects RX1 yX1_cells yX1_cells, Cond.code yX1_cells cX1_cells 1 (some .int), Cond.methodLink RL 64 yX5_setFloor, Cond.instanceMethod yX5_setFloor, Cond.selects RX5 yX5_setFloor yX5_setFloor]
def wsL_law0_r7 : List Cond := [Cond.code yX5_setFloor cX5_setFloor 4 (some .int), Cond.fieldLink RX5 47 "CryptSumsModel" "thrown" "I", Cond.methodLink RX5 50 yX5_isIn, Cond.static yX5_isIn, Cond.code yX5_isIn cX5_isIn 3 (some .boolean), Cond.methodLink RX5 102 yX5_no, Cond.instanceMethod yX5_no, Cond.selects RX5 yX5_no yX5_no, Cond.code yX5_no cX5_no 2 (some .int), Cond.methodLink RL 65 yX5_thrown, Cond.instanceMethod yX5_thrown, Cond.selects RX5 yX5_thrown yX5_thrown, Cond.code yX5_thrown cX5_thrown 1 (some .int), Cond.methodLink RL 69 yL_pillar, Cond.static yL_pillar, Cond.codeWith yL_pillar cL_pillar 4 (some .int) [(0, 16, 19, 19)], Cond.classLink RL 19 "java/lang/IndexOutOfBoundsException", Cond.methodLink RL 15 yX4_pillar, Cond.instanceMethod yX4_pillar, Cond.selects RX4 yX4_pillar yX4_pillar, Cond.code yX4_pillar cX4_pillar 2 (some .boolean), Cond.methodLink RX4 43 yX4_checkCell, Cond.instanceMethod yX4_checkCell, Cond.selects RX4 yX4_checkCell yX4_checkCell]
def wsL_law0_r8 : List Cond := [Cond.code yX4_checkCell cX4_checkCell 2 none, Cond.classLink RX4 87 "java/lang/IndexOutOfBoundsException", Cond.initialized "java/lang/IndexOutOfBoundsException", Cond.methodLink RX4 146 yX1_has, Cond.instanceMethod yX1_has, Cond.selects RX1 yX1_has yX1_has, Cond.code yX1_has cX1_has 2 (some .boolean), Cond.methodLink RX1 54 yX1_cells, Cond.methodLink RX4 47 yX1_turnPillar, Cond.instanceMethod yX1_turnPillar, Cond.selects RX1 yX1_turnPillar yX1_turnPillar, Cond.code yX1_turnPillar cX1_turnPillar 2 none, Cond.methodLink RX1 62 yX1_isPillar, Cond.instanceMethod yX1_isPillar, Cond.selects RX1 yX1_isPillar yX1_isPillar, Cond.code yX1_isPillar cX1_isPillar 2 (some .boolean), Cond.methodLink RX4 50 yX1_isPillar, Cond.methodLink RL 72 yX5_pillar, Cond.instanceMethod yX5_pillar, Cond.selects RX5 yX5_pillar yX5_pillar, Cond.code yX5_pillar cX5_pillar 2 (some .boolean), Cond.methodLink RX5 105 yX5_isCell, Cond.instanceMethod yX5_isCell, Cond.selects RX5 yX5_isCell yX5_isCell]
def wsL_law0_r9 : List Cond := [Cond.code yX5_isCell cX5_isCell 2 (some .boolean), Cond.methodLink RL 73 yL_setSum, Cond.static yL_setSum, Cond.codeWith yL_setSum cL_setSum 6 (some .int) [(0, 12, 15, 19), (0, 12, 19, 13)], Cond.methodLink RL 21 yX4_setSum, Cond.instanceMethod yX4_setSum, Cond.selects RX4 yX4_setSum yX4_setSum, Cond.code yX4_setSum cX4_setSum 4 (some .int), Cond.methodLink RX4 56 yX1_corridors, Cond.instanceMethod yX1_corridors, Cond.selects RX1 yX1_corridors yX1_corridors, Cond.code yX1_corridors cX1_corridors 2 (some (.object "CryptSums$Corridors")), Cond.methodLink RX4 60 yX0_tellSum, Cond.instanceMethod yX0_tellSum, Cond.selects RX0 yX0_tellSum yX0_tellSum, Cond.code yX0_tellSum cX0_tellSum 4 (some .int), Cond.methodLink RL 76 yX5_setSum, Cond.instanceMethod yX5_setSum, Cond.selects RX5 yX5_setSum yX5_setSum, Cond.code yX5_setSum cX5_setSum 6 (some .int), Cond.methodLink RL 77 yL_put, Cond.static yL_put, Cond.codeWith yL_put cL_put 5 (some .int) [(0, 10, 13, 19), (0, 10, 17, 13), (0, 10, 21, 28)], Cond.classLink RL 28 "java/lang/IllegalStateException"]
def wsL_law0_r10 : List Cond := [Cond.methodLink RL 25 yX4_put, Cond.instanceMethod yX4_put, Cond.selects RX4 yX4_put yX4_put, Cond.code yX4_put cX4_put 4 (some .int), Cond.methodLink RX4 68 yX4_checkOpen, Cond.instanceMethod yX4_checkOpen, Cond.selects RX4 yX4_checkOpen yX4_checkOpen, Cond.code yX4_checkOpen cX4_checkOpen 2 none, Cond.classLink RX4 151 "java/lang/IllegalStateException", Cond.initialized "java/lang/IllegalStateException", Cond.methodLink RX4 71 yX1_stoneAt, Cond.instanceMethod yX1_stoneAt, Cond.selects RX1 yX1_stoneAt yX1_stoneAt, Cond.code yX1_stoneAt cX1_stoneAt 2 (some .int), Cond.methodLink RX4 75 yX1_lay, Cond.instanceMethod yX1_lay, Cond.selects RX1 yX1_lay yX1_lay, Cond.code yX1_lay cX1_lay 3 none, Cond.methodLink RL 79 yX5_put, Cond.instanceMethod yX5_put, Cond.selects RX5 yX5_put yX5_put, Cond.code yX5_put cX5_put 4 (some .int), Cond.methodLink RL 80 yX4_force, Cond.instanceMethod yX4_force]
def wsL_law0_r11 : List Cond := [Cond.selects RX4 yX4_force yX4_force, Cond.code yX4_force cX4_force 3 (some .int), Cond.methodLink RX4 78 yX1_firstSingle, Cond.instanceMethod yX1_firstSingle, Cond.selects RX1 yX1_firstSingle yX1_firstSingle, Cond.code yX1_firstSingle cX1_firstSingle 2 (some .int), Cond.methodLink RX1 80 yX1_numbersFor, Cond.instanceMethod yX1_numbersFor, Cond.selects RX1 yX1_numbersFor yX1_numbersFor, Cond.code yX1_numbersFor cX1_numbersFor 2 (some .int), Cond.methodLink RX1 66 yX1_isHole, Cond.instanceMethod yX1_isHole, Cond.selects RX1 yX1_isHole yX1_isHole, Cond.code yX1_isHole cX1_isHole 2 (some .boolean), Cond.methodLink RX1 69 yX0_numbersFor, Cond.instanceMethod yX0_numbersFor, Cond.selects RX0 yX0_numbersFor yX0_numbersFor, Cond.code yX0_numbersFor cX0_numbersFor 10 (some .int), Cond.fieldLink RX0 58 "CryptSums$Corridors" "seenNumbers" "I", Cond.fieldLink RX0 44 "CryptSums$Corridors" "seenStones" "I", Cond.fieldLink RX0 47 "CryptSums$Corridors" "seenTotal" "I", Cond.methodLink RX0 40 yX0_look, Cond.instanceMethod yX0_look, Cond.selects RX0 yX0_look yX0_look]
def wsL_law0_r12 : List Cond := [Cond.code yX0_look cX0_look 5 none, Cond.methodLink RX0 54 yX0_sawAlike, Cond.instanceMethod yX0_sawAlike, Cond.selects RX0 yX0_sawAlike yX0_sawAlike, Cond.code yX0_sawAlike cX0_sawAlike 1 (some .boolean), Cond.methodLink RX0 67 yJ6_bitCount_0f7a4, Cond.methodLink RX0 61 yX2_make, Cond.instanceMethod yX2_make, Cond.selects RX2 yX2_make yX2_make, Cond.code yX2_make cX2_make 5 (some .boolean), Cond.methodLink RX1 81 yJ6_bitCount_0f7a4, Cond.methodLink RX4 81 yX1_numbersFor, Cond.methodLink RX4 84 yX4_smallestOf, Cond.static yX4_smallestOf, Cond.code yX4_smallestOf cX4_smallestOf 2 (some .int), Cond.methodLink RX4 168 yX4_hasNumber, Cond.static yX4_hasNumber, Cond.code yX4_hasNumber cX4_hasNumber 2 (some .boolean), Cond.methodLink RL 83 yX5_force, Cond.instanceMethod yX5_force, Cond.selects RX5 yX5_force yX5_force, Cond.code yX5_force cX5_force 3 (some .int), Cond.methodLink RX5 111 yX5_single, Cond.instanceMethod yX5_single]
def wsL_law0_r13 : List Cond := [Cond.selects RX5 yX5_single yX5_single, Cond.code yX5_single cX5_single 2 (some .int), Cond.methodLink RX5 108 yX5_canOf, Cond.instanceMethod yX5_canOf, Cond.selects RX5 yX5_canOf yX5_canOf, Cond.code yX5_canOf cX5_canOf 4 (some .int), Cond.methodLink RX5 72 yX5_stands, Cond.instanceMethod yX5_stands, Cond.selects RX5 yX5_stands yX5_stands, Cond.code yX5_stands cX5_stands 4 (some .boolean), Cond.methodLink RX5 68 yX5_isWell, Cond.instanceMethod yX5_isWell, Cond.selects RX5 yX5_isWell yX5_isWell, Cond.code yX5_isWell cX5_isWell 8 (some .boolean), Cond.methodLink RX5 54 yX5_beginOf, Cond.instanceMethod yX5_beginOf, Cond.selects RX5 yX5_beginOf yX5_beginOf, Cond.code yX5_beginOf cX5_beginOf 3 (some .int), Cond.methodLink RX5 58 yX5_isOpen, Cond.instanceMethod yX5_isOpen, Cond.selects RX5 yX5_isOpen yX5_isOpen, Cond.code yX5_isOpen cX5_isOpen 2 (some .boolean), Cond.methodLink RX5 62 yX5_behind, Cond.instanceMethod yX5_behind]
def wsL_law0_r14 : List Cond := [Cond.selects RX5 yX5_behind yX5_behind, Cond.code yX5_behind cX5_behind 3 (some .int), Cond.methodLink RX5 65 yX5_isMade, Cond.instanceMethod yX5_isMade, Cond.selects RX5 yX5_isMade yX5_isMade, Cond.code yX5_isMade cX5_isMade 6 (some .boolean), Cond.methodLink RX5 115 yJ6_numberOfTrailingZeros_0f7a4, Cond.static yJ6_numberOfTrailingZeros_0f7a4, Cond.code yJ6_numberOfTrailingZeros_0f7a4 cJ6_numberOfTrailingZeros_0f7a4 2 (some .int), Cond.constant RJ6 264 (65536), Cond.methodLink RL 84 yL_stone, Cond.static yL_stone, Cond.codeWith yL_stone cL_stone 4 (some .int) [(0, 9, 12, 19)], Cond.methodLink RL 30 yX4_stone, Cond.instanceMethod yX4_stone, Cond.selects RX4 yX4_stone yX4_stone, Cond.code yX4_stone cX4_stone 2 (some .int), Cond.methodLink RL 86 yX5_stone, Cond.instanceMethod yX5_stone, Cond.selects RX5 yX5_stone yX5_stone, Cond.code yX5_stone cX5_stone 2 (some .int), Cond.methodLink RL 87 yL_corridor, Cond.static yL_corridor, Cond.codeWith yL_corridor cL_corridor 6 (some .int) [(0, 12, 15, 19)]]
def wsL_law0_r15 : List Cond := [Cond.methodLink RL 34 yX4_corridor, Cond.instanceMethod yX4_corridor, Cond.selects RX4 yX4_corridor yX4_corridor, Cond.code yX4_corridor cX4_corridor 4 (some .int), Cond.methodLink RX4 92 yX0_tell, Cond.instanceMethod yX0_tell, Cond.selects RX0 yX0_tell yX0_tell, Cond.code yX0_tell cX0_tell 4 (some .int), Cond.methodLink RX0 50 yX0_isWellFrom, Cond.instanceMethod yX0_isWellFrom, Cond.selects RX0 yX0_isWellFrom yX0_isWellFrom, Cond.code yX0_isWellFrom cX0_isWellFrom 4 (some .boolean), Cond.methodLink RL 89 yX5_corridor, Cond.instanceMethod yX5_corridor, Cond.selects RX5 yX5_corridor yX5_corridor, Cond.code yX5_corridor cX5_corridor 4 (some .int), Cond.methodLink RX5 118 yX5_corridorTold, Cond.instanceMethod yX5_corridorTold, Cond.selects RX5 yX5_corridorTold yX5_corridorTold, Cond.code yX5_corridorTold cX5_corridorTold 9 (some .int), Cond.methodLink RL 90 yL_can, Cond.static yL_can, Cond.codeWith yL_can cL_can 4 (some .int) [(0, 9, 12, 19)], Cond.methodLink RL 37 yX4_can]
def wsL_law0_r16 : List Cond := [Cond.instanceMethod yX4_can, Cond.selects RX4 yX4_can yX4_can, Cond.code yX4_can cX4_can 2 (some .int), Cond.methodLink RL 92 yX5_can, Cond.instanceMethod yX5_can, Cond.selects RX5 yX5_can yX5_can, Cond.code yX5_can cX5_can 2 (some .int), Cond.methodLink RL 93 yL_count, Cond.static yL_count, Cond.codeWith yL_count cL_count 4 (some .int) [(0, 9, 12, 19)], Cond.methodLink RL 40 yX4_count, Cond.instanceMethod yX4_count, Cond.selects RX4 yX4_count yX4_count, Cond.code yX4_count cX4_count 2 (some .int), Cond.methodLink RX4 97 yX1_tally, Cond.instanceMethod yX1_tally, Cond.selects RX1 yX1_tally yX1_tally, Cond.code yX1_tally cX1_tally 2 (some .int), Cond.methodLink RX1 86 yX1_openCells, Cond.instanceMethod yX1_openCells, Cond.selects RX1 yX1_openCells yX1_openCells, Cond.code yX1_openCells cX1_openCells 3 (some .int), Cond.methodLink RX1 89 yX1_stonesLaid, Cond.instanceMethod yX1_stonesLaid]
def wsL_law0_r17 : List Cond := [Cond.selects RX1 yX1_stonesLaid yX1_stonesLaid, Cond.code yX1_stonesLaid cX1_stonesLaid 3 (some .int), Cond.methodLink RX1 77 yX1_corridorsOf, Cond.instanceMethod yX1_corridorsOf, Cond.selects RX1 yX1_corridorsOf yX1_corridorsOf, Cond.code yX1_corridorsOf cX1_corridorsOf 4 (some .int), Cond.methodLink RX1 98 yX0_beginsAt, Cond.instanceMethod yX0_beginsAt, Cond.selects RX0 yX0_beginsAt yX0_beginsAt, Cond.code yX0_beginsAt cX0_beginsAt 2 (some .boolean), Cond.methodLink RX1 92 yX1_summedOf, Cond.instanceMethod yX1_summedOf, Cond.selects RX1 yX1_summedOf yX1_summedOf, Cond.code yX1_summedOf cX1_summedOf 4 (some .int), Cond.methodLink RX1 101 yX0_toldAt, Cond.instanceMethod yX0_toldAt, Cond.selects RX0 yX0_toldAt yX0_toldAt, Cond.code yX0_toldAt cX0_toldAt 2 (some .int), Cond.methodLink RX1 73 yX1_wellOf, Cond.instanceMethod yX1_wellOf, Cond.selects RX1 yX1_wellOf yX1_wellOf, Cond.code yX1_wellOf cX1_wellOf 4 (some .int), Cond.methodLink RX1 104 yX0_isWellFrom, Cond.methodLink RX1 95 yX1_holesWithChoices]
def wsL_law0_r18 : List Cond := [Cond.instanceMethod yX1_holesWithChoices, Cond.selects RX1 yX1_holesWithChoices yX1_holesWithChoices, Cond.code yX1_holesWithChoices cX1_holesWithChoices 4 (some .int), Cond.methodLink RL 95 yX5_count, Cond.instanceMethod yX5_count, Cond.selects RX5 yX5_count yX5_count, Cond.code yX5_count cX5_count 2 (some .int), Cond.methodLink RX5 125 yX5_counted, Cond.instanceMethod yX5_counted, Cond.selects RX5 yX5_counted yX5_counted, Cond.code yX5_counted cX5_counted 4 (some .int), Cond.methodLink RX5 122 yX5_corridors, Cond.instanceMethod yX5_corridors, Cond.selects RX5 yX5_corridors yX5_corridors, Cond.code yX5_corridors cX5_corridors 6 (some .int), Cond.methodLink RL 96 yL_ways, Cond.static yL_ways, Cond.codeWith yL_ways cL_ways 5 (some .int) [(0, 10, 13, 13)], Cond.methodLink RL 43 yX4_ways, Cond.instanceMethod yX4_ways, Cond.selects RX4 yX4_ways yX4_ways, Cond.code yX4_ways cX4_ways 5 (some .int), Cond.methodLink RX4 100 yX4_checkPartition, Cond.static yX4_checkPartition]
def wsL_law0_r19 : List Cond := [Cond.code yX4_checkPartition cX4_checkPartition 2 none, Cond.methodLink RX4 103 yX4_isPartition, Cond.static yX4_isPartition, Cond.code yX4_isPartition cX4_isPartition 3 (some .boolean), Cond.methodLink RX4 160 yJ6_bitCount_0f7a4, Cond.methodLink RX4 165 yX4_totalOf, Cond.static yX4_totalOf, Cond.code yX4_totalOf cX4_totalOf 3 (some .int), Cond.methodLink RL 98 yX5_ways, Cond.instanceMethod yX5_ways, Cond.selects RX5 yX5_ways yX5_ways, Cond.code yX5_ways cX5_ways 3 (some .int), Cond.methodLink RL 99 yL_forced, Cond.static yL_forced, Cond.codeWith yL_forced cL_forced 5 (some .int) [(0, 10, 13, 13)], Cond.methodLink RL 46 yX4_forced, Cond.instanceMethod yX4_forced, Cond.selects RX4 yX4_forced yX4_forced, Cond.code yX4_forced cX4_forced 6 (some .int), Cond.methodLink RL 101 yX5_forced, Cond.instanceMethod yX5_forced, Cond.selects RX5 yX5_forced yX5_forced, Cond.code yX5_forced cX5_forced 3 (some .int), Cond.methodLink RX5 128 yX5_forcedOf]
def wsL_law0_r20 : List Cond := [Cond.instanceMethod yX5_forcedOf, Cond.selects RX5 yX5_forcedOf yX5_forcedOf, Cond.code yX5_forcedOf cX5_forcedOf 6 (some .int), Cond.methodLink RL 102 yX4_fillings, Cond.instanceMethod yX4_fillings, Cond.selects RX4 yX4_fillings yX4_fillings, Cond.code yX4_fillings cX4_fillings 1 (some .int), Cond.methodLink RX4 107 yX3_refresh, Cond.instanceMethod yX3_refresh, Cond.selects RX3 yX3_refresh yX3_refresh, Cond.code yX3_refresh cX3_refresh 1 none, Cond.methodLink RX3 36 yX1_isAllWell, Cond.instanceMethod yX1_isAllWell, Cond.selects RX1 yX1_isAllWell yX1_isAllWell, Cond.code yX1_isAllWell cX1_isAllWell 1 (some .boolean), Cond.methodLink RX3 42 yX3_collectHoles, Cond.instanceMethod yX3_collectHoles, Cond.selects RX3 yX3_collectHoles yX3_collectHoles, Cond.code yX3_collectHoles cX3_collectHoles 2 none, Cond.methodLink RX3 56 yX1_cells, Cond.methodLink RX3 60 yX1_isHole, Cond.methodLink RX3 45 yX3_fillFrom, Cond.static yX3_fillFrom, Cond.code yX3_fillFrom cX3_fillFrom 6 none]
def wsL_law0_r21 : List Cond := [Cond.methodLink RX3 68 yX3_keepFilling, Cond.instanceMethod yX3_keepFilling, Cond.selects RX3 yX3_keepFilling yX3_keepFilling, Cond.code yX3_keepFilling cX3_keepFilling 2 none, Cond.methodLink RX3 86 yX1_stoneAt, Cond.methodLink RX3 71 yX1_numbersFor, Cond.methodLink RX3 75 yX3_isOver, Cond.instanceMethod yX3_isOver, Cond.selects RX3 yX3_isOver yX3_isOver, Cond.code yX3_isOver cX3_isOver 1 (some .boolean), Cond.methodLink RX3 49 yX3_isUnknown, Cond.instanceMethod yX3_isUnknown, Cond.selects RX3 yX3_isUnknown yX3_isUnknown, Cond.code yX3_isUnknown cX3_isUnknown 1 (some .boolean), Cond.methodLink RX3 82 yX1_lay, Cond.methodLink RX4 110 yX3_told, Cond.instanceMethod yX3_told, Cond.selects RX3 yX3_told yX3_told, Cond.code yX3_told cX3_told 1 (some .int), Cond.methodLink RL 105 yX5_fillings, Cond.instanceMethod yX5_fillings, Cond.selects RX5 yX5_fillings yX5_fillings, Cond.code yX5_fillings cX5_fillings 1 (some .int), Cond.methodLink RX5 131 yX5_look]
def wsL_law0_r22 : List Cond := [Cond.instanceMethod yX5_look, Cond.selects RX5 yX5_look yX5_look, Cond.code yX5_look cX5_look 2 none, Cond.fieldLink RX5 92 "CryptSumsModel" "tries" "I", Cond.fieldLink RX5 79 "CryptSumsModel" "ways" "I", Cond.fieldLink RX5 75 "CryptSumsModel" "isLong" "Z", Cond.methodLink RX5 99 yX5_isAllWell, Cond.instanceMethod yX5_isAllWell, Cond.selects RX5 yX5_isAllWell yX5_isAllWell, Cond.code yX5_isAllWell cX5_isAllWell 2 (some .boolean), Cond.methodLink RX5 95 yX5_fill, Cond.instanceMethod yX5_fill, Cond.selects RX5 yX5_fill yX5_fill, Cond.code yX5_fill cX5_fill 4 none, Cond.methodLink RX5 82 arraycopyName, Cond.native arraycopyName, Cond.static arraycopyName, Cond.initialized "java/lang/System", Cond.methodLink RX5 88 yX5_isOver, Cond.instanceMethod yX5_isOver, Cond.selects RX5 yX5_isOver yX5_isOver, Cond.code yX5_isOver cX5_isOver 1 (some .boolean), Cond.methodLink RX5 134 yX5_told, Cond.instanceMethod yX5_told]
def wsL_law0_r23 : List Cond := [Cond.selects RX5 yX5_told yX5_told, Cond.code yX5_told cX5_told 1 (some .int), Cond.methodLink RL 106 yX4_tries, Cond.instanceMethod yX4_tries, Cond.selects RX4 yX4_tries yX4_tries, Cond.code yX4_tries cX4_tries 1 (some .int), Cond.methodLink RX4 113 yX3_tried, Cond.instanceMethod yX3_tried, Cond.selects RX3 yX3_tried yX3_tried, Cond.code yX3_tried cX3_tried 1 (some .int), Cond.methodLink RL 109 yX5_tries, Cond.instanceMethod yX5_tries, Cond.selects RX5 yX5_tries yX5_tries, Cond.code yX5_tries cX5_tries 1 (some .int), Cond.methodLink RL 110 yL_solved, Cond.static yL_solved, Cond.codeWith yL_solved cL_solved 4 (some .int) [(0, 9, 12, 19)], Cond.methodLink RL 49 yX4_solved, Cond.instanceMethod yX4_solved, Cond.selects RX4 yX4_solved yX4_solved, Cond.code yX4_solved cX4_solved 2 (some .int), Cond.methodLink RX4 116 yX3_firstFilling, Cond.instanceMethod yX3_firstFilling, Cond.selects RX3 yX3_firstFilling yX3_firstFilling]
def wsL_law0_r24 : List Cond := [Cond.code yX3_firstFilling cX3_firstFilling 2 (some .int), Cond.methodLink RL 112 yX5_solved, Cond.instanceMethod yX5_solved, Cond.selects RX5 yX5_solved yX5_solved, Cond.code yX5_solved cX5_solved 2 (some .int), Cond.methodLink RX5 137 yX5_solvedAt, Cond.instanceMethod yX5_solvedAt, Cond.selects RX5 yX5_solvedAt yX5_solvedAt, Cond.code yX5_solvedAt cX5_solvedAt 2 (some .int), Cond.methodLink RL 113 yX4_next, Cond.instanceMethod yX4_next, Cond.selects RX4 yX4_next yX4_next, Cond.code yX4_next cX4_next 1 (some .int), Cond.methodLink RX4 119 yX1_tightest, Cond.instanceMethod yX1_tightest, Cond.selects RX1 yX1_tightest yX1_tightest, Cond.code yX1_tightest cX1_tightest 5 (some .int), Cond.methodLink RL 116 yX5_next, Cond.instanceMethod yX5_next, Cond.selects RX5 yX5_next yX5_next, Cond.code yX5_next cX5_next 5 (some .int), Cond.methodLink RL 117 yL_would, Cond.static yL_would, Cond.codeWith yL_would cL_would 5 (some .int) [(0, 10, 13, 19), (0, 10, 17, 13), (0, 10, 21, 28)]]
def wsL_law0_r25 : List Cond := [Cond.methodLink RL 52 yX4_would, Cond.instanceMethod yX4_would, Cond.selects RX4 yX4_would yX4_would, Cond.code yX4_would cX4_would 5 (some .int), Cond.methodLink RL 119 yX5_would, Cond.instanceMethod yX5_would, Cond.selects RX5 yX5_would yX5_would, Cond.code yX5_would cX5_would 4 (some .int), Cond.methodLink RL 120 yX4_mean, Cond.instanceMethod yX4_mean, Cond.selects RX4 yX4_mean yX4_mean, Cond.code yX4_mean cX4_mean 1 (some .double), Cond.methodLink RX4 124 yX1_meanOfNumbers, Cond.instanceMethod yX1_meanOfNumbers, Cond.selects RX1 yX1_meanOfNumbers yX1_meanOfNumbers, Cond.code yX1_meanOfNumbers cX1_meanOfNumbers 4 (some .double), Cond.methodLink RL 124 yX5_mean, Cond.instanceMethod yX5_mean, Cond.selects RX5 yX5_mean yX5_mean, Cond.code yX5_mean cX5_mean 4 (some .double), Cond.methodLink RL 125 yX4_digest, Cond.instanceMethod yX4_digest, Cond.selects RX4 yX4_digest yX4_digest, Cond.code yX4_digest cX4_digest 4 (some .long)]
def wsL_law0_r26 : List Cond := [Cond.constantLong RX4 128 (1663), Cond.methodLink RX4 130 yX4_stir, Cond.static yX4_stir, Cond.code yX4_stir cX4_stir 3 (some .long), Cond.constantLong RX4 144 (31), Cond.methodLink RX4 134 yX4_stirCell, Cond.instanceMethod yX4_stirCell, Cond.selects RX4 yX4_stirCell yX4_stirCell, Cond.code yX4_stirCell cX4_stirCell 6 (some .long), Cond.methodLink RX4 137 yX0_toldAt, Cond.methodLink RX4 140 yX4_stirCorridor, Cond.static yX4_stirCorridor, Cond.code yX4_stirCorridor cX4_stirCorridor 7 (some .long), Cond.methodLink RL 129 yX5_digest, Cond.instanceMethod yX5_digest, Cond.selects RX5 yX5_digest yX5_digest, Cond.code yX5_digest cX5_digest 5 (some .long), Cond.constantLong RX5 140 (1663), Cond.constantLong RX5 142 (31)]
def wsL_law0 : List Cond := (wsL_law0_r1 ++ (wsL_law0_r2 ++ (wsL_law0_r3 ++ (wsL_law0_r4 ++ (wsL_law0_r5 ++ (wsL_law0_r6 ++ (wsL_law0_r7 ++ (wsL_law0_r8 ++ (wsL_law0_r9 ++ (wsL_law0_r10 ++ (wsL_law0_r11 ++ (wsL_law0_r12 ++ (wsL_law0_r13 ++ (wsL_law0_r14 ++ (wsL_law0_r15 ++ (wsL_law0_r16 ++ (wsL_law0_r17 ++ (wsL_law0_r18 ++ (wsL_law0_r19 ++ (wsL_law0_r20 ++ (wsL_law0_r21 ++ (wsL_law0_r22 ++ (wsL_law0_r23 ++ (wsL_law0_r24 ++ (wsL_law0_r25 ++ wsL_law0_r26))))))))))))))))))))))))) ++ wsX40 ++ wsX50 ++ wsX10 ++ wsX30 ++ wsX20 ++ wsX00 ++ ([] : List Cond)
def wsL_law : List Cond := wsL_law0 ++ (vx_atS RX4 29 "java/lang/IllegalArgumentException" ["java/lang/RuntimeException", "java/lang/Exception"]).filter goodWord ++ (vx_atS RX4 91 "java/lang/IndexOutOfBoundsException" ["java/lang/RuntimeException", "java/lang/Exception"]).filter goodWord ++ (vx_atS RX4 155 "java/lang/IllegalStateException" ["java/lang/RuntimeException", "java/lang/Exception"]).filter goodWord
abbrev vwCl : List vw_C := [(RX0, TX0, 9), (RX1, TX1, 5), (RX2, TX2, 1), (RX3, TX3, 7), (RX4, TX4, 2), (RX5, TX5, 12)]
end
section
theorem dX0_init_0 : decode cX0_init 0 = .ok (.aload_n 0, 1) := by decide +kernel
theorem dX0_init_1 : decode cX0_init 1 = .ok (.invokespecial 3, 3) := by decide +kernel
theorem dX0_init_4 : decode cX0_init 4 = .ok (.aload_n 0, 1) := by decide +kernel
theorem dX0_init_5 : decode cX0_init 5 = .ok (.aload_n 1, 1) := by decide +kernel
theorem dX0_init_6 : decode cX0_init 6 = .ok (.putfield 9, 3) := by decide +kernel
theorem dX0_init_9 : decode cX0_init 9 = .ok (.aload_n 0, 1) := by decide +kernel
theorem dX0_init_10 : decode cX0_init 10 = .ok (.aload_n 2, 1) := by decide +kernel
theorem dX0_init_11 : decode cX0_init 11 = .ok (.putfield 15, 3) := by decide +kernel
theorem dX0_init_14 : decode cX0_init 14 = .ok (.aload_n 0, 1) := by decide +kernel
theorem dX0_init_15 : decode cX0_init 15 = .ok (.bipush 36, 2) := by decide +kernel
theorem dX0_init_17 : decode cX0_init 17 = .ok (.newarray .int, 2) := by decide +kernel
theorem dX0_init_19 : decode cX0_init 19 = .ok (.putfield 19, 3) := by decide +kernel
theorem dX0_init_22 : decode cX0_init 22 = .ok (.aload_n 0, 1) := by decide +kernel
theorem dX0_init_23 : decode cX0_init 23 = .ok (.bipush 36, 2) := by decide +kernel
theorem dX0_init_25 : decode cX0_init 25 = .ok (.newarray .int, 2) := by decide +kernel
theorem dX0_init_27 : decode cX0_init 27 = .ok (.putfield 22, 3) := by decide +kernel
theorem dX0_init_30 : decode cX0_init 30 = .ok (.aload_n 0, 1) := by decide +kernel
theorem dX0_init_31 : decode cX0_init 31 = .ok (.bipush 36, 2) := by decide +kernel
theorem dX0_init_33 : decode cX0_init 33 = .ok (.newarray .int, 2) := by decide +kernel
theorem dX0_init_35 : decode cX0_init 35 = .ok (.putfield 25, 3) := by decide +kernel
theorem dX0_init_38 : decode cX0_init 38 = .ok (.aload_n 0, 1) := by decide +kernel
theorem dX0_init_39 : decode cX0_init 39 = .ok (.iconst 1, 1) := by decide +kernel
theorem dX0_init_40 : decode cX0_init 40 = .ok (.putfield 28, 3) := by decide +kernel
theorem dX0_init_43 : decode cX0_init 43 = .ok (.return_, 1) := by decide +kernel
set_option maxRecDepth 20000 in
theorem ggX0_clear_X4_write : GoodIn wsX0_clear wsX4_write := goodIn_r _ [5] (by decide +kernel) (by decide +kernel)
set_option maxRecDepth 20000 in
theorem gX0_clear_X4_write_n32 : GoodIn wsX0_clear (wsX4_write) := ggX0_clear_X4_write
theorem dX0_clear_0 : decode cX0_clear 0 = .ok (.aload_n 0, 1) := by decide +kernel
theorem dX0_clear_1 : decode cX0_clear 1 = .ok (.iload_n 1, 1) := by decide +kernel
theorem dX0_clear_2 : decode cX0_clear 2 = .ok (.putfield 28, 3) := by decide +kernel
theorem dX0_clear_5 : decode cX0_clear 5 = .ok (.iconst 0, 1) := by decide +kernel
theorem dX0_clear_6 : decode cX0_clear 6 = .ok (.istore_n 2, 1) := by decide +kernel
theorem dX0_clear_7 : decode cX0_clear 7 = .ok (.iload_n 2, 1) := by decide +kernel
theorem dX0_clear_8 : decode cX0_clear 8 = .ok (.bipush 36, 2) := by decide +kernel
theorem dX0_clear_10 : decode cX0_clear 10 = .ok (.if_icmp .ge 18, 3) := by decide +kernel
theorem dX0_clear_13 : decode cX0_clear 13 = .ok (.aload_n 0, 1) := by decide +kernel
theorem dX0_clear_14 : decode cX0_clear 14 = .ok (.getfield 19, 3) := by decide +kernel
theorem dX0_clear_17 : decode cX0_clear 17 = .ok (.iload_n 2, 1) := by decide +kernel
theorem dX0_clear_18 : decode cX0_clear 18 = .ok (.iconst 0, 1) := by decide +kernel
theorem dX0_clear_19 : decode cX0_clear 19 = .ok (.invokestatic 32, 3) := by decide +kernel
theorem dX0_clear_22 : decode cX0_clear 22 = .ok (.iinc 2 1, 3) := by decide +kernel
theorem dX0_clear_25 : decode cX0_clear 25 = .ok (.goto (-18), 3) := by decide +kernel
theorem dX0_clear_28 : decode cX0_clear 28 = .ok (.return_, 1) := by decide +kernel
set_option maxRecDepth 20000 in
theorem ggX0_tellSum_X4_read : GoodIn wsX0_tellSum wsX4_read := goodIn_r _ [4] (by decide +kernel) (by decide +kernel)
set_option maxRecDepth 20000 in
theorem gX0_tellSum_X4_read_n36 : GoodIn wsX0_tellSum (wsX4_read) := ggX0_tellSum_X4_read
set_option maxRecDepth 20000 in
theorem ggX0_tellSum_X4_write : GoodIn wsX0_tellSum wsX4_write := goodIn_r _ [6] (by decide +kernel) (by decide +kernel)
set_option maxRecDepth 20000 in
theorem gX0_tellSum_X4_write_n32 : GoodIn wsX0_tellSum (wsX4_write) := ggX0_tellSum_X4_write
theorem dX0_tellSum_0 : decode cX0_tellSum 0 = .ok (.aload_n 0, 1) := by decide +kernel
theorem dX0_tellSum_1 : decode cX0_tellSum 1 = .ok (.getfield 19, 3) := by decide +kernel
theorem dX0_tellSum_4 : decode cX0_tellSum 4 = .ok (.iload_n 1, 1) := by decide +kernel
theorem dX0_tellSum_5 : decode cX0_tellSum 5 = .ok (.invokestatic 36, 3) := by decide +kernel
theorem dX0_tellSum_8 : decode cX0_tellSum 8 = .ok (.istore_n 3, 1) := by decide +kernel
theorem dX0_tellSum_9 : decode cX0_tellSum 9 = .ok (.aload_n 0, 1) := by decide +kernel
theorem dX0_tellSum_10 : decode cX0_tellSum 10 = .ok (.getfield 19, 3) := by decide +kernel
theorem dX0_tellSum_13 : decode cX0_tellSum 13 = .ok (.iload_n 1, 1) := by decide +kernel
theorem dX0_tellSum_14 : decode cX0_tellSum 14 = .ok (.iload_n 2, 1) := by decide +kernel
theorem dX0_tellSum_15 : decode cX0_tellSum 15 = .ok (.invokestatic 32, 3) := by decide +kernel
theorem dX0_tellSum_18 : decode cX0_tellSum 18 = .ok (.iload_n 3, 1) := by decide +kernel
theorem dX0_tellSum_19 : decode cX0_tellSum 19 = .ok (.ireturn, 1) := by decide +kernel
set_option maxRecDepth 20000 in
theorem ggX0_toldAt_X4_read : GoodIn wsX0_toldAt wsX4_read := goodIn_r _ [4] (by decide +kernel) (by decide +kernel)
set_option maxRecDepth 20000 in
theorem gX0_toldAt_X4_read_n36 : GoodIn wsX0_toldAt (wsX4_read) := ggX0_toldAt_X4_read
theorem dX0_toldAt_0 : decode cX0_toldAt 0 = .ok (.aload_n 0, 1) := by decide +kernel
theorem dX0_toldAt_1 : decode cX0_toldAt 1 = .ok (.getfield 19, 3) := by decide +kernel
theorem dX0_toldAt_4 : decode cX0_toldAt 4 = .ok (.iload_n 1, 1) := by decide +kernel
theorem dX0_toldAt_5 : decode cX0_toldAt 5 = .ok (.invokestatic 36, 3) := by decide +kernel
theorem dX0_toldAt_8 : decode cX0_toldAt 8 = .ok (.ireturn, 1) := by decide +kernel
set_option maxRecDepth 20000 in
theorem ggX0_join_X4_write : GoodIn wsX0_join wsX4_write := goodIn_r _ [6] (by decide +kernel) (by decide +kernel)
set_option maxRecDepth 20000 in
theorem gX0_join_X4_write_n32 : GoodIn wsX0_join (wsX4_write) := ggX0_join_X4_write
set_option maxRecDepth 20000 in
theorem ggX0_join_X4_read : GoodIn wsX0_join wsX4_read := goodIn_r _ [8] (by decide +kernel) (by decide +kernel)
set_option maxRecDepth 20000 in
theorem gX0_join_X4_read_n36 : GoodIn wsX0_join (wsX4_read) := ggX0_join_X4_read
theorem dX0_join_0 : decode cX0_join 0 = .ok (.aload_n 0, 1) := by decide +kernel
theorem dX0_join_1 : decode cX0_join 1 = .ok (.getfield 25, 3) := by decide +kernel
theorem dX0_join_4 : decode cX0_join 4 = .ok (.iload_n 1, 1) := by decide +kernel
theorem dX0_join_5 : decode cX0_join 5 = .ok (.iconst 0, 1) := by decide +kernel
theorem dX0_join_6 : decode cX0_join 6 = .ok (.invokestatic 32, 3) := by decide +kernel
theorem dX0_join_9 : decode cX0_join 9 = .ok (.aload_n 0, 1) := by decide +kernel
theorem dX0_join_10 : decode cX0_join 10 = .ok (.getfield 9, 3) := by decide +kernel
theorem dX0_join_13 : decode cX0_join 13 = .ok (.iload_n 1, 1) := by decide +kernel
theorem dX0_join_14 : decode cX0_join 14 = .ok (.invokestatic 36, 3) := by decide +kernel
theorem dX0_join_17 : decode cX0_join 17 = .ok (.iconst (-1), 1) := by decide +kernel
theorem dX0_join_18 : decode cX0_join 18 = .ok (.if_icmp .ne 13, 3) := by decide +kernel
theorem dX0_join_21 : decode cX0_join 21 = .ok (.aload_n 0, 1) := by decide +kernel
theorem dX0_join_22 : decode cX0_join 22 = .ok (.getfield 22, 3) := by decide +kernel
theorem dX0_join_25 : decode cX0_join 25 = .ok (.iload_n 1, 1) := by decide +kernel
theorem dX0_join_26 : decode cX0_join 26 = .ok (.iconst (-1), 1) := by decide +kernel
theorem dX0_join_27 : decode cX0_join 27 = .ok (.invokestatic 32, 3) := by decide +kernel
theorem dX0_join_30 : decode cX0_join 30 = .ok (.return_, 1) := by decide +kernel
theorem dX0_join_31 : decode cX0_join 31 = .ok (.iload_n 2, 1) := by decide +kernel
theorem dX0_join_32 : decode cX0_join 32 = .ok (.iconst (-1), 1) := by decide +kernel
theorem dX0_join_33 : decode cX0_join 33 = .ok (.if_icmp .ne 7, 3) := by decide +kernel
theorem dX0_join_36 : decode cX0_join 36 = .ok (.iconst (-1), 1) := by decide +kernel
theorem dX0_join_37 : decode cX0_join 37 = .ok (.goto 11, 3) := by decide +kernel
theorem dX0_join_40 : decode cX0_join 40 = .ok (.aload_n 0, 1) := by decide +kernel
theorem dX0_join_41 : decode cX0_join 41 = .ok (.getfield 22, 3) := by decide +kernel
theorem dX0_join_44 : decode cX0_join 44 = .ok (.iload_n 2, 1) := by decide +kernel
theorem dX0_join_45 : decode cX0_join 45 = .ok (.invokestatic 36, 3) := by decide +kernel
theorem dX0_join_48 : decode cX0_join 48 = .ok (.istore_n 3, 1) := by decide +kernel
theorem dX0_join_49 : decode cX0_join 49 = .ok (.iload_n 3, 1) := by decide +kernel
theorem dX0_join_50 : decode cX0_join 50 = .ok (.iconst (-1), 1) := by decide +kernel
theorem dX0_join_51 : decode cX0_join 51 = .ok (.if_icmp .ne 5, 3) := by decide +kernel
theorem dX0_join_54 : decode cX0_join 54 = .ok (.iload_n 1, 1) := by decide +kernel
theorem dX0_join_55 : decode cX0_join 55 = .ok (.istore_n 3, 1) := by decide +kernel
theorem dX0_join_56 : decode cX0_join 56 = .ok (.aload_n 0, 1) := by decide +kernel
theorem dX0_join_57 : decode cX0_join 57 = .ok (.getfield 22, 3) := by decide +kernel
theorem dX0_join_60 : decode cX0_join 60 = .ok (.iload_n 1, 1) := by decide +kernel
theorem dX0_join_61 : decode cX0_join 61 = .ok (.iload_n 3, 1) := by decide +kernel
theorem dX0_join_62 : decode cX0_join 62 = .ok (.invokestatic 32, 3) := by decide +kernel
theorem dX0_join_65 : decode cX0_join 65 = .ok (.aload_n 0, 1) := by decide +kernel
theorem dX0_join_66 : decode cX0_join 66 = .ok (.getfield 25, 3) := by decide +kernel
theorem dX0_join_69 : decode cX0_join 69 = .ok (.iload_n 3, 1) := by decide +kernel
theorem dX0_join_70 : decode cX0_join 70 = .ok (.aload_n 0, 1) := by decide +kernel
theorem dX0_join_71 : decode cX0_join 71 = .ok (.getfield 25, 3) := by decide +kernel
theorem dX0_join_74 : decode cX0_join 74 = .ok (.iload_n 3, 1) := by decide +kernel
theorem dX0_join_75 : decode cX0_join 75 = .ok (.invokestatic 36, 3) := by decide +kernel
theorem dX0_join_78 : decode cX0_join 78 = .ok (.iconst 1, 1) := by decide +kernel
theorem dX0_join_79 : decode cX0_join 79 = .ok (.iadd, 1) := by decide +kernel
theorem dX0_join_80 : decode cX0_join 80 = .ok (.invokestatic 32, 3) := by decide +kernel
theorem dX0_join_83 : decode cX0_join 83 = .ok (.return_, 1) := by decide +kernel
set_option maxRecDepth 20000 in
theorem ggX0_beginsAt_X4_read : GoodIn wsX0_beginsAt wsX4_read := goodIn_r _ [4] (by decide +kernel) (by decide +kernel)
set_option maxRecDepth 20000 in
theorem gX0_beginsAt_X4_read_n36 : GoodIn wsX0_beginsAt (wsX4_read) := ggX0_beginsAt_X4_read
theorem dX0_beginsAt_0 : decode cX0_beginsAt 0 = .ok (.aload_n 0, 1) := by decide +kernel
theorem dX0_beginsAt_1 : decode cX0_beginsAt 1 = .ok (.getfield 22, 3) := by decide +kernel
theorem dX0_beginsAt_4 : decode cX0_beginsAt 4 = .ok (.iload_n 1, 1) := by decide +kernel
theorem dX0_beginsAt_5 : decode cX0_beginsAt 5 = .ok (.invokestatic 36, 3) := by decide +kernel
theorem dX0_beginsAt_8 : decode cX0_beginsAt 8 = .ok (.iload_n 1, 1) := by decide +kernel
theorem dX0_beginsAt_9 : decode cX0_beginsAt 9 = .ok (.if_icmp .ne 7, 3) := by decide +kernel
theorem dX0_beginsAt_12 : decode cX0_beginsAt 12 = .ok (.iconst 1, 1) := by decide +kernel
theorem dX0_beginsAt_13 : decode cX0_beginsAt 13 = .ok (.goto 4, 3) := by decide +kernel
theorem dX0_beginsAt_16 : decode cX0_beginsAt 16 = .ok (.iconst 0, 1) := by decide +kernel
theorem dX0_beginsAt_17 : decode cX0_beginsAt 17 = .ok (.ireturn, 1) := by decide +kernel
set_option maxRecDepth 20000 in
theorem ggX0_tell_X4_read : GoodIn wsX0_tell wsX4_read := goodIn_r _ [8] (by decide +kernel) (by decide +kernel)
set_option maxRecDepth 20000 in
theorem gX0_tell_X4_read_n36 : GoodIn wsX0_tell (wsX4_read) := ggX0_tell_X4_read
set_option maxRecDepth 20000 in
theorem ggX0_tell_X0_look : GoodIn wsX0_tell wsX0_look := goodIn_r _ [13, 14, 4, 5, 2, 15, 16, 6, 7, 8, 39, 40, 41, 42, 43, 44, 45, 46, 47] (by decide +kernel) (by decide +kernel)
set_option maxRecDepth 20000 in
theorem gX0_tell_X0_look : GoodIn wsX0_tell (wsV RX0 40 RX0 yX0_look wsX0_look) := goodIn_app (goodIn_of _ (by decide +kernel)) ggX0_tell_X0_look
set_option maxRecDepth 20000 in
theorem ggX0_tell_X0_isWellFrom : GoodIn wsX0_tell wsX0_isWellFrom := goodIn_r _ [20, 3, 2, 4, 21, 14, 5, 9, 10, 11, 12, 13, 15, 16, 6, 7, 8, 22, 23, 24, 25, 26, 27, 28, 29, 30, 31, 32, 33, 34, 35, 36, 37, 38, 39, 40, 41, 42, 43, 44, 45, 46, 47, 48] (by decide +kernel) (by decide +kernel)
set_option maxRecDepth 20000 in
theorem gX0_tell_X0_isWellFrom : GoodIn wsX0_tell (wsV RX0 50 RX0 yX0_isWellFrom wsX0_isWellFrom) := goodIn_app (goodIn_of _ (by decide +kernel)) ggX0_tell_X0_isWellFrom
theorem dX0_tell_0 : decode cX0_tell 0 = .ok (.aload_n 0, 1) := by decide +kernel
theorem dX0_tell_1 : decode cX0_tell 1 = .ok (.getfield 22, 3) := by decide +kernel
theorem dX0_tell_4 : decode cX0_tell 4 = .ok (.iload_n 1, 1) := by decide +kernel
theorem dX0_tell_5 : decode cX0_tell 5 = .ok (.invokestatic 36, 3) := by decide +kernel
theorem dX0_tell_8 : decode cX0_tell 8 = .ok (.istore_n 3, 1) := by decide +kernel
theorem dX0_tell_9 : decode cX0_tell 9 = .ok (.iload_n 3, 1) := by decide +kernel
theorem dX0_tell_10 : decode cX0_tell 10 = .ok (.iconst (-1), 1) := by decide +kernel
theorem dX0_tell_11 : decode cX0_tell 11 = .ok (.if_icmp .ne 5, 3) := by decide +kernel
theorem dX0_tell_14 : decode cX0_tell 14 = .ok (.iconst (-1), 1) := by decide +kernel
theorem dX0_tell_15 : decode cX0_tell 15 = .ok (.ireturn, 1) := by decide +kernel
theorem dX0_tell_16 : decode cX0_tell 16 = .ok (.aload_n 0, 1) := by decide +kernel
theorem dX0_tell_17 : decode cX0_tell 17 = .ok (.iload_n 3, 1) := by decide +kernel
theorem dX0_tell_18 : decode cX0_tell 18 = .ok (.invokevirtual 40, 3) := by decide +kernel
theorem dX0_tell_21 : decode cX0_tell 21 = .ok (.iload_n 2, 1) := by decide +kernel
theorem dX0_tell_22 : decode cX0_tell 22 = .ok (.tableswitch 64 0 4 #[34, 36, 45, 54, 59], 34) := by decide +kernel
theorem dX0_tell_56 : decode cX0_tell 56 = .ok (.iload_n 3, 1) := by decide +kernel
theorem dX0_tell_57 : decode cX0_tell 57 = .ok (.ireturn, 1) := by decide +kernel
theorem dX0_tell_58 : decode cX0_tell 58 = .ok (.aload_n 0, 1) := by decide +kernel
theorem dX0_tell_59 : decode cX0_tell 59 = .ok (.getfield 25, 3) := by decide +kernel
theorem dX0_tell_62 : decode cX0_tell 62 = .ok (.iload_n 3, 1) := by decide +kernel
theorem dX0_tell_63 : decode cX0_tell 63 = .ok (.invokestatic 36, 3) := by decide +kernel
theorem dX0_tell_66 : decode cX0_tell 66 = .ok (.ireturn, 1) := by decide +kernel
theorem dX0_tell_67 : decode cX0_tell 67 = .ok (.aload_n 0, 1) := by decide +kernel
theorem dX0_tell_68 : decode cX0_tell 68 = .ok (.getfield 19, 3) := by decide +kernel
theorem dX0_tell_71 : decode cX0_tell 71 = .ok (.iload_n 3, 1) := by decide +kernel
theorem dX0_tell_72 : decode cX0_tell 72 = .ok (.invokestatic 36, 3) := by decide +kernel
theorem dX0_tell_75 : decode cX0_tell 75 = .ok (.ireturn, 1) := by decide +kernel
theorem dX0_tell_76 : decode cX0_tell 76 = .ok (.aload_n 0, 1) := by decide +kernel
theorem dX0_tell_77 : decode cX0_tell 77 = .ok (.getfield 44, 3) := by decide +kernel
theorem dX0_tell_80 : decode cX0_tell 80 = .ok (.ireturn, 1) := by decide +kernel
theorem dX0_tell_81 : decode cX0_tell 81 = .ok (.aload_n 0, 1) := by decide +kernel
theorem dX0_tell_82 : decode cX0_tell 82 = .ok (.getfield 47, 3) := by decide +kernel
theorem dX0_tell_85 : decode cX0_tell 85 = .ok (.ireturn, 1) := by decide +kernel
theorem dX0_tell_86 : decode cX0_tell 86 = .ok (.aload_n 0, 1) := by decide +kernel
theorem dX0_tell_87 : decode cX0_tell 87 = .ok (.iload_n 3, 1) := by decide +kernel
theorem dX0_tell_88 : decode cX0_tell 88 = .ok (.invokevirtual 50, 3) := by decide +kernel
theorem dX0_tell_91 : decode cX0_tell 91 = .ok (.ifCond .eq 7, 3) := by decide +kernel
theorem dX0_tell_94 : decode cX0_tell 94 = .ok (.iconst 1, 1) := by decide +kernel
theorem dX0_tell_95 : decode cX0_tell 95 = .ok (.goto 4, 3) := by decide +kernel
theorem dX0_tell_98 : decode cX0_tell 98 = .ok (.iconst 0, 1) := by decide +kernel
theorem dX0_tell_99 : decode cX0_tell 99 = .ok (.ireturn, 1) := by decide +kernel
set_option maxRecDepth 20000 in
theorem ggX0_isWellFrom_X0_look : GoodIn wsX0_isWellFrom wsX0_look := goodIn_r _ [11, 5, 3, 6, 2, 12, 13, 14, 15, 16, 34, 35, 36, 37, 38, 39, 40, 41, 42] (by decide +kernel) (by decide +kernel)
set_option maxRecDepth 20000 in
theorem gX0_isWellFrom_X0_look : GoodIn wsX0_isWellFrom (wsV RX0 40 RX0 yX0_look wsX0_look) := goodIn_app (goodIn_of _ (by decide +kernel)) ggX0_isWellFrom_X0_look
set_option maxRecDepth 20000 in
theorem ggX0_isWellFrom_X0_sawAlike : GoodIn wsX0_isWellFrom wsX0_sawAlike := goodIn_r _ [20, 5, 3, 21, 22, 23, 24, 25, 26, 27, 34, 35, 36, 37, 38, 39, 40, 41, 42] (by decide +kernel) (by decide +kernel)
set_option maxRecDepth 20000 in
theorem gX0_isWellFrom_X0_sawAlike : GoodIn wsX0_isWellFrom (wsV RX0 54 RX0 yX0_sawAlike wsX0_sawAlike) := goodIn_app (goodIn_of _ (by decide +kernel)) ggX0_isWellFrom_X0_sawAlike
set_option maxRecDepth 20000 in
theorem ggX0_isWellFrom_X4_read : GoodIn wsX0_isWellFrom wsX4_read := goodIn_r _ [16] (by decide +kernel) (by decide +kernel)
set_option maxRecDepth 20000 in
theorem gX0_isWellFrom_X4_read_n36 : GoodIn wsX0_isWellFrom (wsX4_read) := ggX0_isWellFrom_X4_read
set_option maxRecDepth 20000 in
theorem ggX0_isWellFrom_X2_make : GoodIn wsX0_isWellFrom wsX2_make := goodIn_r _ [32, 33, 43] (by decide +kernel) (by decide +kernel)
set_option maxRecDepth 20000 in
theorem gX0_isWellFrom_X2_make : GoodIn wsX0_isWellFrom (wsV RX0 61 RX2 yX2_make wsX2_make) := goodIn_app (goodIn_of _ (by decide +kernel)) ggX0_isWellFrom_X2_make
theorem dX0_isWellFrom_0 : decode cX0_isWellFrom 0 = .ok (.aload_n 0, 1) := by decide +kernel
theorem dX0_isWellFrom_1 : decode cX0_isWellFrom 1 = .ok (.iload_n 1, 1) := by decide +kernel
theorem dX0_isWellFrom_2 : decode cX0_isWellFrom 2 = .ok (.invokevirtual 40, 3) := by decide +kernel
theorem dX0_isWellFrom_5 : decode cX0_isWellFrom 5 = .ok (.aload_n 0, 1) := by decide +kernel
theorem dX0_isWellFrom_6 : decode cX0_isWellFrom 6 = .ok (.invokevirtual 54, 3) := by decide +kernel
theorem dX0_isWellFrom_9 : decode cX0_isWellFrom 9 = .ok (.ifCond .eq 5, 3) := by decide +kernel
theorem dX0_isWellFrom_12 : decode cX0_isWellFrom 12 = .ok (.iconst 0, 1) := by decide +kernel
theorem dX0_isWellFrom_13 : decode cX0_isWellFrom 13 = .ok (.ireturn, 1) := by decide +kernel
theorem dX0_isWellFrom_14 : decode cX0_isWellFrom 14 = .ok (.aload_n 0, 1) := by decide +kernel
theorem dX0_isWellFrom_15 : decode cX0_isWellFrom 15 = .ok (.getfield 19, 3) := by decide +kernel
theorem dX0_isWellFrom_18 : decode cX0_isWellFrom 18 = .ok (.iload_n 1, 1) := by decide +kernel
theorem dX0_isWellFrom_19 : decode cX0_isWellFrom 19 = .ok (.invokestatic 36, 3) := by decide +kernel
theorem dX0_isWellFrom_22 : decode cX0_isWellFrom 22 = .ok (.istore_n 2, 1) := by decide +kernel
theorem dX0_isWellFrom_23 : decode cX0_isWellFrom 23 = .ok (.aload_n 0, 1) := by decide +kernel
theorem dX0_isWellFrom_24 : decode cX0_isWellFrom 24 = .ok (.getfield 25, 3) := by decide +kernel
theorem dX0_isWellFrom_27 : decode cX0_isWellFrom 27 = .ok (.iload_n 1, 1) := by decide +kernel
theorem dX0_isWellFrom_28 : decode cX0_isWellFrom 28 = .ok (.invokestatic 36, 3) := by decide +kernel
theorem dX0_isWellFrom_31 : decode cX0_isWellFrom 31 = .ok (.aload_n 0, 1) := by decide +kernel
theorem dX0_isWellFrom_32 : decode cX0_isWellFrom 32 = .ok (.getfield 44, 3) := by decide +kernel
theorem dX0_isWellFrom_35 : decode cX0_isWellFrom 35 = .ok (.isub, 1) := by decide +kernel
theorem dX0_isWellFrom_36 : decode cX0_isWellFrom 36 = .ok (.istore_n 3, 1) := by decide +kernel
theorem dX0_isWellFrom_37 : decode cX0_isWellFrom 37 = .ok (.iload_n 2, 1) := by decide +kernel
theorem dX0_isWellFrom_38 : decode cX0_isWellFrom 38 = .ok (.ifCond .eq 30, 3) := by decide +kernel
theorem dX0_isWellFrom_41 : decode cX0_isWellFrom 41 = .ok (.aload_n 0, 1) := by decide +kernel
theorem dX0_isWellFrom_42 : decode cX0_isWellFrom 42 = .ok (.getfield 15, 3) := by decide +kernel
theorem dX0_isWellFrom_45 : decode cX0_isWellFrom 45 = .ok (.sipush 1022, 3) := by decide +kernel
theorem dX0_isWellFrom_48 : decode cX0_isWellFrom 48 = .ok (.aload_n 0, 1) := by decide +kernel
theorem dX0_isWellFrom_49 : decode cX0_isWellFrom 49 = .ok (.getfield 58, 3) := by decide +kernel
theorem dX0_isWellFrom_52 : decode cX0_isWellFrom 52 = .ok (.iconst (-1), 1) := by decide +kernel
theorem dX0_isWellFrom_53 : decode cX0_isWellFrom 53 = .ok (.ixor, 1) := by decide +kernel
theorem dX0_isWellFrom_54 : decode cX0_isWellFrom 54 = .ok (.iand, 1) := by decide +kernel
theorem dX0_isWellFrom_55 : decode cX0_isWellFrom 55 = .ok (.iload_n 3, 1) := by decide +kernel
theorem dX0_isWellFrom_56 : decode cX0_isWellFrom 56 = .ok (.iload_n 2, 1) := by decide +kernel
theorem dX0_isWellFrom_57 : decode cX0_isWellFrom 57 = .ok (.aload_n 0, 1) := by decide +kernel
theorem dX0_isWellFrom_58 : decode cX0_isWellFrom 58 = .ok (.getfield 47, 3) := by decide +kernel
theorem dX0_isWellFrom_61 : decode cX0_isWellFrom 61 = .ok (.isub, 1) := by decide +kernel
theorem dX0_isWellFrom_62 : decode cX0_isWellFrom 62 = .ok (.invokevirtual 61, 3) := by decide +kernel
theorem dX0_isWellFrom_65 : decode cX0_isWellFrom 65 = .ok (.ifCond .eq 7, 3) := by decide +kernel
theorem dX0_isWellFrom_68 : decode cX0_isWellFrom 68 = .ok (.iconst 1, 1) := by decide +kernel
theorem dX0_isWellFrom_69 : decode cX0_isWellFrom 69 = .ok (.goto 4, 3) := by decide +kernel
theorem dX0_isWellFrom_72 : decode cX0_isWellFrom 72 = .ok (.iconst 0, 1) := by decide +kernel
theorem dX0_isWellFrom_73 : decode cX0_isWellFrom 73 = .ok (.ireturn, 1) := by decide +kernel
set_option maxRecDepth 20000 in
theorem ggX0_numbersFor_X4_read : GoodIn wsX0_numbersFor wsX4_read := goodIn_r _ [10] (by decide +kernel) (by decide +kernel)
set_option maxRecDepth 20000 in
theorem gX0_numbersFor_X4_read_n36 : GoodIn wsX0_numbersFor (wsX4_read) := ggX0_numbersFor_X4_read
set_option maxRecDepth 20000 in
theorem ggX0_numbersFor_X0_look : GoodIn wsX0_numbersFor wsX0_look := goodIn_r _ [15, 2, 5, 6, 4, 16, 17, 8, 9, 10, 35, 36, 37, 38, 39, 40, 41, 42, 43] (by decide +kernel) (by decide +kernel)
set_option maxRecDepth 20000 in
theorem gX0_numbersFor_X0_look : GoodIn wsX0_numbersFor (wsV RX0 40 RX0 yX0_look wsX0_look) := goodIn_app (goodIn_of _ (by decide +kernel)) ggX0_numbersFor_X0_look
set_option maxRecDepth 20000 in
theorem ggX0_numbersFor_X0_sawAlike : GoodIn wsX0_numbersFor wsX0_sawAlike := goodIn_r _ [21, 2, 5, 22, 23, 24, 25, 26, 27, 28, 35, 36, 37, 38, 39, 40, 41, 42, 43] (by decide +kernel) (by decide +kernel)
set_option maxRecDepth 20000 in
theorem gX0_numbersFor_X0_sawAlike : GoodIn wsX0_numbersFor (wsV RX0 54 RX0 yX0_sawAlike wsX0_sawAlike) := goodIn_app (goodIn_of _ (by decide +kernel)) ggX0_numbersFor_X0_sawAlike
set_option maxRecDepth 20000 in
theorem ggX0_numbersFor_X2_make : GoodIn wsX0_numbersFor wsX2_make := goodIn_r _ [33, 34, 44] (by decide +kernel) (by decide +kernel)
set_option maxRecDepth 20000 in
theorem gX0_numbersFor_X2_make : GoodIn wsX0_numbersFor (wsV RX0 61 RX2 yX2_make wsX2_make) := goodIn_app (goodIn_of _ (by decide +kernel)) ggX0_numbersFor_X2_make
theorem dX0_numbersFor_0 : decode cX0_numbersFor 0 = .ok (.aload_n 0, 1) := by decide +kernel
theorem dX0_numbersFor_1 : decode cX0_numbersFor 1 = .ok (.getfield 22, 3) := by decide +kernel
theorem dX0_numbersFor_4 : decode cX0_numbersFor 4 = .ok (.iload_n 1, 1) := by decide +kernel
theorem dX0_numbersFor_5 : decode cX0_numbersFor 5 = .ok (.invokestatic 36, 3) := by decide +kernel
theorem dX0_numbersFor_8 : decode cX0_numbersFor 8 = .ok (.istore_n 2, 1) := by decide +kernel
theorem dX0_numbersFor_9 : decode cX0_numbersFor 9 = .ok (.iload_n 2, 1) := by decide +kernel
theorem dX0_numbersFor_10 : decode cX0_numbersFor 10 = .ok (.iconst (-1), 1) := by decide +kernel
theorem dX0_numbersFor_11 : decode cX0_numbersFor 11 = .ok (.if_icmp .ne 5, 3) := by decide +kernel
theorem dX0_numbersFor_14 : decode cX0_numbersFor 14 = .ok (.iconst 0, 1) := by decide +kernel
theorem dX0_numbersFor_15 : decode cX0_numbersFor 15 = .ok (.ireturn, 1) := by decide +kernel
theorem dX0_numbersFor_16 : decode cX0_numbersFor 16 = .ok (.aload_n 0, 1) := by decide +kernel
theorem dX0_numbersFor_17 : decode cX0_numbersFor 17 = .ok (.iload_n 2, 1) := by decide +kernel
theorem dX0_numbersFor_18 : decode cX0_numbersFor 18 = .ok (.invokevirtual 40, 3) := by decide +kernel
theorem dX0_numbersFor_21 : decode cX0_numbersFor 21 = .ok (.aload_n 0, 1) := by decide +kernel
theorem dX0_numbersFor_22 : decode cX0_numbersFor 22 = .ok (.invokevirtual 54, 3) := by decide +kernel
theorem dX0_numbersFor_25 : decode cX0_numbersFor 25 = .ok (.ifCond .eq 5, 3) := by decide +kernel
theorem dX0_numbersFor_28 : decode cX0_numbersFor 28 = .ok (.iconst 0, 1) := by decide +kernel
theorem dX0_numbersFor_29 : decode cX0_numbersFor 29 = .ok (.ireturn, 1) := by decide +kernel
theorem dX0_numbersFor_30 : decode cX0_numbersFor 30 = .ok (.sipush 1022, 3) := by decide +kernel
theorem dX0_numbersFor_33 : decode cX0_numbersFor 33 = .ok (.aload_n 0, 1) := by decide +kernel
theorem dX0_numbersFor_34 : decode cX0_numbersFor 34 = .ok (.getfield 58, 3) := by decide +kernel
theorem dX0_numbersFor_37 : decode cX0_numbersFor 37 = .ok (.iconst (-1), 1) := by decide +kernel
theorem dX0_numbersFor_38 : decode cX0_numbersFor 38 = .ok (.ixor, 1) := by decide +kernel
theorem dX0_numbersFor_39 : decode cX0_numbersFor 39 = .ok (.iand, 1) := by decide +kernel
theorem dX0_numbersFor_40 : decode cX0_numbersFor 40 = .ok (.istore_n 3, 1) := by decide +kernel
theorem dX0_numbersFor_41 : decode cX0_numbersFor 41 = .ok (.aload_n 0, 1) := by decide +kernel
theorem dX0_numbersFor_42 : decode cX0_numbersFor 42 = .ok (.getfield 19, 3) := by decide +kernel
theorem dX0_numbersFor_45 : decode cX0_numbersFor 45 = .ok (.iload_n 2, 1) := by decide +kernel
theorem dX0_numbersFor_46 : decode cX0_numbersFor 46 = .ok (.invokestatic 36, 3) := by decide +kernel
theorem dX0_numbersFor_49 : decode cX0_numbersFor 49 = .ok (.istore 4, 2) := by decide +kernel
theorem dX0_numbersFor_51 : decode cX0_numbersFor 51 = .ok (.iload 4, 2) := by decide +kernel
theorem dX0_numbersFor_53 : decode cX0_numbersFor 53 = .ok (.ifCond .ne 5, 3) := by decide +kernel
theorem dX0_numbersFor_56 : decode cX0_numbersFor 56 = .ok (.iload_n 3, 1) := by decide +kernel
theorem dX0_numbersFor_57 : decode cX0_numbersFor 57 = .ok (.ireturn, 1) := by decide +kernel
theorem dX0_numbersFor_58 : decode cX0_numbersFor 58 = .ok (.aload_n 0, 1) := by decide +kernel
theorem dX0_numbersFor_59 : decode cX0_numbersFor 59 = .ok (.getfield 25, 3) := by decide +kernel
theorem dX0_numbersFor_62 : decode cX0_numbersFor 62 = .ok (.iload_n 2, 1) := by decide +kernel
theorem dX0_numbersFor_63 : decode cX0_numbersFor 63 = .ok (.invokestatic 36, 3) := by decide +kernel
theorem dX0_numbersFor_66 : decode cX0_numbersFor 66 = .ok (.aload_n 0, 1) := by decide +kernel
theorem dX0_numbersFor_67 : decode cX0_numbersFor 67 = .ok (.getfield 44, 3) := by decide +kernel
theorem dX0_numbersFor_70 : decode cX0_numbersFor 70 = .ok (.isub, 1) := by decide +kernel
theorem dX0_numbersFor_71 : decode cX0_numbersFor 71 = .ok (.iconst 1, 1) := by decide +kernel
theorem dX0_numbersFor_72 : decode cX0_numbersFor 72 = .ok (.isub, 1) := by decide +kernel
theorem dX0_numbersFor_73 : decode cX0_numbersFor 73 = .ok (.istore 5, 2) := by decide +kernel
theorem dX0_numbersFor_75 : decode cX0_numbersFor 75 = .ok (.iload 4, 2) := by decide +kernel
theorem dX0_numbersFor_77 : decode cX0_numbersFor 77 = .ok (.aload_n 0, 1) := by decide +kernel
theorem dX0_numbersFor_78 : decode cX0_numbersFor 78 = .ok (.getfield 47, 3) := by decide +kernel
theorem dX0_numbersFor_81 : decode cX0_numbersFor 81 = .ok (.isub, 1) := by decide +kernel
theorem dX0_numbersFor_82 : decode cX0_numbersFor 82 = .ok (.istore 6, 2) := by decide +kernel
theorem dX0_numbersFor_84 : decode cX0_numbersFor 84 = .ok (.iconst 0, 1) := by decide +kernel
theorem dX0_numbersFor_85 : decode cX0_numbersFor 85 = .ok (.istore 7, 2) := by decide +kernel
theorem dX0_numbersFor_87 : decode cX0_numbersFor 87 = .ok (.iconst 1, 1) := by decide +kernel
theorem dX0_numbersFor_88 : decode cX0_numbersFor 88 = .ok (.istore 8, 2) := by decide +kernel
theorem dX0_numbersFor_90 : decode cX0_numbersFor 90 = .ok (.iload 8, 2) := by decide +kernel
theorem dX0_numbersFor_92 : decode cX0_numbersFor 92 = .ok (.bipush 9, 2) := by decide +kernel
theorem dX0_numbersFor_94 : decode cX0_numbersFor 94 = .ok (.if_icmp .gt 52, 3) := by decide +kernel
theorem dX0_numbersFor_97 : decode cX0_numbersFor 97 = .ok (.iconst 1, 1) := by decide +kernel
theorem dX0_numbersFor_98 : decode cX0_numbersFor 98 = .ok (.iload 8, 2) := by decide +kernel
theorem dX0_numbersFor_100 : decode cX0_numbersFor 100 = .ok (.ishl, 1) := by decide +kernel
theorem dX0_numbersFor_101 : decode cX0_numbersFor 101 = .ok (.istore 9, 2) := by decide +kernel
theorem dX0_numbersFor_103 : decode cX0_numbersFor 103 = .ok (.iload_n 3, 1) := by decide +kernel
theorem dX0_numbersFor_104 : decode cX0_numbersFor 104 = .ok (.iload 9, 2) := by decide +kernel
theorem dX0_numbersFor_106 : decode cX0_numbersFor 106 = .ok (.iand, 1) := by decide +kernel
theorem dX0_numbersFor_107 : decode cX0_numbersFor 107 = .ok (.ifCond .eq 33, 3) := by decide +kernel
theorem dX0_numbersFor_110 : decode cX0_numbersFor 110 = .ok (.aload_n 0, 1) := by decide +kernel
theorem dX0_numbersFor_111 : decode cX0_numbersFor 111 = .ok (.getfield 15, 3) := by decide +kernel
theorem dX0_numbersFor_114 : decode cX0_numbersFor 114 = .ok (.iload_n 3, 1) := by decide +kernel
theorem dX0_numbersFor_115 : decode cX0_numbersFor 115 = .ok (.iload 9, 2) := by decide +kernel
theorem dX0_numbersFor_117 : decode cX0_numbersFor 117 = .ok (.iconst (-1), 1) := by decide +kernel
theorem dX0_numbersFor_118 : decode cX0_numbersFor 118 = .ok (.ixor, 1) := by decide +kernel
theorem dX0_numbersFor_119 : decode cX0_numbersFor 119 = .ok (.iand, 1) := by decide +kernel
theorem dX0_numbersFor_120 : decode cX0_numbersFor 120 = .ok (.iload 5, 2) := by decide +kernel
theorem dX0_numbersFor_122 : decode cX0_numbersFor 122 = .ok (.iload 6, 2) := by decide +kernel
theorem dX0_numbersFor_124 : decode cX0_numbersFor 124 = .ok (.iload 8, 2) := by decide +kernel
theorem dX0_numbersFor_126 : decode cX0_numbersFor 126 = .ok (.isub, 1) := by decide +kernel
theorem dX0_numbersFor_127 : decode cX0_numbersFor 127 = .ok (.invokevirtual 61, 3) := by decide +kernel
theorem dX0_numbersFor_130 : decode cX0_numbersFor 130 = .ok (.ifCond .eq 10, 3) := by decide +kernel
theorem dX0_numbersFor_133 : decode cX0_numbersFor 133 = .ok (.iload 7, 2) := by decide +kernel
theorem dX0_numbersFor_135 : decode cX0_numbersFor 135 = .ok (.iload 9, 2) := by decide +kernel
theorem dX0_numbersFor_137 : decode cX0_numbersFor 137 = .ok (.ior, 1) := by decide +kernel
theorem dX0_numbersFor_138 : decode cX0_numbersFor 138 = .ok (.istore 7, 2) := by decide +kernel
theorem dX0_numbersFor_140 : decode cX0_numbersFor 140 = .ok (.iinc 8 1, 3) := by decide +kernel
theorem dX0_numbersFor_143 : decode cX0_numbersFor 143 = .ok (.goto (-53), 3) := by decide +kernel
theorem dX0_numbersFor_146 : decode cX0_numbersFor 146 = .ok (.iload 7, 2) := by decide +kernel
theorem dX0_numbersFor_148 : decode cX0_numbersFor 148 = .ok (.ireturn, 1) := by decide +kernel
set_option maxRecDepth 20000 in
theorem ggX0_sawAlike_J6_bitCount_0f7a4 : GoodIn wsX0_sawAlike wsJ6_bitCount_0f7a4 := goodIn_r _ [6, 7, 8, 9] (by decide +kernel) (by decide +kernel)
set_option maxRecDepth 20000 in
theorem gX0_sawAlike_J6_bitCount_0f7a4 : GoodIn wsX0_sawAlike (va_wsS RX0 67 yJ6_bitCount_0f7a4 wsJ6_bitCount_0f7a4) := goodIn_app (goodIn_of _ (by decide +kernel)) ggX0_sawAlike_J6_bitCount_0f7a4
theorem dX0_sawAlike_0 : decode cX0_sawAlike 0 = .ok (.aload_n 0, 1) := by decide +kernel
theorem dX0_sawAlike_1 : decode cX0_sawAlike 1 = .ok (.getfield 58, 3) := by decide +kernel
theorem dX0_sawAlike_4 : decode cX0_sawAlike 4 = .ok (.invokestatic 67, 3) := by decide +kernel
theorem dX0_sawAlike_7 : decode cX0_sawAlike 7 = .ok (.aload_n 0, 1) := by decide +kernel
theorem dX0_sawAlike_8 : decode cX0_sawAlike 8 = .ok (.getfield 44, 3) := by decide +kernel
theorem dX0_sawAlike_11 : decode cX0_sawAlike 11 = .ok (.if_icmp .eq 7, 3) := by decide +kernel
theorem dX0_sawAlike_14 : decode cX0_sawAlike 14 = .ok (.iconst 1, 1) := by decide +kernel
theorem dX0_sawAlike_15 : decode cX0_sawAlike 15 = .ok (.goto 4, 3) := by decide +kernel
theorem dX0_sawAlike_18 : decode cX0_sawAlike 18 = .ok (.iconst 0, 1) := by decide +kernel
theorem dX0_sawAlike_19 : decode cX0_sawAlike 19 = .ok (.ireturn, 1) := by decide +kernel
set_option maxRecDepth 20000 in
theorem ggX0_look_X4_read : GoodIn wsX0_look wsX4_read := goodIn_r _ [9] (by decide +kernel) (by decide +kernel)
set_option maxRecDepth 20000 in
theorem gX0_look_X4_read_n36 : GoodIn wsX0_look (wsX4_read) := ggX0_look_X4_read
theorem dX0_look_0 : decode cX0_look 0 = .ok (.aload_n 0, 1) := by decide +kernel
theorem dX0_look_1 : decode cX0_look 1 = .ok (.iconst 0, 1) := by decide +kernel
theorem dX0_look_2 : decode cX0_look 2 = .ok (.putfield 58, 3) := by decide +kernel
theorem dX0_look_5 : decode cX0_look 5 = .ok (.aload_n 0, 1) := by decide +kernel
theorem dX0_look_6 : decode cX0_look 6 = .ok (.iconst 0, 1) := by decide +kernel
theorem dX0_look_7 : decode cX0_look 7 = .ok (.putfield 44, 3) := by decide +kernel
theorem dX0_look_10 : decode cX0_look 10 = .ok (.aload_n 0, 1) := by decide +kernel
theorem dX0_look_11 : decode cX0_look 11 = .ok (.iconst 0, 1) := by decide +kernel
theorem dX0_look_12 : decode cX0_look 12 = .ok (.putfield 47, 3) := by decide +kernel
theorem dX0_look_15 : decode cX0_look 15 = .ok (.aload_n 0, 1) := by decide +kernel
theorem dX0_look_16 : decode cX0_look 16 = .ok (.getfield 25, 3) := by decide +kernel
theorem dX0_look_19 : decode cX0_look 19 = .ok (.iload_n 1, 1) := by decide +kernel
theorem dX0_look_20 : decode cX0_look 20 = .ok (.invokestatic 36, 3) := by decide +kernel
theorem dX0_look_23 : decode cX0_look 23 = .ok (.istore_n 2, 1) := by decide +kernel
theorem dX0_look_24 : decode cX0_look 24 = .ok (.iconst 0, 1) := by decide +kernel
theorem dX0_look_25 : decode cX0_look 25 = .ok (.istore_n 3, 1) := by decide +kernel
theorem dX0_look_26 : decode cX0_look 26 = .ok (.iload_n 3, 1) := by decide +kernel
theorem dX0_look_27 : decode cX0_look 27 = .ok (.iload_n 2, 1) := by decide +kernel
theorem dX0_look_28 : decode cX0_look 28 = .ok (.if_icmp .ge 65, 3) := by decide +kernel
theorem dX0_look_31 : decode cX0_look 31 = .ok (.aload_n 0, 1) := by decide +kernel
theorem dX0_look_32 : decode cX0_look 32 = .ok (.getfield 9, 3) := by decide +kernel
theorem dX0_look_35 : decode cX0_look 35 = .ok (.iload_n 1, 1) := by decide +kernel
theorem dX0_look_36 : decode cX0_look 36 = .ok (.iload_n 3, 1) := by decide +kernel
theorem dX0_look_37 : decode cX0_look 37 = .ok (.aload_n 0, 1) := by decide +kernel
theorem dX0_look_38 : decode cX0_look 38 = .ok (.getfield 28, 3) := by decide +kernel
theorem dX0_look_41 : decode cX0_look 41 = .ok (.imul, 1) := by decide +kernel
theorem dX0_look_42 : decode cX0_look 42 = .ok (.iadd, 1) := by decide +kernel
theorem dX0_look_43 : decode cX0_look 43 = .ok (.invokestatic 36, 3) := by decide +kernel
theorem dX0_look_46 : decode cX0_look 46 = .ok (.istore 4, 2) := by decide +kernel
theorem dX0_look_48 : decode cX0_look 48 = .ok (.iload 4, 2) := by decide +kernel
theorem dX0_look_50 : decode cX0_look 50 = .ok (.ifCond .le 37, 3) := by decide +kernel
theorem dX0_look_53 : decode cX0_look 53 = .ok (.aload_n 0, 1) := by decide +kernel
theorem dX0_look_54 : decode cX0_look 54 = .ok (.dup, 1) := by decide +kernel
theorem dX0_look_55 : decode cX0_look 55 = .ok (.getfield 58, 3) := by decide +kernel
theorem dX0_look_58 : decode cX0_look 58 = .ok (.iconst 1, 1) := by decide +kernel
theorem dX0_look_59 : decode cX0_look 59 = .ok (.iload 4, 2) := by decide +kernel
theorem dX0_look_61 : decode cX0_look 61 = .ok (.ishl, 1) := by decide +kernel
theorem dX0_look_62 : decode cX0_look 62 = .ok (.ior, 1) := by decide +kernel
theorem dX0_look_63 : decode cX0_look 63 = .ok (.putfield 58, 3) := by decide +kernel
theorem dX0_look_66 : decode cX0_look 66 = .ok (.aload_n 0, 1) := by decide +kernel
theorem dX0_look_67 : decode cX0_look 67 = .ok (.dup, 1) := by decide +kernel
theorem dX0_look_68 : decode cX0_look 68 = .ok (.getfield 44, 3) := by decide +kernel
theorem dX0_look_71 : decode cX0_look 71 = .ok (.iconst 1, 1) := by decide +kernel
theorem dX0_look_72 : decode cX0_look 72 = .ok (.iadd, 1) := by decide +kernel
theorem dX0_look_73 : decode cX0_look 73 = .ok (.putfield 44, 3) := by decide +kernel
theorem dX0_look_76 : decode cX0_look 76 = .ok (.aload_n 0, 1) := by decide +kernel
theorem dX0_look_77 : decode cX0_look 77 = .ok (.dup, 1) := by decide +kernel
theorem dX0_look_78 : decode cX0_look 78 = .ok (.getfield 47, 3) := by decide +kernel
theorem dX0_look_81 : decode cX0_look 81 = .ok (.iload 4, 2) := by decide +kernel
theorem dX0_look_83 : decode cX0_look 83 = .ok (.iadd, 1) := by decide +kernel
theorem dX0_look_84 : decode cX0_look 84 = .ok (.putfield 47, 3) := by decide +kernel
theorem dX0_look_87 : decode cX0_look 87 = .ok (.iinc 3 1, 3) := by decide +kernel
theorem dX0_look_90 : decode cX0_look 90 = .ok (.goto (-64), 3) := by decide +kernel
theorem dX0_look_93 : decode cX0_look 93 = .ok (.return_, 1) := by decide +kernel
set_option maxRecDepth 20000 in
theorem ggX1_init_X2_init : GoodIn wsX1_init wsX2_init := goodIn_r _ [16, 17, 2, 3, 18, 19, 20, 21, 22, 7, 23, 24, 25, 26, 27, 28, 29, 30, 31, 66] (by decide +kernel) (by decide +kernel)
set_option maxRecDepth 20000 in
theorem gX1_init_X2_init : GoodIn wsX1_init (wsX2_init) := ggX1_init_X2_init
set_option maxRecDepth 20000 in
theorem ggX1_init_X0_init : GoodIn wsX1_init wsX0_init := goodIn_r _ [34, 35, 2, 3, 36, 37, 4, 38, 39, 40, 41, 72, 73, 74, 75, 76, 77, 78, 79, 80] (by decide +kernel) (by decide +kernel)
set_option maxRecDepth 20000 in
theorem gX1_init_X0_init : GoodIn wsX1_init (wsX0_init) := ggX1_init_X0_init
set_option maxRecDepth 20000 in
theorem ggX1_init_X1_clear : GoodIn wsX1_init wsX1_clear := goodIn_r _ [46, 47, 48, 8, 12, 13, 49, 50, 51, 52, 53, 54, 11, 55, 41, 38, 56, 57, 58, 45, 59, 60, 61, 62, 63, 40, 36, 39, 64, 65, 67, 68, 69, 70, 71, 72, 73, 74, 75, 76, 77, 78, 79, 80] (by decide +kernel) (by decide +kernel)
set_option maxRecDepth 20000 in
theorem gX1_init_X1_clear : GoodIn wsX1_init (wsV RX1 30 RX1 yX1_clear wsX1_clear) := goodIn_app (goodIn_of _ (by decide +kernel)) ggX1_init_X1_clear
end
section
theorem dX1_init_0 : decode cX1_init 0 = .ok (.aload_n 0, 1) := by decide +kernel
theorem dX1_init_1 : decode cX1_init 1 = .ok (.invokespecial 3, 3) := by decide +kernel
theorem dX1_init_4 : decode cX1_init 4 = .ok (.bipush 36, 2) := by decide +kernel
theorem dX1_init_6 : decode cX1_init 6 = .ok (.newarray .int, 2) := by decide +kernel
theorem dX1_init_8 : decode cX1_init 8 = .ok (.astore_n 1, 1) := by decide +kernel
theorem dX1_init_9 : decode cX1_init 9 = .ok (.new 9, 3) := by decide +kernel
theorem dX1_init_12 : decode cX1_init 12 = .ok (.dup, 1) := by decide +kernel
theorem dX1_init_13 : decode cX1_init 13 = .ok (.invokespecial 11, 3) := by decide +kernel
theorem dX1_init_16 : decode cX1_init 16 = .ok (.astore_n 2, 1) := by decide +kernel
theorem dX1_init_17 : decode cX1_init 17 = .ok (.aload_n 0, 1) := by decide +kernel
theorem dX1_init_18 : decode cX1_init 18 = .ok (.aload_n 1, 1) := by decide +kernel
theorem dX1_init_19 : decode cX1_init 19 = .ok (.putfield 12, 3) := by decide +kernel
theorem dX1_init_22 : decode cX1_init 22 = .ok (.aload_n 0, 1) := by decide +kernel
theorem dX1_init_23 : decode cX1_init 23 = .ok (.new 18, 3) := by decide +kernel
theorem dX1_init_26 : decode cX1_init 26 = .ok (.dup, 1) := by decide +kernel
theorem dX1_init_27 : decode cX1_init 27 = .ok (.aload_n 1, 1) := by decide +kernel
theorem dX1_init_28 : decode cX1_init 28 = .ok (.aload_n 2, 1) := by decide +kernel
theorem dX1_init_29 : decode cX1_init 29 = .ok (.invokespecial 20, 3) := by decide +kernel
theorem dX1_init_32 : decode cX1_init 32 = .ok (.putfield 23, 3) := by decide +kernel
theorem dX1_init_35 : decode cX1_init 35 = .ok (.aload_n 0, 1) := by decide +kernel
theorem dX1_init_36 : decode cX1_init 36 = .ok (.new 18, 3) := by decide +kernel
theorem dX1_init_39 : decode cX1_init 39 = .ok (.dup, 1) := by decide +kernel
theorem dX1_init_40 : decode cX1_init 40 = .ok (.aload_n 1, 1) := by decide +kernel
theorem dX1_init_41 : decode cX1_init 41 = .ok (.aload_n 2, 1) := by decide +kernel
theorem dX1_init_42 : decode cX1_init 42 = .ok (.invokespecial 20, 3) := by decide +kernel
theorem dX1_init_45 : decode cX1_init 45 = .ok (.putfield 27, 3) := by decide +kernel
theorem dX1_init_48 : decode cX1_init 48 = .ok (.aload_n 0, 1) := by decide +kernel
theorem dX1_init_49 : decode cX1_init 49 = .ok (.iconst 4, 1) := by decide +kernel
theorem dX1_init_50 : decode cX1_init 50 = .ok (.iconst 4, 1) := by decide +kernel
theorem dX1_init_51 : decode cX1_init 51 = .ok (.invokevirtual 30, 3) := by decide +kernel
theorem dX1_init_54 : decode cX1_init 54 = .ok (.return_, 1) := by decide +kernel
set_option maxRecDepth 20000 in
theorem ggX1_clear_X4_write : GoodIn wsX1_clear wsX4_write := goodIn_r _ [8] (by decide +kernel) (by decide +kernel)
set_option maxRecDepth 20000 in
theorem gX1_clear_X4_write_n41 : GoodIn wsX1_clear (wsX4_write) := ggX1_clear_X4_write
set_option maxRecDepth 20000 in
theorem ggX1_clear_X0_clear : GoodIn wsX1_clear wsX0_clear := goodIn_r _ [13, 14, 15, 6, 7, 8, 35, 36, 37, 38, 39, 40, 41, 42, 43] (by decide +kernel) (by decide +kernel)
set_option maxRecDepth 20000 in
theorem gX1_clear_X0_clear : GoodIn wsX1_clear (wsV RX1 45 RX0 yX0_clear wsX0_clear) := goodIn_app (goodIn_of _ (by decide +kernel)) ggX1_clear_X0_clear
set_option maxRecDepth 20000 in
theorem ggX1_clear_X1_joinCells : GoodIn wsX1_clear wsX1_joinCells := goodIn_r _ [20, 2, 1, 4, 5, 21, 22, 23, 12, 24, 25, 26, 27, 6, 7, 8, 28, 29, 30, 31, 32, 33, 34, 35, 36, 37, 38, 39, 40, 41, 42, 43] (by decide +kernel) (by decide +kernel)
set_option maxRecDepth 20000 in
theorem gX1_clear_X1_joinCells : GoodIn wsX1_clear (wsV RX1 48 RX1 yX1_joinCells wsX1_joinCells) := goodIn_app (goodIn_of _ (by decide +kernel)) ggX1_clear_X1_joinCells
theorem dX1_clear_0 : decode cX1_clear 0 = .ok (.aload_n 0, 1) := by decide +kernel
theorem dX1_clear_1 : decode cX1_clear 1 = .ok (.iload_n 1, 1) := by decide +kernel
theorem dX1_clear_2 : decode cX1_clear 2 = .ok (.putfield 34, 3) := by decide +kernel
theorem dX1_clear_5 : decode cX1_clear 5 = .ok (.aload_n 0, 1) := by decide +kernel
theorem dX1_clear_6 : decode cX1_clear 6 = .ok (.iload_n 2, 1) := by decide +kernel
theorem dX1_clear_7 : decode cX1_clear 7 = .ok (.putfield 38, 3) := by decide +kernel
theorem dX1_clear_10 : decode cX1_clear 10 = .ok (.iconst 0, 1) := by decide +kernel
theorem dX1_clear_11 : decode cX1_clear 11 = .ok (.istore_n 3, 1) := by decide +kernel
theorem dX1_clear_12 : decode cX1_clear 12 = .ok (.iload_n 3, 1) := by decide +kernel
theorem dX1_clear_13 : decode cX1_clear 13 = .ok (.bipush 36, 2) := by decide +kernel
theorem dX1_clear_15 : decode cX1_clear 15 = .ok (.if_icmp .ge 18, 3) := by decide +kernel
theorem dX1_clear_18 : decode cX1_clear 18 = .ok (.aload_n 0, 1) := by decide +kernel
theorem dX1_clear_19 : decode cX1_clear 19 = .ok (.getfield 12, 3) := by decide +kernel
theorem dX1_clear_22 : decode cX1_clear 22 = .ok (.iload_n 3, 1) := by decide +kernel
theorem dX1_clear_23 : decode cX1_clear 23 = .ok (.iconst 0, 1) := by decide +kernel
theorem dX1_clear_24 : decode cX1_clear 24 = .ok (.invokestatic 41, 3) := by decide +kernel
theorem dX1_clear_27 : decode cX1_clear 27 = .ok (.iinc 3 1, 3) := by decide +kernel
theorem dX1_clear_30 : decode cX1_clear 30 = .ok (.goto (-18), 3) := by decide +kernel
theorem dX1_clear_33 : decode cX1_clear 33 = .ok (.aload_n 0, 1) := by decide +kernel
theorem dX1_clear_34 : decode cX1_clear 34 = .ok (.getfield 23, 3) := by decide +kernel
theorem dX1_clear_37 : decode cX1_clear 37 = .ok (.iconst 1, 1) := by decide +kernel
theorem dX1_clear_38 : decode cX1_clear 38 = .ok (.invokevirtual 45, 3) := by decide +kernel
theorem dX1_clear_41 : decode cX1_clear 41 = .ok (.aload_n 0, 1) := by decide +kernel
theorem dX1_clear_42 : decode cX1_clear 42 = .ok (.getfield 27, 3) := by decide +kernel
theorem dX1_clear_45 : decode cX1_clear 45 = .ok (.iload_n 1, 1) := by decide +kernel
theorem dX1_clear_46 : decode cX1_clear 46 = .ok (.invokevirtual 45, 3) := by decide +kernel
theorem dX1_clear_49 : decode cX1_clear 49 = .ok (.aload_n 0, 1) := by decide +kernel
theorem dX1_clear_50 : decode cX1_clear 50 = .ok (.invokevirtual 48, 3) := by decide +kernel
theorem dX1_clear_53 : decode cX1_clear 53 = .ok (.return_, 1) := by decide +kernel
set_option maxRecDepth 20000 in
theorem ggX1_joinCells_X0_join : GoodIn wsX1_joinCells wsX0_join := goodIn_r _ [9, 10, 11, 12, 13, 14, 15, 16, 17, 23, 24, 25, 26, 27, 28, 29, 30, 31] (by decide +kernel) (by decide +kernel)
set_option maxRecDepth 20000 in
theorem gX1_joinCells_X0_join : GoodIn wsX1_joinCells (wsV RX1 51 RX0 yX0_join wsX0_join) := goodIn_app (goodIn_of _ (by decide +kernel)) ggX1_joinCells_X0_join
theorem dX1_joinCells_0 : decode cX1_joinCells 0 = .ok (.iconst 0, 1) := by decide +kernel
theorem dX1_joinCells_1 : decode cX1_joinCells 1 = .ok (.istore_n 1, 1) := by decide +kernel
theorem dX1_joinCells_2 : decode cX1_joinCells 2 = .ok (.iload_n 1, 1) := by decide +kernel
theorem dX1_joinCells_3 : decode cX1_joinCells 3 = .ok (.aload_n 0, 1) := by decide +kernel
theorem dX1_joinCells_4 : decode cX1_joinCells 4 = .ok (.getfield 38, 3) := by decide +kernel
theorem dX1_joinCells_7 : decode cX1_joinCells 7 = .ok (.if_icmp .ge 75, 3) := by decide +kernel
theorem dX1_joinCells_10 : decode cX1_joinCells 10 = .ok (.iconst 0, 1) := by decide +kernel
theorem dX1_joinCells_11 : decode cX1_joinCells 11 = .ok (.istore_n 2, 1) := by decide +kernel
theorem dX1_joinCells_12 : decode cX1_joinCells 12 = .ok (.iload_n 2, 1) := by decide +kernel
theorem dX1_joinCells_13 : decode cX1_joinCells 13 = .ok (.aload_n 0, 1) := by decide +kernel
theorem dX1_joinCells_14 : decode cX1_joinCells 14 = .ok (.getfield 34, 3) := by decide +kernel
theorem dX1_joinCells_17 : decode cX1_joinCells 17 = .ok (.if_icmp .ge 59, 3) := by decide +kernel
theorem dX1_joinCells_20 : decode cX1_joinCells 20 = .ok (.iload_n 1, 1) := by decide +kernel
theorem dX1_joinCells_21 : decode cX1_joinCells 21 = .ok (.aload_n 0, 1) := by decide +kernel
theorem dX1_joinCells_22 : decode cX1_joinCells 22 = .ok (.getfield 34, 3) := by decide +kernel
theorem dX1_joinCells_25 : decode cX1_joinCells 25 = .ok (.imul, 1) := by decide +kernel
theorem dX1_joinCells_26 : decode cX1_joinCells 26 = .ok (.iload_n 2, 1) := by decide +kernel
theorem dX1_joinCells_27 : decode cX1_joinCells 27 = .ok (.iadd, 1) := by decide +kernel
theorem dX1_joinCells_28 : decode cX1_joinCells 28 = .ok (.istore_n 3, 1) := by decide +kernel
theorem dX1_joinCells_29 : decode cX1_joinCells 29 = .ok (.aload_n 0, 1) := by decide +kernel
theorem dX1_joinCells_30 : decode cX1_joinCells 30 = .ok (.getfield 23, 3) := by decide +kernel
theorem dX1_joinCells_33 : decode cX1_joinCells 33 = .ok (.iload_n 3, 1) := by decide +kernel
theorem dX1_joinCells_34 : decode cX1_joinCells 34 = .ok (.iload_n 2, 1) := by decide +kernel
theorem dX1_joinCells_35 : decode cX1_joinCells 35 = .ok (.ifCond .ne 7, 3) := by decide +kernel
theorem dX1_joinCells_38 : decode cX1_joinCells 38 = .ok (.iconst (-1), 1) := by decide +kernel
theorem dX1_joinCells_39 : decode cX1_joinCells 39 = .ok (.goto 6, 3) := by decide +kernel
theorem dX1_joinCells_42 : decode cX1_joinCells 42 = .ok (.iload_n 3, 1) := by decide +kernel
theorem dX1_joinCells_43 : decode cX1_joinCells 43 = .ok (.iconst 1, 1) := by decide +kernel
theorem dX1_joinCells_44 : decode cX1_joinCells 44 = .ok (.isub, 1) := by decide +kernel
theorem dX1_joinCells_45 : decode cX1_joinCells 45 = .ok (.invokevirtual 51, 3) := by decide +kernel
theorem dX1_joinCells_48 : decode cX1_joinCells 48 = .ok (.aload_n 0, 1) := by decide +kernel
theorem dX1_joinCells_49 : decode cX1_joinCells 49 = .ok (.getfield 27, 3) := by decide +kernel
theorem dX1_joinCells_52 : decode cX1_joinCells 52 = .ok (.iload_n 3, 1) := by decide +kernel
theorem dX1_joinCells_53 : decode cX1_joinCells 53 = .ok (.iload_n 1, 1) := by decide +kernel
theorem dX1_joinCells_54 : decode cX1_joinCells 54 = .ok (.ifCond .ne 7, 3) := by decide +kernel
theorem dX1_joinCells_57 : decode cX1_joinCells 57 = .ok (.iconst (-1), 1) := by decide +kernel
theorem dX1_joinCells_58 : decode cX1_joinCells 58 = .ok (.goto 9, 3) := by decide +kernel
theorem dX1_joinCells_61 : decode cX1_joinCells 61 = .ok (.iload_n 3, 1) := by decide +kernel
theorem dX1_joinCells_62 : decode cX1_joinCells 62 = .ok (.aload_n 0, 1) := by decide +kernel
theorem dX1_joinCells_63 : decode cX1_joinCells 63 = .ok (.getfield 34, 3) := by decide +kernel
theorem dX1_joinCells_66 : decode cX1_joinCells 66 = .ok (.isub, 1) := by decide +kernel
theorem dX1_joinCells_67 : decode cX1_joinCells 67 = .ok (.invokevirtual 51, 3) := by decide +kernel
theorem dX1_joinCells_70 : decode cX1_joinCells 70 = .ok (.iinc 2 1, 3) := by decide +kernel
theorem dX1_joinCells_73 : decode cX1_joinCells 73 = .ok (.goto (-61), 3) := by decide +kernel
theorem dX1_joinCells_76 : decode cX1_joinCells 76 = .ok (.iinc 1 1, 3) := by decide +kernel
theorem dX1_joinCells_79 : decode cX1_joinCells 79 = .ok (.goto (-77), 3) := by decide +kernel
theorem dX1_joinCells_82 : decode cX1_joinCells 82 = .ok (.return_, 1) := by decide +kernel
theorem dX1_cells_0 : decode cX1_cells 0 = .ok (.aload_n 0, 1) := by decide +kernel
theorem dX1_cells_1 : decode cX1_cells 1 = .ok (.getfield 34, 3) := by decide +kernel
theorem dX1_cells_4 : decode cX1_cells 4 = .ok (.aload_n 0, 1) := by decide +kernel
theorem dX1_cells_5 : decode cX1_cells 5 = .ok (.getfield 38, 3) := by decide +kernel
theorem dX1_cells_8 : decode cX1_cells 8 = .ok (.imul, 1) := by decide +kernel
theorem dX1_cells_9 : decode cX1_cells 9 = .ok (.ireturn, 1) := by decide +kernel
set_option maxRecDepth 20000 in
theorem ggX1_has_X1_cells : GoodIn wsX1_has wsX1_cells := goodIn_r _ [5, 6, 7, 8, 9, 10, 11, 12] (by decide +kernel) (by decide +kernel)
set_option maxRecDepth 20000 in
theorem gX1_has_X1_cells : GoodIn wsX1_has (wsV RX1 54 RX1 yX1_cells wsX1_cells) := goodIn_app (goodIn_of _ (by decide +kernel)) ggX1_has_X1_cells
theorem dX1_has_0 : decode cX1_has 0 = .ok (.iload_n 1, 1) := by decide +kernel
theorem dX1_has_1 : decode cX1_has 1 = .ok (.ifCond .lt 15, 3) := by decide +kernel
theorem dX1_has_4 : decode cX1_has 4 = .ok (.iload_n 1, 1) := by decide +kernel
theorem dX1_has_5 : decode cX1_has 5 = .ok (.aload_n 0, 1) := by decide +kernel
theorem dX1_has_6 : decode cX1_has 6 = .ok (.invokevirtual 54, 3) := by decide +kernel
theorem dX1_has_9 : decode cX1_has 9 = .ok (.if_icmp .ge 7, 3) := by decide +kernel
theorem dX1_has_12 : decode cX1_has 12 = .ok (.iconst 1, 1) := by decide +kernel
theorem dX1_has_13 : decode cX1_has 13 = .ok (.goto 4, 3) := by decide +kernel
theorem dX1_has_16 : decode cX1_has 16 = .ok (.iconst 0, 1) := by decide +kernel
theorem dX1_has_17 : decode cX1_has 17 = .ok (.ireturn, 1) := by decide +kernel
set_option maxRecDepth 20000 in
theorem ggX1_stoneAt_X4_read : GoodIn wsX1_stoneAt wsX4_read := goodIn_r _ [4] (by decide +kernel) (by decide +kernel)
set_option maxRecDepth 20000 in
theorem gX1_stoneAt_X4_read_n58 : GoodIn wsX1_stoneAt (wsX4_read) := ggX1_stoneAt_X4_read
theorem dX1_stoneAt_0 : decode cX1_stoneAt 0 = .ok (.aload_n 0, 1) := by decide +kernel
theorem dX1_stoneAt_1 : decode cX1_stoneAt 1 = .ok (.getfield 12, 3) := by decide +kernel
theorem dX1_stoneAt_4 : decode cX1_stoneAt 4 = .ok (.iload_n 1, 1) := by decide +kernel
theorem dX1_stoneAt_5 : decode cX1_stoneAt 5 = .ok (.invokestatic 58, 3) := by decide +kernel
theorem dX1_stoneAt_8 : decode cX1_stoneAt 8 = .ok (.ireturn, 1) := by decide +kernel
set_option maxRecDepth 20000 in
theorem ggX1_isPillar_X4_read : GoodIn wsX1_isPillar wsX4_read := goodIn_r _ [4] (by decide +kernel) (by decide +kernel)
set_option maxRecDepth 20000 in
theorem gX1_isPillar_X4_read_n58 : GoodIn wsX1_isPillar (wsX4_read) := ggX1_isPillar_X4_read
theorem dX1_isPillar_0 : decode cX1_isPillar 0 = .ok (.aload_n 0, 1) := by decide +kernel
theorem dX1_isPillar_1 : decode cX1_isPillar 1 = .ok (.getfield 12, 3) := by decide +kernel
theorem dX1_isPillar_4 : decode cX1_isPillar 4 = .ok (.iload_n 1, 1) := by decide +kernel
theorem dX1_isPillar_5 : decode cX1_isPillar 5 = .ok (.invokestatic 58, 3) := by decide +kernel
theorem dX1_isPillar_8 : decode cX1_isPillar 8 = .ok (.iconst (-1), 1) := by decide +kernel
theorem dX1_isPillar_9 : decode cX1_isPillar 9 = .ok (.if_icmp .ne 7, 3) := by decide +kernel
theorem dX1_isPillar_12 : decode cX1_isPillar 12 = .ok (.iconst 1, 1) := by decide +kernel
theorem dX1_isPillar_13 : decode cX1_isPillar 13 = .ok (.goto 4, 3) := by decide +kernel
theorem dX1_isPillar_16 : decode cX1_isPillar 16 = .ok (.iconst 0, 1) := by decide +kernel
theorem dX1_isPillar_17 : decode cX1_isPillar 17 = .ok (.ireturn, 1) := by decide +kernel
set_option maxRecDepth 20000 in
theorem ggX1_isHole_X4_read : GoodIn wsX1_isHole wsX4_read := goodIn_r _ [4] (by decide +kernel) (by decide +kernel)
set_option maxRecDepth 20000 in
theorem gX1_isHole_X4_read_n58 : GoodIn wsX1_isHole (wsX4_read) := ggX1_isHole_X4_read
theorem dX1_isHole_0 : decode cX1_isHole 0 = .ok (.aload_n 0, 1) := by decide +kernel
theorem dX1_isHole_1 : decode cX1_isHole 1 = .ok (.getfield 12, 3) := by decide +kernel
theorem dX1_isHole_4 : decode cX1_isHole 4 = .ok (.iload_n 1, 1) := by decide +kernel
theorem dX1_isHole_5 : decode cX1_isHole 5 = .ok (.invokestatic 58, 3) := by decide +kernel
theorem dX1_isHole_8 : decode cX1_isHole 8 = .ok (.ifCond .ne 7, 3) := by decide +kernel
theorem dX1_isHole_11 : decode cX1_isHole 11 = .ok (.iconst 1, 1) := by decide +kernel
theorem dX1_isHole_12 : decode cX1_isHole 12 = .ok (.goto 4, 3) := by decide +kernel
theorem dX1_isHole_15 : decode cX1_isHole 15 = .ok (.iconst 0, 1) := by decide +kernel
theorem dX1_isHole_16 : decode cX1_isHole 16 = .ok (.ireturn, 1) := by decide +kernel
set_option maxRecDepth 20000 in
theorem ggX1_lay_X4_write : GoodIn wsX1_lay wsX4_write := goodIn_r _ [4] (by decide +kernel) (by decide +kernel)
set_option maxRecDepth 20000 in
theorem gX1_lay_X4_write_n41 : GoodIn wsX1_lay (wsX4_write) := ggX1_lay_X4_write
theorem dX1_lay_0 : decode cX1_lay 0 = .ok (.aload_n 0, 1) := by decide +kernel
theorem dX1_lay_1 : decode cX1_lay 1 = .ok (.getfield 12, 3) := by decide +kernel
theorem dX1_lay_4 : decode cX1_lay 4 = .ok (.iload_n 1, 1) := by decide +kernel
theorem dX1_lay_5 : decode cX1_lay 5 = .ok (.iload_n 2, 1) := by decide +kernel
theorem dX1_lay_6 : decode cX1_lay 6 = .ok (.invokestatic 41, 3) := by decide +kernel
theorem dX1_lay_9 : decode cX1_lay 9 = .ok (.return_, 1) := by decide +kernel
set_option maxRecDepth 20000 in
theorem ggX1_turnPillar_X1_isPillar : GoodIn wsX1_turnPillar wsX1_isPillar := goodIn_r _ [6, 1, 7, 8, 9, 28, 29, 30, 31, 32] (by decide +kernel) (by decide +kernel)
set_option maxRecDepth 20000 in
theorem gX1_turnPillar_X1_isPillar : GoodIn wsX1_turnPillar (wsV RX1 62 RX1 yX1_isPillar wsX1_isPillar) := goodIn_app (goodIn_of _ (by decide +kernel)) ggX1_turnPillar_X1_isPillar
set_option maxRecDepth 20000 in
theorem ggX1_turnPillar_X4_write : GoodIn wsX1_turnPillar wsX4_write := goodIn_r _ [11] (by decide +kernel) (by decide +kernel)
set_option maxRecDepth 20000 in
theorem gX1_turnPillar_X4_write_n41 : GoodIn wsX1_turnPillar (wsX4_write) := ggX1_turnPillar_X4_write
set_option maxRecDepth 20000 in
theorem ggX1_turnPillar_X1_joinCells : GoodIn wsX1_turnPillar wsX1_joinCells := goodIn_r _ [15, 16, 17, 18, 19, 20, 21, 22, 23, 24, 25, 26, 27, 10, 8, 11, 7, 9, 28, 29, 30, 31, 32, 33, 34, 35, 36, 37, 38, 39, 40, 41] (by decide +kernel) (by decide +kernel)
set_option maxRecDepth 20000 in
theorem gX1_turnPillar_X1_joinCells : GoodIn wsX1_turnPillar (wsV RX1 48 RX1 yX1_joinCells wsX1_joinCells) := goodIn_app (goodIn_of _ (by decide +kernel)) ggX1_turnPillar_X1_joinCells
theorem dX1_turnPillar_0 : decode cX1_turnPillar 0 = .ok (.aload_n 0, 1) := by decide +kernel
theorem dX1_turnPillar_1 : decode cX1_turnPillar 1 = .ok (.getfield 12, 3) := by decide +kernel
theorem dX1_turnPillar_4 : decode cX1_turnPillar 4 = .ok (.iload_n 1, 1) := by decide +kernel
theorem dX1_turnPillar_5 : decode cX1_turnPillar 5 = .ok (.aload_n 0, 1) := by decide +kernel
theorem dX1_turnPillar_6 : decode cX1_turnPillar 6 = .ok (.iload_n 1, 1) := by decide +kernel
theorem dX1_turnPillar_7 : decode cX1_turnPillar 7 = .ok (.invokevirtual 62, 3) := by decide +kernel
theorem dX1_turnPillar_10 : decode cX1_turnPillar 10 = .ok (.ifCond .eq 7, 3) := by decide +kernel
theorem dX1_turnPillar_13 : decode cX1_turnPillar 13 = .ok (.iconst 0, 1) := by decide +kernel
theorem dX1_turnPillar_14 : decode cX1_turnPillar 14 = .ok (.goto 4, 3) := by decide +kernel
theorem dX1_turnPillar_17 : decode cX1_turnPillar 17 = .ok (.iconst (-1), 1) := by decide +kernel
theorem dX1_turnPillar_18 : decode cX1_turnPillar 18 = .ok (.invokestatic 41, 3) := by decide +kernel
theorem dX1_turnPillar_21 : decode cX1_turnPillar 21 = .ok (.aload_n 0, 1) := by decide +kernel
theorem dX1_turnPillar_22 : decode cX1_turnPillar 22 = .ok (.invokevirtual 48, 3) := by decide +kernel
theorem dX1_turnPillar_25 : decode cX1_turnPillar 25 = .ok (.return_, 1) := by decide +kernel
theorem dX1_corridors_0 : decode cX1_corridors 0 = .ok (.iload_n 1, 1) := by decide +kernel
theorem dX1_corridors_1 : decode cX1_corridors 1 = .ok (.ifCond .eq 10, 3) := by decide +kernel
theorem dX1_corridors_4 : decode cX1_corridors 4 = .ok (.aload_n 0, 1) := by decide +kernel
theorem dX1_corridors_5 : decode cX1_corridors 5 = .ok (.getfield 27, 3) := by decide +kernel
theorem dX1_corridors_8 : decode cX1_corridors 8 = .ok (.goto 7, 3) := by decide +kernel
theorem dX1_corridors_11 : decode cX1_corridors 11 = .ok (.aload_n 0, 1) := by decide +kernel
theorem dX1_corridors_12 : decode cX1_corridors 12 = .ok (.getfield 23, 3) := by decide +kernel
theorem dX1_corridors_15 : decode cX1_corridors 15 = .ok (.areturn, 1) := by decide +kernel
set_option maxRecDepth 20000 in
theorem ggX1_numbersFor_X1_isHole : GoodIn wsX1_numbersFor wsX1_isHole := goodIn_r _ [7, 8, 9, 10, 11, 47, 48, 49, 50, 51] (by decide +kernel) (by decide +kernel)
set_option maxRecDepth 20000 in
theorem gX1_numbersFor_X1_isHole : GoodIn wsX1_numbersFor (wsV RX1 66 RX1 yX1_isHole wsX1_isHole) := goodIn_app (goodIn_of _ (by decide +kernel)) ggX1_numbersFor_X1_isHole
set_option maxRecDepth 20000 in
theorem ggX1_numbersFor_X0_numbersFor : GoodIn wsX1_numbersFor wsX0_numbersFor := goodIn_r _ [16, 17, 18, 19, 20, 21, 22, 23, 9, 10, 11, 24, 25, 26, 15, 27, 28, 29, 30, 31, 32, 33, 34, 35, 36, 37, 38, 39, 40, 41, 42, 43, 44, 45, 46, 52, 53, 54, 55, 56, 57, 58, 59, 60, 61] (by decide +kernel) (by decide +kernel)
set_option maxRecDepth 20000 in
theorem gX1_numbersFor_X0_numbersFor : GoodIn wsX1_numbersFor (wsV RX1 69 RX0 yX0_numbersFor wsX0_numbersFor) := goodIn_app (goodIn_of _ (by decide +kernel)) ggX1_numbersFor_X0_numbersFor
theorem dX1_numbersFor_0 : decode cX1_numbersFor 0 = .ok (.aload_n 0, 1) := by decide +kernel
theorem dX1_numbersFor_1 : decode cX1_numbersFor 1 = .ok (.iload_n 1, 1) := by decide +kernel
theorem dX1_numbersFor_2 : decode cX1_numbersFor 2 = .ok (.invokevirtual 66, 3) := by decide +kernel
theorem dX1_numbersFor_5 : decode cX1_numbersFor 5 = .ok (.ifCond .eq 23, 3) := by decide +kernel
theorem dX1_numbersFor_8 : decode cX1_numbersFor 8 = .ok (.aload_n 0, 1) := by decide +kernel
theorem dX1_numbersFor_9 : decode cX1_numbersFor 9 = .ok (.getfield 23, 3) := by decide +kernel
theorem dX1_numbersFor_12 : decode cX1_numbersFor 12 = .ok (.iload_n 1, 1) := by decide +kernel
theorem dX1_numbersFor_13 : decode cX1_numbersFor 13 = .ok (.invokevirtual 69, 3) := by decide +kernel
theorem dX1_numbersFor_16 : decode cX1_numbersFor 16 = .ok (.aload_n 0, 1) := by decide +kernel
theorem dX1_numbersFor_17 : decode cX1_numbersFor 17 = .ok (.getfield 27, 3) := by decide +kernel
theorem dX1_numbersFor_20 : decode cX1_numbersFor 20 = .ok (.iload_n 1, 1) := by decide +kernel
theorem dX1_numbersFor_21 : decode cX1_numbersFor 21 = .ok (.invokevirtual 69, 3) := by decide +kernel
theorem dX1_numbersFor_24 : decode cX1_numbersFor 24 = .ok (.iand, 1) := by decide +kernel
theorem dX1_numbersFor_25 : decode cX1_numbersFor 25 = .ok (.goto 4, 3) := by decide +kernel
theorem dX1_numbersFor_28 : decode cX1_numbersFor 28 = .ok (.iconst 0, 1) := by decide +kernel
theorem dX1_numbersFor_29 : decode cX1_numbersFor 29 = .ok (.ireturn, 1) := by decide +kernel
set_option maxRecDepth 20000 in
theorem ggX1_isAllWell_X1_wellOf : GoodIn wsX1_isAllWell wsX1_wellOf := goodIn_r _ [7, 8, 9, 10, 6, 11, 12, 13, 14, 15, 16, 17, 18, 19, 20, 21, 22, 23, 24, 25, 26, 27, 28, 29, 30, 31, 32, 33, 34, 35, 36, 37, 38, 39, 40, 41, 42, 43, 44, 45, 46, 47, 48, 49, 50, 51, 52, 53, 54, 55, 60, 61, 62, 63, 64, 65, 66, 67, 68, 69, 70, 71, 72, 73, 74] (by decide +kernel) (by decide +kernel)
set_option maxRecDepth 20000 in
theorem gX1_isAllWell_X1_wellOf : GoodIn wsX1_isAllWell (wsV RX1 73 RX1 yX1_wellOf wsX1_wellOf) := goodIn_app (goodIn_of _ (by decide +kernel)) ggX1_isAllWell_X1_wellOf
set_option maxRecDepth 20000 in
theorem ggX1_isAllWell_X1_corridorsOf : GoodIn wsX1_isAllWell wsX1_corridorsOf := goodIn_r _ [59, 8, 9, 10, 6, 11, 12, 13, 14, 15, 16, 17, 18, 19, 20, 21, 22, 60, 61, 62, 63, 64, 65, 66, 67, 68, 69, 70, 71, 72, 73] (by decide +kernel) (by decide +kernel)
set_option maxRecDepth 20000 in
theorem gX1_isAllWell_X1_corridorsOf : GoodIn wsX1_isAllWell (wsV RX1 77 RX1 yX1_corridorsOf wsX1_corridorsOf) := goodIn_app (goodIn_of _ (by decide +kernel)) ggX1_isAllWell_X1_corridorsOf
theorem dX1_isAllWell_0 : decode cX1_isAllWell 0 = .ok (.aload_n 0, 1) := by decide +kernel
theorem dX1_isAllWell_1 : decode cX1_isAllWell 1 = .ok (.aload_n 0, 1) := by decide +kernel
theorem dX1_isAllWell_2 : decode cX1_isAllWell 2 = .ok (.getfield 23, 3) := by decide +kernel
theorem dX1_isAllWell_5 : decode cX1_isAllWell 5 = .ok (.invokevirtual 73, 3) := by decide +kernel
theorem dX1_isAllWell_8 : decode cX1_isAllWell 8 = .ok (.aload_n 0, 1) := by decide +kernel
theorem dX1_isAllWell_9 : decode cX1_isAllWell 9 = .ok (.aload_n 0, 1) := by decide +kernel
theorem dX1_isAllWell_10 : decode cX1_isAllWell 10 = .ok (.getfield 27, 3) := by decide +kernel
theorem dX1_isAllWell_13 : decode cX1_isAllWell 13 = .ok (.invokevirtual 73, 3) := by decide +kernel
theorem dX1_isAllWell_16 : decode cX1_isAllWell 16 = .ok (.iadd, 1) := by decide +kernel
theorem dX1_isAllWell_17 : decode cX1_isAllWell 17 = .ok (.aload_n 0, 1) := by decide +kernel
theorem dX1_isAllWell_18 : decode cX1_isAllWell 18 = .ok (.aload_n 0, 1) := by decide +kernel
theorem dX1_isAllWell_19 : decode cX1_isAllWell 19 = .ok (.getfield 23, 3) := by decide +kernel
theorem dX1_isAllWell_22 : decode cX1_isAllWell 22 = .ok (.invokevirtual 77, 3) := by decide +kernel
theorem dX1_isAllWell_25 : decode cX1_isAllWell 25 = .ok (.aload_n 0, 1) := by decide +kernel
theorem dX1_isAllWell_26 : decode cX1_isAllWell 26 = .ok (.aload_n 0, 1) := by decide +kernel
theorem dX1_isAllWell_27 : decode cX1_isAllWell 27 = .ok (.getfield 27, 3) := by decide +kernel
theorem dX1_isAllWell_30 : decode cX1_isAllWell 30 = .ok (.invokevirtual 77, 3) := by decide +kernel
theorem dX1_isAllWell_33 : decode cX1_isAllWell 33 = .ok (.iadd, 1) := by decide +kernel
theorem dX1_isAllWell_34 : decode cX1_isAllWell 34 = .ok (.if_icmp .ne 7, 3) := by decide +kernel
theorem dX1_isAllWell_37 : decode cX1_isAllWell 37 = .ok (.iconst 1, 1) := by decide +kernel
theorem dX1_isAllWell_38 : decode cX1_isAllWell 38 = .ok (.goto 4, 3) := by decide +kernel
theorem dX1_isAllWell_41 : decode cX1_isAllWell 41 = .ok (.iconst 0, 1) := by decide +kernel
theorem dX1_isAllWell_42 : decode cX1_isAllWell 42 = .ok (.ireturn, 1) := by decide +kernel
set_option maxRecDepth 20000 in
theorem ggX1_firstSingle_X1_cells : GoodIn wsX1_firstSingle wsX1_cells := goodIn_r _ [5, 6, 7, 58, 59, 60, 61, 62] (by decide +kernel) (by decide +kernel)
set_option maxRecDepth 20000 in
theorem gX1_firstSingle_X1_cells : GoodIn wsX1_firstSingle (wsV RX1 54 RX1 yX1_cells wsX1_cells) := goodIn_app (goodIn_of _ (by decide +kernel)) ggX1_firstSingle_X1_cells
set_option maxRecDepth 20000 in
theorem ggX1_firstSingle_X1_numbersFor : GoodIn wsX1_firstSingle wsX1_numbersFor := goodIn_r _ [11, 12, 13, 14, 15, 16, 4, 17, 18, 19, 20, 21, 22, 23, 24, 25, 26, 27, 28, 29, 30, 31, 32, 33, 34, 35, 36, 37, 38, 39, 40, 41, 42, 43, 44, 45, 46, 47, 48, 49, 50, 51, 52, 53, 54, 55, 56, 58, 59, 60, 61, 62, 63, 64, 65, 66, 67, 68, 69, 70, 71, 72] (by decide +kernel) (by decide +kernel)
set_option maxRecDepth 20000 in
theorem gX1_firstSingle_X1_numbersFor : GoodIn wsX1_firstSingle (wsV RX1 80 RX1 yX1_numbersFor wsX1_numbersFor) := goodIn_app (goodIn_of _ (by decide +kernel)) ggX1_firstSingle_X1_numbersFor
set_option maxRecDepth 20000 in
theorem ggX1_firstSingle_J6_bitCount_0f7a4 : GoodIn wsX1_firstSingle wsJ6_bitCount_0f7a4 := goodIn_r _ [47, 48, 49, 50] (by decide +kernel) (by decide +kernel)
set_option maxRecDepth 20000 in
theorem gX1_firstSingle_J6_bitCount_0f7a4 : GoodIn wsX1_firstSingle (va_wsS RX1 81 yJ6_bitCount_0f7a4 wsJ6_bitCount_0f7a4) := goodIn_app (goodIn_of _ (by decide +kernel)) ggX1_firstSingle_J6_bitCount_0f7a4
theorem dX1_firstSingle_0 : decode cX1_firstSingle 0 = .ok (.iconst 0, 1) := by decide +kernel
theorem dX1_firstSingle_1 : decode cX1_firstSingle 1 = .ok (.istore_n 1, 1) := by decide +kernel
theorem dX1_firstSingle_2 : decode cX1_firstSingle 2 = .ok (.iload_n 1, 1) := by decide +kernel
theorem dX1_firstSingle_3 : decode cX1_firstSingle 3 = .ok (.aload_n 0, 1) := by decide +kernel
theorem dX1_firstSingle_4 : decode cX1_firstSingle 4 = .ok (.invokevirtual 54, 3) := by decide +kernel
theorem dX1_firstSingle_7 : decode cX1_firstSingle 7 = .ok (.if_icmp .ge 23, 3) := by decide +kernel
theorem dX1_firstSingle_10 : decode cX1_firstSingle 10 = .ok (.aload_n 0, 1) := by decide +kernel
theorem dX1_firstSingle_11 : decode cX1_firstSingle 11 = .ok (.iload_n 1, 1) := by decide +kernel
theorem dX1_firstSingle_12 : decode cX1_firstSingle 12 = .ok (.invokevirtual 80, 3) := by decide +kernel
theorem dX1_firstSingle_15 : decode cX1_firstSingle 15 = .ok (.invokestatic 81, 3) := by decide +kernel
theorem dX1_firstSingle_18 : decode cX1_firstSingle 18 = .ok (.iconst 1, 1) := by decide +kernel
theorem dX1_firstSingle_19 : decode cX1_firstSingle 19 = .ok (.if_icmp .ne 5, 3) := by decide +kernel
theorem dX1_firstSingle_22 : decode cX1_firstSingle 22 = .ok (.iload_n 1, 1) := by decide +kernel
theorem dX1_firstSingle_23 : decode cX1_firstSingle 23 = .ok (.ireturn, 1) := by decide +kernel
theorem dX1_firstSingle_24 : decode cX1_firstSingle 24 = .ok (.iinc 1 1, 3) := by decide +kernel
theorem dX1_firstSingle_27 : decode cX1_firstSingle 27 = .ok (.goto (-25), 3) := by decide +kernel
theorem dX1_firstSingle_30 : decode cX1_firstSingle 30 = .ok (.iconst (-1), 1) := by decide +kernel
theorem dX1_firstSingle_31 : decode cX1_firstSingle 31 = .ok (.ireturn, 1) := by decide +kernel
set_option maxRecDepth 20000 in
theorem ggX1_tightest_X1_cells : GoodIn wsX1_tightest wsX1_cells := goodIn_r _ [5, 6, 7, 58, 59, 60, 61, 62] (by decide +kernel) (by decide +kernel)
set_option maxRecDepth 20000 in
theorem gX1_tightest_X1_cells : GoodIn wsX1_tightest (wsV RX1 54 RX1 yX1_cells wsX1_cells) := goodIn_app (goodIn_of _ (by decide +kernel)) ggX1_tightest_X1_cells
set_option maxRecDepth 20000 in
theorem ggX1_tightest_X1_numbersFor : GoodIn wsX1_tightest wsX1_numbersFor := goodIn_r _ [11, 12, 13, 14, 15, 16, 4, 17, 18, 19, 20, 21, 22, 23, 24, 25, 26, 27, 28, 29, 30, 31, 32, 33, 34, 35, 36, 37, 38, 39, 40, 41, 42, 43, 44, 45, 46, 47, 48, 49, 50, 51, 52, 53, 54, 55, 56, 58, 59, 60, 61, 62, 63, 64, 65, 66, 67, 68, 69, 70, 71, 72] (by decide +kernel) (by decide +kernel)
set_option maxRecDepth 20000 in
theorem gX1_tightest_X1_numbersFor : GoodIn wsX1_tightest (wsV RX1 80 RX1 yX1_numbersFor wsX1_numbersFor) := goodIn_app (goodIn_of _ (by decide +kernel)) ggX1_tightest_X1_numbersFor
set_option maxRecDepth 20000 in
theorem ggX1_tightest_J6_bitCount_0f7a4 : GoodIn wsX1_tightest wsJ6_bitCount_0f7a4 := goodIn_r _ [47, 48, 49, 50] (by decide +kernel) (by decide +kernel)
set_option maxRecDepth 20000 in
theorem gX1_tightest_J6_bitCount_0f7a4 : GoodIn wsX1_tightest (va_wsS RX1 81 yJ6_bitCount_0f7a4 wsJ6_bitCount_0f7a4) := goodIn_app (goodIn_of _ (by decide +kernel)) ggX1_tightest_J6_bitCount_0f7a4
set_option maxRecDepth 20000 in
theorem ggX1_tightest_X1_isHole : GoodIn wsX1_tightest wsX1_isHole := goodIn_r _ [17, 18, 19, 20, 21, 58, 59, 60, 61, 62] (by decide +kernel) (by decide +kernel)
set_option maxRecDepth 20000 in
theorem gX1_tightest_X1_isHole : GoodIn wsX1_tightest (wsV RX1 66 RX1 yX1_isHole wsX1_isHole) := goodIn_app (goodIn_of _ (by decide +kernel)) ggX1_tightest_X1_isHole
theorem dX1_tightest_0 : decode cX1_tightest 0 = .ok (.iconst (-1), 1) := by decide +kernel
theorem dX1_tightest_1 : decode cX1_tightest 1 = .ok (.istore_n 1, 1) := by decide +kernel
theorem dX1_tightest_2 : decode cX1_tightest 2 = .ok (.bipush 10, 2) := by decide +kernel
theorem dX1_tightest_4 : decode cX1_tightest 4 = .ok (.istore_n 2, 1) := by decide +kernel
theorem dX1_tightest_5 : decode cX1_tightest 5 = .ok (.iconst 0, 1) := by decide +kernel
theorem dX1_tightest_6 : decode cX1_tightest 6 = .ok (.istore_n 3, 1) := by decide +kernel
theorem dX1_tightest_7 : decode cX1_tightest 7 = .ok (.iload_n 3, 1) := by decide +kernel
theorem dX1_tightest_8 : decode cX1_tightest 8 = .ok (.aload_n 0, 1) := by decide +kernel
theorem dX1_tightest_9 : decode cX1_tightest 9 = .ok (.invokevirtual 54, 3) := by decide +kernel
theorem dX1_tightest_12 : decode cX1_tightest 12 = .ok (.if_icmp .ge 38, 3) := by decide +kernel
theorem dX1_tightest_15 : decode cX1_tightest 15 = .ok (.aload_n 0, 1) := by decide +kernel
theorem dX1_tightest_16 : decode cX1_tightest 16 = .ok (.iload_n 3, 1) := by decide +kernel
theorem dX1_tightest_17 : decode cX1_tightest 17 = .ok (.invokevirtual 80, 3) := by decide +kernel
theorem dX1_tightest_20 : decode cX1_tightest 20 = .ok (.invokestatic 81, 3) := by decide +kernel
theorem dX1_tightest_23 : decode cX1_tightest 23 = .ok (.istore 4, 2) := by decide +kernel
theorem dX1_tightest_25 : decode cX1_tightest 25 = .ok (.aload_n 0, 1) := by decide +kernel
theorem dX1_tightest_26 : decode cX1_tightest 26 = .ok (.iload_n 3, 1) := by decide +kernel
theorem dX1_tightest_27 : decode cX1_tightest 27 = .ok (.invokevirtual 66, 3) := by decide +kernel
theorem dX1_tightest_30 : decode cX1_tightest 30 = .ok (.ifCond .eq 14, 3) := by decide +kernel
theorem dX1_tightest_33 : decode cX1_tightest 33 = .ok (.iload 4, 2) := by decide +kernel
theorem dX1_tightest_35 : decode cX1_tightest 35 = .ok (.iload_n 2, 1) := by decide +kernel
theorem dX1_tightest_36 : decode cX1_tightest 36 = .ok (.if_icmp .ge 8, 3) := by decide +kernel
theorem dX1_tightest_39 : decode cX1_tightest 39 = .ok (.iload_n 3, 1) := by decide +kernel
theorem dX1_tightest_40 : decode cX1_tightest 40 = .ok (.istore_n 1, 1) := by decide +kernel
theorem dX1_tightest_41 : decode cX1_tightest 41 = .ok (.iload 4, 2) := by decide +kernel
theorem dX1_tightest_43 : decode cX1_tightest 43 = .ok (.istore_n 2, 1) := by decide +kernel
theorem dX1_tightest_44 : decode cX1_tightest 44 = .ok (.iinc 3 1, 3) := by decide +kernel
theorem dX1_tightest_47 : decode cX1_tightest 47 = .ok (.goto (-40), 3) := by decide +kernel
theorem dX1_tightest_50 : decode cX1_tightest 50 = .ok (.iload_n 1, 1) := by decide +kernel
theorem dX1_tightest_51 : decode cX1_tightest 51 = .ok (.ireturn, 1) := by decide +kernel
set_option maxRecDepth 20000 in
theorem ggX1_meanOfNumbers_X1_cells : GoodIn wsX1_meanOfNumbers wsX1_cells := goodIn_r _ [5, 6, 7, 58, 59, 60, 61, 62] (by decide +kernel) (by decide +kernel)
set_option maxRecDepth 20000 in
theorem gX1_meanOfNumbers_X1_cells : GoodIn wsX1_meanOfNumbers (wsV RX1 54 RX1 yX1_cells wsX1_cells) := goodIn_app (goodIn_of _ (by decide +kernel)) ggX1_meanOfNumbers_X1_cells
set_option maxRecDepth 20000 in
theorem ggX1_meanOfNumbers_X1_isHole : GoodIn wsX1_meanOfNumbers wsX1_isHole := goodIn_r _ [11, 12, 13, 14, 15, 58, 59, 60, 61, 62] (by decide +kernel) (by decide +kernel)
set_option maxRecDepth 20000 in
theorem gX1_meanOfNumbers_X1_isHole : GoodIn wsX1_meanOfNumbers (wsV RX1 66 RX1 yX1_isHole wsX1_isHole) := goodIn_app (goodIn_of _ (by decide +kernel)) ggX1_meanOfNumbers_X1_isHole
set_option maxRecDepth 20000 in
theorem ggX1_meanOfNumbers_X1_numbersFor : GoodIn wsX1_meanOfNumbers wsX1_numbersFor := goodIn_r _ [19, 20, 21, 8, 9, 10, 4, 11, 12, 13, 14, 15, 22, 23, 24, 25, 26, 27, 28, 29, 30, 31, 32, 33, 34, 35, 36, 37, 38, 39, 40, 41, 42, 43, 44, 45, 46, 47, 48, 49, 50, 51, 52, 53, 54, 55, 56, 58, 59, 60, 61, 62, 63, 64, 65, 66, 67, 68, 69, 70, 71, 72] (by decide +kernel) (by decide +kernel)
set_option maxRecDepth 20000 in
theorem gX1_meanOfNumbers_X1_numbersFor : GoodIn wsX1_meanOfNumbers (wsV RX1 80 RX1 yX1_numbersFor wsX1_numbersFor) := goodIn_app (goodIn_of _ (by decide +kernel)) ggX1_meanOfNumbers_X1_numbersFor
set_option maxRecDepth 20000 in
theorem ggX1_meanOfNumbers_J6_bitCount_0f7a4 : GoodIn wsX1_meanOfNumbers wsJ6_bitCount_0f7a4 := goodIn_r _ [47, 48, 49, 50] (by decide +kernel) (by decide +kernel)
set_option maxRecDepth 20000 in
theorem gX1_meanOfNumbers_J6_bitCount_0f7a4 : GoodIn wsX1_meanOfNumbers (va_wsS RX1 81 yJ6_bitCount_0f7a4 wsJ6_bitCount_0f7a4) := goodIn_app (goodIn_of _ (by decide +kernel)) ggX1_meanOfNumbers_J6_bitCount_0f7a4
theorem dX1_meanOfNumbers_0 : decode cX1_meanOfNumbers 0 = .ok (.iconst 0, 1) := by decide +kernel
theorem dX1_meanOfNumbers_1 : decode cX1_meanOfNumbers 1 = .ok (.istore_n 1, 1) := by decide +kernel
theorem dX1_meanOfNumbers_2 : decode cX1_meanOfNumbers 2 = .ok (.iconst 0, 1) := by decide +kernel
theorem dX1_meanOfNumbers_3 : decode cX1_meanOfNumbers 3 = .ok (.istore_n 2, 1) := by decide +kernel
theorem dX1_meanOfNumbers_4 : decode cX1_meanOfNumbers 4 = .ok (.iconst 0, 1) := by decide +kernel
theorem dX1_meanOfNumbers_5 : decode cX1_meanOfNumbers 5 = .ok (.istore_n 3, 1) := by decide +kernel
theorem dX1_meanOfNumbers_6 : decode cX1_meanOfNumbers 6 = .ok (.iload_n 3, 1) := by decide +kernel
theorem dX1_meanOfNumbers_7 : decode cX1_meanOfNumbers 7 = .ok (.aload_n 0, 1) := by decide +kernel
theorem dX1_meanOfNumbers_8 : decode cX1_meanOfNumbers 8 = .ok (.invokevirtual 54, 3) := by decide +kernel
theorem dX1_meanOfNumbers_11 : decode cX1_meanOfNumbers 11 = .ok (.if_icmp .ge 31, 3) := by decide +kernel
theorem dX1_meanOfNumbers_14 : decode cX1_meanOfNumbers 14 = .ok (.aload_n 0, 1) := by decide +kernel
theorem dX1_meanOfNumbers_15 : decode cX1_meanOfNumbers 15 = .ok (.iload_n 3, 1) := by decide +kernel
theorem dX1_meanOfNumbers_16 : decode cX1_meanOfNumbers 16 = .ok (.invokevirtual 66, 3) := by decide +kernel
theorem dX1_meanOfNumbers_19 : decode cX1_meanOfNumbers 19 = .ok (.ifCond .eq 17, 3) := by decide +kernel
theorem dX1_meanOfNumbers_22 : decode cX1_meanOfNumbers 22 = .ok (.iinc 1 1, 3) := by decide +kernel
theorem dX1_meanOfNumbers_25 : decode cX1_meanOfNumbers 25 = .ok (.iload_n 2, 1) := by decide +kernel
theorem dX1_meanOfNumbers_26 : decode cX1_meanOfNumbers 26 = .ok (.aload_n 0, 1) := by decide +kernel
theorem dX1_meanOfNumbers_27 : decode cX1_meanOfNumbers 27 = .ok (.iload_n 3, 1) := by decide +kernel
theorem dX1_meanOfNumbers_28 : decode cX1_meanOfNumbers 28 = .ok (.invokevirtual 80, 3) := by decide +kernel
theorem dX1_meanOfNumbers_31 : decode cX1_meanOfNumbers 31 = .ok (.invokestatic 81, 3) := by decide +kernel
theorem dX1_meanOfNumbers_34 : decode cX1_meanOfNumbers 34 = .ok (.iadd, 1) := by decide +kernel
theorem dX1_meanOfNumbers_35 : decode cX1_meanOfNumbers 35 = .ok (.istore_n 2, 1) := by decide +kernel
theorem dX1_meanOfNumbers_36 : decode cX1_meanOfNumbers 36 = .ok (.iinc 3 1, 3) := by decide +kernel
theorem dX1_meanOfNumbers_39 : decode cX1_meanOfNumbers 39 = .ok (.goto (-33), 3) := by decide +kernel
theorem dX1_meanOfNumbers_42 : decode cX1_meanOfNumbers 42 = .ok (.iload_n 1, 1) := by decide +kernel
theorem dX1_meanOfNumbers_43 : decode cX1_meanOfNumbers 43 = .ok (.ifCond .ne 7, 3) := by decide +kernel
theorem dX1_meanOfNumbers_46 : decode cX1_meanOfNumbers 46 = .ok (.dconst 0, 1) := by decide +kernel
theorem dX1_meanOfNumbers_47 : decode cX1_meanOfNumbers 47 = .ok (.goto 8, 3) := by decide +kernel
theorem dX1_meanOfNumbers_50 : decode cX1_meanOfNumbers 50 = .ok (.iload_n 2, 1) := by decide +kernel
theorem dX1_meanOfNumbers_51 : decode cX1_meanOfNumbers 51 = .ok (.i2d, 1) := by decide +kernel
theorem dX1_meanOfNumbers_52 : decode cX1_meanOfNumbers 52 = .ok (.iload_n 1, 1) := by decide +kernel
theorem dX1_meanOfNumbers_53 : decode cX1_meanOfNumbers 53 = .ok (.i2d, 1) := by decide +kernel
theorem dX1_meanOfNumbers_54 : decode cX1_meanOfNumbers 54 = .ok (.ddiv, 1) := by decide +kernel
theorem dX1_meanOfNumbers_55 : decode cX1_meanOfNumbers 55 = .ok (.dreturn, 1) := by decide +kernel
set_option maxRecDepth 20000 in
theorem ggX1_tally_X1_cells : GoodIn wsX1_tally wsX1_cells := goodIn_r _ [8, 1, 9, 98, 99, 100, 101, 102] (by decide +kernel) (by decide +kernel)
set_option maxRecDepth 20000 in
theorem gX1_tally_X1_cells : GoodIn wsX1_tally (wsV RX1 54 RX1 yX1_cells wsX1_cells) := goodIn_app (goodIn_of _ (by decide +kernel)) ggX1_tally_X1_cells
set_option maxRecDepth 20000 in
theorem ggX1_tally_X1_openCells : GoodIn wsX1_tally wsX1_openCells := goodIn_r _ [13, 4, 5, 6, 7, 8, 1, 9, 14, 15, 16, 17, 18, 19, 20, 21, 98, 99, 100, 101, 102] (by decide +kernel) (by decide +kernel)
set_option maxRecDepth 20000 in
theorem gX1_tally_X1_openCells : GoodIn wsX1_tally (wsV RX1 86 RX1 yX1_openCells wsX1_openCells) := goodIn_app (goodIn_of _ (by decide +kernel)) ggX1_tally_X1_openCells
set_option maxRecDepth 20000 in
theorem ggX1_tally_X1_stonesLaid : GoodIn wsX1_tally wsX1_stonesLaid := goodIn_r _ [25, 18, 4, 5, 6, 7, 8, 1, 9, 19, 20, 21, 98, 99, 100, 101, 102] (by decide +kernel) (by decide +kernel)
set_option maxRecDepth 20000 in
theorem gX1_tally_X1_stonesLaid : GoodIn wsX1_tally (wsV RX1 89 RX1 yX1_stonesLaid wsX1_stonesLaid) := goodIn_app (goodIn_of _ (by decide +kernel)) ggX1_tally_X1_stonesLaid
set_option maxRecDepth 20000 in
theorem ggX1_tally_X1_corridorsOf : GoodIn wsX1_tally wsX1_corridorsOf := goodIn_r _ [29, 4, 5, 6, 7, 8, 1, 9, 30, 31, 32, 33, 34, 35, 19, 20, 21, 98, 99, 100, 101, 102, 103, 104, 105, 106, 107, 108, 109, 110, 111] (by decide +kernel) (by decide +kernel)
set_option maxRecDepth 20000 in
theorem gX1_tally_X1_corridorsOf : GoodIn wsX1_tally (wsV RX1 77 RX1 yX1_corridorsOf wsX1_corridorsOf) := goodIn_app (goodIn_of _ (by decide +kernel)) ggX1_tally_X1_corridorsOf
set_option maxRecDepth 20000 in
theorem ggX1_tally_X1_summedOf : GoodIn wsX1_tally wsX1_summedOf := goodIn_r _ [39, 4, 5, 6, 7, 8, 1, 9, 30, 31, 32, 33, 34, 35, 19, 20, 21, 40, 41, 42, 43, 44, 98, 99, 100, 101, 102, 103, 104, 105, 106, 107, 108, 109, 110, 111] (by decide +kernel) (by decide +kernel)
set_option maxRecDepth 20000 in
theorem gX1_tally_X1_summedOf : GoodIn wsX1_tally (wsV RX1 92 RX1 yX1_summedOf wsX1_summedOf) := goodIn_app (goodIn_of _ (by decide +kernel)) ggX1_tally_X1_summedOf
set_option maxRecDepth 20000 in
theorem ggX1_tally_X1_wellOf : GoodIn wsX1_tally wsX1_wellOf := goodIn_r _ [48, 4, 5, 6, 7, 8, 1, 9, 30, 31, 32, 33, 34, 35, 19, 20, 21, 49, 50, 51, 52, 44, 53, 54, 55, 56, 57, 58, 59, 60, 61, 62, 63, 64, 65, 66, 67, 68, 69, 70, 71, 72, 73, 74, 75, 76, 77, 78, 79, 80, 98, 99, 100, 101, 102, 103, 104, 105, 106, 107, 108, 109, 110, 111, 112] (by decide +kernel) (by decide +kernel)
set_option maxRecDepth 20000 in
theorem gX1_tally_X1_wellOf : GoodIn wsX1_tally (wsV RX1 73 RX1 yX1_wellOf wsX1_wellOf) := goodIn_app (goodIn_of _ (by decide +kernel)) ggX1_tally_X1_wellOf
set_option maxRecDepth 20000 in
theorem ggX1_tally_X1_holesWithChoices : GoodIn wsX1_tally wsX1_holesWithChoices := goodIn_r _ [84, 4, 5, 6, 7, 8, 1, 9, 85, 86, 87, 88, 18, 19, 20, 21, 89, 90, 91, 92, 2, 3, 93, 94, 95, 33, 96, 35, 56, 44, 53, 54, 57, 55, 58, 59, 60, 61, 62, 63, 64, 65, 66, 67, 68, 69, 70, 71, 72, 73, 74, 75, 76, 77, 78, 79, 80, 97, 98, 99, 100, 101, 102, 103, 104, 105, 106, 107, 108, 109, 110, 111, 112] (by decide +kernel) (by decide +kernel)
set_option maxRecDepth 20000 in
theorem gX1_tally_X1_holesWithChoices : GoodIn wsX1_tally (wsV RX1 95 RX1 yX1_holesWithChoices wsX1_holesWithChoices) := goodIn_app (goodIn_of _ (by decide +kernel)) ggX1_tally_X1_holesWithChoices
theorem dX1_tally_0 : decode cX1_tally 0 = .ok (.iload_n 1, 1) := by decide +kernel
theorem dX1_tally_1 : decode cX1_tally 1 = .ok (.tableswitch 127 0 7 #[47, 52, 57, 62, 67, 85, 103, 121], 47) := by decide +kernel
theorem dX1_tally_48 : decode cX1_tally 48 = .ok (.aload_n 0, 1) := by decide +kernel
theorem dX1_tally_49 : decode cX1_tally 49 = .ok (.invokevirtual 54, 3) := by decide +kernel
theorem dX1_tally_52 : decode cX1_tally 52 = .ok (.ireturn, 1) := by decide +kernel
theorem dX1_tally_53 : decode cX1_tally 53 = .ok (.aload_n 0, 1) := by decide +kernel
theorem dX1_tally_54 : decode cX1_tally 54 = .ok (.getfield 34, 3) := by decide +kernel
theorem dX1_tally_57 : decode cX1_tally 57 = .ok (.ireturn, 1) := by decide +kernel
theorem dX1_tally_58 : decode cX1_tally 58 = .ok (.aload_n 0, 1) := by decide +kernel
theorem dX1_tally_59 : decode cX1_tally 59 = .ok (.invokevirtual 86, 3) := by decide +kernel
theorem dX1_tally_62 : decode cX1_tally 62 = .ok (.ireturn, 1) := by decide +kernel
theorem dX1_tally_63 : decode cX1_tally 63 = .ok (.aload_n 0, 1) := by decide +kernel
theorem dX1_tally_64 : decode cX1_tally 64 = .ok (.invokevirtual 89, 3) := by decide +kernel
theorem dX1_tally_67 : decode cX1_tally 67 = .ok (.ireturn, 1) := by decide +kernel
theorem dX1_tally_68 : decode cX1_tally 68 = .ok (.aload_n 0, 1) := by decide +kernel
theorem dX1_tally_69 : decode cX1_tally 69 = .ok (.aload_n 0, 1) := by decide +kernel
theorem dX1_tally_70 : decode cX1_tally 70 = .ok (.getfield 23, 3) := by decide +kernel
theorem dX1_tally_73 : decode cX1_tally 73 = .ok (.invokevirtual 77, 3) := by decide +kernel
theorem dX1_tally_76 : decode cX1_tally 76 = .ok (.aload_n 0, 1) := by decide +kernel
theorem dX1_tally_77 : decode cX1_tally 77 = .ok (.aload_n 0, 1) := by decide +kernel
theorem dX1_tally_78 : decode cX1_tally 78 = .ok (.getfield 27, 3) := by decide +kernel
theorem dX1_tally_81 : decode cX1_tally 81 = .ok (.invokevirtual 77, 3) := by decide +kernel
theorem dX1_tally_84 : decode cX1_tally 84 = .ok (.iadd, 1) := by decide +kernel
theorem dX1_tally_85 : decode cX1_tally 85 = .ok (.ireturn, 1) := by decide +kernel
theorem dX1_tally_86 : decode cX1_tally 86 = .ok (.aload_n 0, 1) := by decide +kernel
theorem dX1_tally_87 : decode cX1_tally 87 = .ok (.aload_n 0, 1) := by decide +kernel
theorem dX1_tally_88 : decode cX1_tally 88 = .ok (.getfield 23, 3) := by decide +kernel
theorem dX1_tally_91 : decode cX1_tally 91 = .ok (.invokevirtual 92, 3) := by decide +kernel
theorem dX1_tally_94 : decode cX1_tally 94 = .ok (.aload_n 0, 1) := by decide +kernel
theorem dX1_tally_95 : decode cX1_tally 95 = .ok (.aload_n 0, 1) := by decide +kernel
theorem dX1_tally_96 : decode cX1_tally 96 = .ok (.getfield 27, 3) := by decide +kernel
theorem dX1_tally_99 : decode cX1_tally 99 = .ok (.invokevirtual 92, 3) := by decide +kernel
theorem dX1_tally_102 : decode cX1_tally 102 = .ok (.iadd, 1) := by decide +kernel
theorem dX1_tally_103 : decode cX1_tally 103 = .ok (.ireturn, 1) := by decide +kernel
theorem dX1_tally_104 : decode cX1_tally 104 = .ok (.aload_n 0, 1) := by decide +kernel
theorem dX1_tally_105 : decode cX1_tally 105 = .ok (.aload_n 0, 1) := by decide +kernel
theorem dX1_tally_106 : decode cX1_tally 106 = .ok (.getfield 23, 3) := by decide +kernel
theorem dX1_tally_109 : decode cX1_tally 109 = .ok (.invokevirtual 73, 3) := by decide +kernel
theorem dX1_tally_112 : decode cX1_tally 112 = .ok (.aload_n 0, 1) := by decide +kernel
theorem dX1_tally_113 : decode cX1_tally 113 = .ok (.aload_n 0, 1) := by decide +kernel
theorem dX1_tally_114 : decode cX1_tally 114 = .ok (.getfield 27, 3) := by decide +kernel
theorem dX1_tally_117 : decode cX1_tally 117 = .ok (.invokevirtual 73, 3) := by decide +kernel
theorem dX1_tally_120 : decode cX1_tally 120 = .ok (.iadd, 1) := by decide +kernel
theorem dX1_tally_121 : decode cX1_tally 121 = .ok (.ireturn, 1) := by decide +kernel
theorem dX1_tally_122 : decode cX1_tally 122 = .ok (.aload_n 0, 1) := by decide +kernel
theorem dX1_tally_123 : decode cX1_tally 123 = .ok (.iconst 1, 1) := by decide +kernel
theorem dX1_tally_124 : decode cX1_tally 124 = .ok (.invokevirtual 95, 3) := by decide +kernel
theorem dX1_tally_127 : decode cX1_tally 127 = .ok (.ireturn, 1) := by decide +kernel
theorem dX1_tally_128 : decode cX1_tally 128 = .ok (.aload_n 0, 1) := by decide +kernel
theorem dX1_tally_129 : decode cX1_tally 129 = .ok (.iconst 0, 1) := by decide +kernel
theorem dX1_tally_130 : decode cX1_tally 130 = .ok (.invokevirtual 95, 3) := by decide +kernel
theorem dX1_tally_133 : decode cX1_tally 133 = .ok (.ireturn, 1) := by decide +kernel
set_option maxRecDepth 20000 in
theorem ggX1_openCells_X1_cells : GoodIn wsX1_openCells wsX1_cells := goodIn_r _ [5, 6, 7, 16, 17, 18, 19, 20] (by decide +kernel) (by decide +kernel)
set_option maxRecDepth 20000 in
theorem gX1_openCells_X1_cells : GoodIn wsX1_openCells (wsV RX1 54 RX1 yX1_cells wsX1_cells) := goodIn_app (goodIn_of _ (by decide +kernel)) ggX1_openCells_X1_cells
set_option maxRecDepth 20000 in
theorem ggX1_openCells_X1_isPillar : GoodIn wsX1_openCells wsX1_isPillar := goodIn_r _ [11, 12, 13, 14, 15, 16, 17, 18, 19, 20] (by decide +kernel) (by decide +kernel)
set_option maxRecDepth 20000 in
theorem gX1_openCells_X1_isPillar : GoodIn wsX1_openCells (wsV RX1 62 RX1 yX1_isPillar wsX1_isPillar) := goodIn_app (goodIn_of _ (by decide +kernel)) ggX1_openCells_X1_isPillar
theorem dX1_openCells_0 : decode cX1_openCells 0 = .ok (.iconst 0, 1) := by decide +kernel
theorem dX1_openCells_1 : decode cX1_openCells 1 = .ok (.istore_n 1, 1) := by decide +kernel
theorem dX1_openCells_2 : decode cX1_openCells 2 = .ok (.iconst 0, 1) := by decide +kernel
theorem dX1_openCells_3 : decode cX1_openCells 3 = .ok (.istore_n 2, 1) := by decide +kernel
theorem dX1_openCells_4 : decode cX1_openCells 4 = .ok (.iload_n 2, 1) := by decide +kernel
theorem dX1_openCells_5 : decode cX1_openCells 5 = .ok (.aload_n 0, 1) := by decide +kernel
theorem dX1_openCells_6 : decode cX1_openCells 6 = .ok (.invokevirtual 54, 3) := by decide +kernel
theorem dX1_openCells_9 : decode cX1_openCells 9 = .ok (.if_icmp .ge 20, 3) := by decide +kernel
theorem dX1_openCells_12 : decode cX1_openCells 12 = .ok (.aload_n 0, 1) := by decide +kernel
theorem dX1_openCells_13 : decode cX1_openCells 13 = .ok (.iload_n 2, 1) := by decide +kernel
theorem dX1_openCells_14 : decode cX1_openCells 14 = .ok (.invokevirtual 62, 3) := by decide +kernel
theorem dX1_openCells_17 : decode cX1_openCells 17 = .ok (.ifCond .ne 6, 3) := by decide +kernel
theorem dX1_openCells_20 : decode cX1_openCells 20 = .ok (.iinc 1 1, 3) := by decide +kernel
theorem dX1_openCells_23 : decode cX1_openCells 23 = .ok (.iinc 2 1, 3) := by decide +kernel
theorem dX1_openCells_26 : decode cX1_openCells 26 = .ok (.goto (-22), 3) := by decide +kernel
theorem dX1_openCells_29 : decode cX1_openCells 29 = .ok (.iload_n 1, 1) := by decide +kernel
theorem dX1_openCells_30 : decode cX1_openCells 30 = .ok (.ireturn, 1) := by decide +kernel
set_option maxRecDepth 20000 in
theorem ggX1_stonesLaid_X1_cells : GoodIn wsX1_stonesLaid wsX1_cells := goodIn_r _ [6, 7, 8, 12, 13, 14, 15, 16] (by decide +kernel) (by decide +kernel)
set_option maxRecDepth 20000 in
theorem gX1_stonesLaid_X1_cells : GoodIn wsX1_stonesLaid (wsV RX1 54 RX1 yX1_cells wsX1_cells) := goodIn_app (goodIn_of _ (by decide +kernel)) ggX1_stonesLaid_X1_cells
set_option maxRecDepth 20000 in
theorem ggX1_stonesLaid_X4_read : GoodIn wsX1_stonesLaid wsX4_read := goodIn_r _ [11] (by decide +kernel) (by decide +kernel)
set_option maxRecDepth 20000 in
theorem gX1_stonesLaid_X4_read_n58 : GoodIn wsX1_stonesLaid (wsX4_read) := ggX1_stonesLaid_X4_read
theorem dX1_stonesLaid_0 : decode cX1_stonesLaid 0 = .ok (.iconst 0, 1) := by decide +kernel
theorem dX1_stonesLaid_1 : decode cX1_stonesLaid 1 = .ok (.istore_n 1, 1) := by decide +kernel
theorem dX1_stonesLaid_2 : decode cX1_stonesLaid 2 = .ok (.iconst 0, 1) := by decide +kernel
theorem dX1_stonesLaid_3 : decode cX1_stonesLaid 3 = .ok (.istore_n 2, 1) := by decide +kernel
theorem dX1_stonesLaid_4 : decode cX1_stonesLaid 4 = .ok (.iload_n 2, 1) := by decide +kernel
theorem dX1_stonesLaid_5 : decode cX1_stonesLaid 5 = .ok (.aload_n 0, 1) := by decide +kernel
theorem dX1_stonesLaid_6 : decode cX1_stonesLaid 6 = .ok (.invokevirtual 54, 3) := by decide +kernel
theorem dX1_stonesLaid_9 : decode cX1_stonesLaid 9 = .ok (.if_icmp .ge 23, 3) := by decide +kernel
theorem dX1_stonesLaid_12 : decode cX1_stonesLaid 12 = .ok (.aload_n 0, 1) := by decide +kernel
theorem dX1_stonesLaid_13 : decode cX1_stonesLaid 13 = .ok (.getfield 12, 3) := by decide +kernel
theorem dX1_stonesLaid_16 : decode cX1_stonesLaid 16 = .ok (.iload_n 2, 1) := by decide +kernel
theorem dX1_stonesLaid_17 : decode cX1_stonesLaid 17 = .ok (.invokestatic 58, 3) := by decide +kernel
theorem dX1_stonesLaid_20 : decode cX1_stonesLaid 20 = .ok (.ifCond .le 6, 3) := by decide +kernel
theorem dX1_stonesLaid_23 : decode cX1_stonesLaid 23 = .ok (.iinc 1 1, 3) := by decide +kernel
theorem dX1_stonesLaid_26 : decode cX1_stonesLaid 26 = .ok (.iinc 2 1, 3) := by decide +kernel
theorem dX1_stonesLaid_29 : decode cX1_stonesLaid 29 = .ok (.goto (-25), 3) := by decide +kernel
theorem dX1_stonesLaid_32 : decode cX1_stonesLaid 32 = .ok (.iload_n 1, 1) := by decide +kernel
theorem dX1_stonesLaid_33 : decode cX1_stonesLaid 33 = .ok (.ireturn, 1) := by decide +kernel
set_option maxRecDepth 20000 in
theorem ggX1_corridorsOf_X1_cells : GoodIn wsX1_corridorsOf wsX1_cells := goodIn_r _ [5, 6, 7, 17, 18, 19, 20, 21] (by decide +kernel) (by decide +kernel)
set_option maxRecDepth 20000 in
theorem gX1_corridorsOf_X1_cells : GoodIn wsX1_corridorsOf (wsV RX1 54 RX1 yX1_cells wsX1_cells) := goodIn_app (goodIn_of _ (by decide +kernel)) ggX1_corridorsOf_X1_cells
set_option maxRecDepth 20000 in
theorem ggX1_corridorsOf_X0_beginsAt : GoodIn wsX1_corridorsOf wsX0_beginsAt := goodIn_r _ [12, 13, 14, 15, 16, 22, 23, 24, 25, 26, 27, 28, 29, 30] (by decide +kernel) (by decide +kernel)
set_option maxRecDepth 20000 in
theorem gX1_corridorsOf_X0_beginsAt : GoodIn wsX1_corridorsOf (wsV RX1 98 RX0 yX0_beginsAt wsX0_beginsAt) := goodIn_app (goodIn_of _ (by decide +kernel)) ggX1_corridorsOf_X0_beginsAt
theorem dX1_corridorsOf_0 : decode cX1_corridorsOf 0 = .ok (.iconst 0, 1) := by decide +kernel
theorem dX1_corridorsOf_1 : decode cX1_corridorsOf 1 = .ok (.istore_n 2, 1) := by decide +kernel
theorem dX1_corridorsOf_2 : decode cX1_corridorsOf 2 = .ok (.iconst 0, 1) := by decide +kernel
theorem dX1_corridorsOf_3 : decode cX1_corridorsOf 3 = .ok (.istore_n 3, 1) := by decide +kernel
theorem dX1_corridorsOf_4 : decode cX1_corridorsOf 4 = .ok (.iload_n 3, 1) := by decide +kernel
theorem dX1_corridorsOf_5 : decode cX1_corridorsOf 5 = .ok (.aload_n 0, 1) := by decide +kernel
theorem dX1_corridorsOf_6 : decode cX1_corridorsOf 6 = .ok (.invokevirtual 54, 3) := by decide +kernel
theorem dX1_corridorsOf_9 : decode cX1_corridorsOf 9 = .ok (.if_icmp .ge 20, 3) := by decide +kernel
theorem dX1_corridorsOf_12 : decode cX1_corridorsOf 12 = .ok (.aload_n 1, 1) := by decide +kernel
theorem dX1_corridorsOf_13 : decode cX1_corridorsOf 13 = .ok (.iload_n 3, 1) := by decide +kernel
theorem dX1_corridorsOf_14 : decode cX1_corridorsOf 14 = .ok (.invokevirtual 98, 3) := by decide +kernel
theorem dX1_corridorsOf_17 : decode cX1_corridorsOf 17 = .ok (.ifCond .eq 6, 3) := by decide +kernel
theorem dX1_corridorsOf_20 : decode cX1_corridorsOf 20 = .ok (.iinc 2 1, 3) := by decide +kernel
theorem dX1_corridorsOf_23 : decode cX1_corridorsOf 23 = .ok (.iinc 3 1, 3) := by decide +kernel
theorem dX1_corridorsOf_26 : decode cX1_corridorsOf 26 = .ok (.goto (-22), 3) := by decide +kernel
theorem dX1_corridorsOf_29 : decode cX1_corridorsOf 29 = .ok (.iload_n 2, 1) := by decide +kernel
theorem dX1_corridorsOf_30 : decode cX1_corridorsOf 30 = .ok (.ireturn, 1) := by decide +kernel
set_option maxRecDepth 20000 in
theorem ggX1_summedOf_X1_cells : GoodIn wsX1_summedOf wsX1_cells := goodIn_r _ [5, 6, 7, 22, 23, 24, 25, 26] (by decide +kernel) (by decide +kernel)
set_option maxRecDepth 20000 in
theorem gX1_summedOf_X1_cells : GoodIn wsX1_summedOf (wsV RX1 54 RX1 yX1_cells wsX1_cells) := goodIn_app (goodIn_of _ (by decide +kernel)) ggX1_summedOf_X1_cells
set_option maxRecDepth 20000 in
theorem ggX1_summedOf_X0_beginsAt : GoodIn wsX1_summedOf wsX0_beginsAt := goodIn_r _ [12, 13, 14, 15, 16, 27, 28, 29, 30, 31, 32, 33, 34, 35] (by decide +kernel) (by decide +kernel)
set_option maxRecDepth 20000 in
theorem gX1_summedOf_X0_beginsAt : GoodIn wsX1_summedOf (wsV RX1 98 RX0 yX0_beginsAt wsX0_beginsAt) := goodIn_app (goodIn_of _ (by decide +kernel)) ggX1_summedOf_X0_beginsAt
set_option maxRecDepth 20000 in
theorem ggX1_summedOf_X0_toldAt : GoodIn wsX1_summedOf wsX0_toldAt := goodIn_r _ [20, 21, 14, 15, 16, 27, 28, 29, 30, 31, 32, 33, 34, 35] (by decide +kernel) (by decide +kernel)
set_option maxRecDepth 20000 in
theorem gX1_summedOf_X0_toldAt : GoodIn wsX1_summedOf (wsV RX1 101 RX0 yX0_toldAt wsX0_toldAt) := goodIn_app (goodIn_of _ (by decide +kernel)) ggX1_summedOf_X0_toldAt
theorem dX1_summedOf_0 : decode cX1_summedOf 0 = .ok (.iconst 0, 1) := by decide +kernel
theorem dX1_summedOf_1 : decode cX1_summedOf 1 = .ok (.istore_n 2, 1) := by decide +kernel
theorem dX1_summedOf_2 : decode cX1_summedOf 2 = .ok (.iconst 0, 1) := by decide +kernel
theorem dX1_summedOf_3 : decode cX1_summedOf 3 = .ok (.istore_n 3, 1) := by decide +kernel
theorem dX1_summedOf_4 : decode cX1_summedOf 4 = .ok (.iload_n 3, 1) := by decide +kernel
theorem dX1_summedOf_5 : decode cX1_summedOf 5 = .ok (.aload_n 0, 1) := by decide +kernel
theorem dX1_summedOf_6 : decode cX1_summedOf 6 = .ok (.invokevirtual 54, 3) := by decide +kernel
theorem dX1_summedOf_9 : decode cX1_summedOf 9 = .ok (.if_icmp .ge 28, 3) := by decide +kernel
theorem dX1_summedOf_12 : decode cX1_summedOf 12 = .ok (.aload_n 1, 1) := by decide +kernel
theorem dX1_summedOf_13 : decode cX1_summedOf 13 = .ok (.iload_n 3, 1) := by decide +kernel
theorem dX1_summedOf_14 : decode cX1_summedOf 14 = .ok (.invokevirtual 98, 3) := by decide +kernel
theorem dX1_summedOf_17 : decode cX1_summedOf 17 = .ok (.ifCond .eq 14, 3) := by decide +kernel
theorem dX1_summedOf_20 : decode cX1_summedOf 20 = .ok (.aload_n 1, 1) := by decide +kernel
theorem dX1_summedOf_21 : decode cX1_summedOf 21 = .ok (.iload_n 3, 1) := by decide +kernel
theorem dX1_summedOf_22 : decode cX1_summedOf 22 = .ok (.invokevirtual 101, 3) := by decide +kernel
theorem dX1_summedOf_25 : decode cX1_summedOf 25 = .ok (.ifCond .le 6, 3) := by decide +kernel
theorem dX1_summedOf_28 : decode cX1_summedOf 28 = .ok (.iinc 2 1, 3) := by decide +kernel
theorem dX1_summedOf_31 : decode cX1_summedOf 31 = .ok (.iinc 3 1, 3) := by decide +kernel
theorem dX1_summedOf_34 : decode cX1_summedOf 34 = .ok (.goto (-30), 3) := by decide +kernel
theorem dX1_summedOf_37 : decode cX1_summedOf 37 = .ok (.iload_n 2, 1) := by decide +kernel
theorem dX1_summedOf_38 : decode cX1_summedOf 38 = .ok (.ireturn, 1) := by decide +kernel
set_option maxRecDepth 20000 in
theorem ggX1_wellOf_X1_cells : GoodIn wsX1_wellOf wsX1_cells := goodIn_r _ [5, 6, 7, 50, 51, 52, 53, 54] (by decide +kernel) (by decide +kernel)
set_option maxRecDepth 20000 in
theorem gX1_wellOf_X1_cells : GoodIn wsX1_wellOf (wsV RX1 54 RX1 yX1_cells wsX1_cells) := goodIn_app (goodIn_of _ (by decide +kernel)) ggX1_wellOf_X1_cells
set_option maxRecDepth 20000 in
theorem ggX1_wellOf_X0_beginsAt : GoodIn wsX1_wellOf wsX0_beginsAt := goodIn_r _ [12, 13, 14, 15, 16, 55, 56, 57, 58, 59, 60, 61, 62, 63] (by decide +kernel) (by decide +kernel)
set_option maxRecDepth 20000 in
theorem gX1_wellOf_X0_beginsAt : GoodIn wsX1_wellOf (wsV RX1 98 RX0 yX0_beginsAt wsX0_beginsAt) := goodIn_app (goodIn_of _ (by decide +kernel)) ggX1_wellOf_X0_beginsAt
set_option maxRecDepth 20000 in
theorem ggX1_wellOf_X0_isWellFrom : GoodIn wsX1_wellOf wsX0_isWellFrom := goodIn_r _ [20, 21, 22, 23, 24, 25, 26, 27, 28, 29, 11, 30, 31, 32, 14, 15, 16, 33, 34, 35, 36, 37, 38, 39, 40, 41, 42, 43, 44, 45, 46, 47, 48, 49, 55, 56, 57, 58, 59, 60, 61, 62, 63, 64] (by decide +kernel) (by decide +kernel)
set_option maxRecDepth 20000 in
theorem gX1_wellOf_X0_isWellFrom : GoodIn wsX1_wellOf (wsV RX1 104 RX0 yX0_isWellFrom wsX0_isWellFrom) := goodIn_app (goodIn_of _ (by decide +kernel)) ggX1_wellOf_X0_isWellFrom
theorem dX1_wellOf_0 : decode cX1_wellOf 0 = .ok (.iconst 0, 1) := by decide +kernel
theorem dX1_wellOf_1 : decode cX1_wellOf 1 = .ok (.istore_n 2, 1) := by decide +kernel
theorem dX1_wellOf_2 : decode cX1_wellOf 2 = .ok (.iconst 0, 1) := by decide +kernel
theorem dX1_wellOf_3 : decode cX1_wellOf 3 = .ok (.istore_n 3, 1) := by decide +kernel
theorem dX1_wellOf_4 : decode cX1_wellOf 4 = .ok (.iload_n 3, 1) := by decide +kernel
theorem dX1_wellOf_5 : decode cX1_wellOf 5 = .ok (.aload_n 0, 1) := by decide +kernel
theorem dX1_wellOf_6 : decode cX1_wellOf 6 = .ok (.invokevirtual 54, 3) := by decide +kernel
theorem dX1_wellOf_9 : decode cX1_wellOf 9 = .ok (.if_icmp .ge 28, 3) := by decide +kernel
theorem dX1_wellOf_12 : decode cX1_wellOf 12 = .ok (.aload_n 1, 1) := by decide +kernel
theorem dX1_wellOf_13 : decode cX1_wellOf 13 = .ok (.iload_n 3, 1) := by decide +kernel
theorem dX1_wellOf_14 : decode cX1_wellOf 14 = .ok (.invokevirtual 98, 3) := by decide +kernel
theorem dX1_wellOf_17 : decode cX1_wellOf 17 = .ok (.ifCond .eq 14, 3) := by decide +kernel
theorem dX1_wellOf_20 : decode cX1_wellOf 20 = .ok (.aload_n 1, 1) := by decide +kernel
theorem dX1_wellOf_21 : decode cX1_wellOf 21 = .ok (.iload_n 3, 1) := by decide +kernel
theorem dX1_wellOf_22 : decode cX1_wellOf 22 = .ok (.invokevirtual 104, 3) := by decide +kernel
theorem dX1_wellOf_25 : decode cX1_wellOf 25 = .ok (.ifCond .eq 6, 3) := by decide +kernel
theorem dX1_wellOf_28 : decode cX1_wellOf 28 = .ok (.iinc 2 1, 3) := by decide +kernel
theorem dX1_wellOf_31 : decode cX1_wellOf 31 = .ok (.iinc 3 1, 3) := by decide +kernel
theorem dX1_wellOf_34 : decode cX1_wellOf 34 = .ok (.goto (-30), 3) := by decide +kernel
theorem dX1_wellOf_37 : decode cX1_wellOf 37 = .ok (.iload_n 2, 1) := by decide +kernel
theorem dX1_wellOf_38 : decode cX1_wellOf 38 = .ok (.ireturn, 1) := by decide +kernel
set_option maxRecDepth 20000 in
theorem ggX1_holesWithChoices_X1_cells : GoodIn wsX1_holesWithChoices wsX1_cells := goodIn_r _ [5, 6, 7, 58, 59, 60, 61, 62] (by decide +kernel) (by decide +kernel)
set_option maxRecDepth 20000 in
theorem gX1_holesWithChoices_X1_cells : GoodIn wsX1_holesWithChoices (wsV RX1 54 RX1 yX1_cells wsX1_cells) := goodIn_app (goodIn_of _ (by decide +kernel)) ggX1_holesWithChoices_X1_cells
set_option maxRecDepth 20000 in
theorem ggX1_holesWithChoices_X1_isHole : GoodIn wsX1_holesWithChoices wsX1_isHole := goodIn_r _ [11, 12, 13, 14, 15, 58, 59, 60, 61, 62] (by decide +kernel) (by decide +kernel)
set_option maxRecDepth 20000 in
theorem gX1_holesWithChoices_X1_isHole : GoodIn wsX1_holesWithChoices (wsV RX1 66 RX1 yX1_isHole wsX1_isHole) := goodIn_app (goodIn_of _ (by decide +kernel)) ggX1_holesWithChoices_X1_isHole
set_option maxRecDepth 20000 in
theorem ggX1_holesWithChoices_X1_numbersFor : GoodIn wsX1_holesWithChoices wsX1_numbersFor := goodIn_r _ [19, 20, 21, 8, 9, 10, 4, 11, 12, 13, 14, 15, 22, 23, 24, 25, 26, 27, 28, 29, 30, 31, 32, 33, 34, 35, 36, 37, 38, 39, 40, 41, 42, 43, 44, 45, 46, 47, 48, 49, 50, 51, 52, 53, 54, 55, 56, 58, 59, 60, 61, 62, 63, 64, 65, 66, 67, 68, 69, 70, 71, 72] (by decide +kernel) (by decide +kernel)
set_option maxRecDepth 20000 in
theorem gX1_holesWithChoices_X1_numbersFor : GoodIn wsX1_holesWithChoices (wsV RX1 80 RX1 yX1_numbersFor wsX1_numbersFor) := goodIn_app (goodIn_of _ (by decide +kernel)) ggX1_holesWithChoices_X1_numbersFor
set_option maxRecDepth 20000 in
theorem ggX1_holesWithChoices_J6_bitCount_0f7a4 : GoodIn wsX1_holesWithChoices wsJ6_bitCount_0f7a4 := goodIn_r _ [47, 48, 49, 50] (by decide +kernel) (by decide +kernel)
set_option maxRecDepth 20000 in
theorem gX1_holesWithChoices_J6_bitCount_0f7a4 : GoodIn wsX1_holesWithChoices (va_wsS RX1 81 yJ6_bitCount_0f7a4 wsJ6_bitCount_0f7a4) := goodIn_app (goodIn_of _ (by decide +kernel)) ggX1_holesWithChoices_J6_bitCount_0f7a4
theorem dX1_holesWithChoices_0 : decode cX1_holesWithChoices 0 = .ok (.iconst 0, 1) := by decide +kernel
theorem dX1_holesWithChoices_1 : decode cX1_holesWithChoices 1 = .ok (.istore_n 2, 1) := by decide +kernel
theorem dX1_holesWithChoices_2 : decode cX1_holesWithChoices 2 = .ok (.iconst 0, 1) := by decide +kernel
theorem dX1_holesWithChoices_3 : decode cX1_holesWithChoices 3 = .ok (.istore_n 3, 1) := by decide +kernel
theorem dX1_holesWithChoices_4 : decode cX1_holesWithChoices 4 = .ok (.iload_n 3, 1) := by decide +kernel
theorem dX1_holesWithChoices_5 : decode cX1_holesWithChoices 5 = .ok (.aload_n 0, 1) := by decide +kernel
theorem dX1_holesWithChoices_6 : decode cX1_holesWithChoices 6 = .ok (.invokevirtual 54, 3) := by decide +kernel
theorem dX1_holesWithChoices_9 : decode cX1_holesWithChoices 9 = .ok (.if_icmp .ge 32, 3) := by decide +kernel
theorem dX1_holesWithChoices_12 : decode cX1_holesWithChoices 12 = .ok (.aload_n 0, 1) := by decide +kernel
theorem dX1_holesWithChoices_13 : decode cX1_holesWithChoices 13 = .ok (.iload_n 3, 1) := by decide +kernel
theorem dX1_holesWithChoices_14 : decode cX1_holesWithChoices 14 = .ok (.invokevirtual 66, 3) := by decide +kernel
theorem dX1_holesWithChoices_17 : decode cX1_holesWithChoices 17 = .ok (.ifCond .eq 18, 3) := by decide +kernel
theorem dX1_holesWithChoices_20 : decode cX1_holesWithChoices 20 = .ok (.aload_n 0, 1) := by decide +kernel
theorem dX1_holesWithChoices_21 : decode cX1_holesWithChoices 21 = .ok (.iload_n 3, 1) := by decide +kernel
theorem dX1_holesWithChoices_22 : decode cX1_holesWithChoices 22 = .ok (.invokevirtual 80, 3) := by decide +kernel
theorem dX1_holesWithChoices_25 : decode cX1_holesWithChoices 25 = .ok (.invokestatic 81, 3) := by decide +kernel
theorem dX1_holesWithChoices_28 : decode cX1_holesWithChoices 28 = .ok (.iload_n 1, 1) := by decide +kernel
theorem dX1_holesWithChoices_29 : decode cX1_holesWithChoices 29 = .ok (.if_icmp .ne 6, 3) := by decide +kernel
theorem dX1_holesWithChoices_32 : decode cX1_holesWithChoices 32 = .ok (.iinc 2 1, 3) := by decide +kernel
theorem dX1_holesWithChoices_35 : decode cX1_holesWithChoices 35 = .ok (.iinc 3 1, 3) := by decide +kernel
theorem dX1_holesWithChoices_38 : decode cX1_holesWithChoices 38 = .ok (.goto (-34), 3) := by decide +kernel
theorem dX1_holesWithChoices_41 : decode cX1_holesWithChoices 41 = .ok (.iload_n 2, 1) := by decide +kernel
theorem dX1_holesWithChoices_42 : decode cX1_holesWithChoices 42 = .ok (.ireturn, 1) := by decide +kernel
set_option maxRecDepth 20000 in
theorem ggX2_init_X2_keepSums : GoodIn wsX2_init wsX2_keepSums := goodIn_r _ [10, 5, 19] (by decide +kernel) (by decide +kernel)
set_option maxRecDepth 20000 in
theorem gX2_init_X2_keepSums : GoodIn wsX2_init (wsV RX2 15 RX2 yX2_keepSums wsX2_keepSums) := goodIn_app (goodIn_of _ (by decide +kernel)) ggX2_init_X2_keepSums
set_option maxRecDepth 20000 in
theorem ggX2_init_X2_addHighest : GoodIn wsX2_init wsX2_addHighest := goodIn_r _ [14, 15, 16, 17, 9, 18, 5, 6, 7, 8, 10, 19] (by decide +kernel) (by decide +kernel)
set_option maxRecDepth 20000 in
theorem gX2_init_X2_addHighest : GoodIn wsX2_init (wsV RX2 19 RX2 yX2_addHighest wsX2_addHighest) := goodIn_app (goodIn_of _ (by decide +kernel)) ggX2_init_X2_addHighest
end
section
theorem dX2_init_0 : decode cX2_init 0 = .ok (.aload_n 0, 1) := by decide +kernel
theorem dX2_init_1 : decode cX2_init 1 = .ok (.invokespecial 3, 3) := by decide +kernel
theorem dX2_init_4 : decode cX2_init 4 = .ok (.aload_n 0, 1) := by decide +kernel
theorem dX2_init_5 : decode cX2_init 5 = .ok (.sipush 3584, 3) := by decide +kernel
theorem dX2_init_8 : decode cX2_init 8 = .ok (.newarray .long, 2) := by decide +kernel
theorem dX2_init_10 : decode cX2_init 10 = .ok (.putfield 11, 3) := by decide +kernel
theorem dX2_init_13 : decode cX2_init 13 = .ok (.aload_n 0, 1) := by decide +kernel
theorem dX2_init_14 : decode cX2_init 14 = .ok (.iconst 0, 1) := by decide +kernel
theorem dX2_init_15 : decode cX2_init 15 = .ok (.iconst 0, 1) := by decide +kernel
theorem dX2_init_16 : decode cX2_init 16 = .ok (.lconst 1, 1) := by decide +kernel
theorem dX2_init_17 : decode cX2_init 17 = .ok (.invokevirtual 15, 3) := by decide +kernel
theorem dX2_init_20 : decode cX2_init 20 = .ok (.iconst 1, 1) := by decide +kernel
theorem dX2_init_21 : decode cX2_init 21 = .ok (.istore_n 1, 1) := by decide +kernel
theorem dX2_init_22 : decode cX2_init 22 = .ok (.iload_n 1, 1) := by decide +kernel
theorem dX2_init_23 : decode cX2_init 23 = .ok (.bipush 9, 2) := by decide +kernel
theorem dX2_init_25 : decode cX2_init 25 = .ok (.if_icmp .gt 30, 3) := by decide +kernel
theorem dX2_init_28 : decode cX2_init 28 = .ok (.iconst 0, 1) := by decide +kernel
theorem dX2_init_29 : decode cX2_init 29 = .ok (.istore_n 2, 1) := by decide +kernel
theorem dX2_init_30 : decode cX2_init 30 = .ok (.iload_n 2, 1) := by decide +kernel
theorem dX2_init_31 : decode cX2_init 31 = .ok (.iconst 1, 1) := by decide +kernel
theorem dX2_init_32 : decode cX2_init 32 = .ok (.iload_n 1, 1) := by decide +kernel
theorem dX2_init_33 : decode cX2_init 33 = .ok (.ishl, 1) := by decide +kernel
theorem dX2_init_34 : decode cX2_init 34 = .ok (.if_icmp .ge 15, 3) := by decide +kernel
theorem dX2_init_37 : decode cX2_init 37 = .ok (.aload_n 0, 1) := by decide +kernel
theorem dX2_init_38 : decode cX2_init 38 = .ok (.iload_n 2, 1) := by decide +kernel
theorem dX2_init_39 : decode cX2_init 39 = .ok (.iload_n 1, 1) := by decide +kernel
theorem dX2_init_40 : decode cX2_init 40 = .ok (.invokevirtual 19, 3) := by decide +kernel
theorem dX2_init_43 : decode cX2_init 43 = .ok (.iinc 2 2, 3) := by decide +kernel
theorem dX2_init_46 : decode cX2_init 46 = .ok (.goto (-16), 3) := by decide +kernel
theorem dX2_init_49 : decode cX2_init 49 = .ok (.iinc 1 1, 3) := by decide +kernel
theorem dX2_init_52 : decode cX2_init 52 = .ok (.goto (-30), 3) := by decide +kernel
theorem dX2_init_55 : decode cX2_init 55 = .ok (.return_, 1) := by decide +kernel
theorem dX2_make_0 : decode cX2_make 0 = .ok (.iload_n 2, 1) := by decide +kernel
theorem dX2_make_1 : decode cX2_make 1 = .ok (.ifCond .lt 19, 3) := by decide +kernel
theorem dX2_make_4 : decode cX2_make 4 = .ok (.iload_n 2, 1) := by decide +kernel
theorem dX2_make_5 : decode cX2_make 5 = .ok (.bipush 7, 2) := by decide +kernel
theorem dX2_make_7 : decode cX2_make 7 = .ok (.if_icmp .ge 13, 3) := by decide +kernel
theorem dX2_make_10 : decode cX2_make 10 = .ok (.iload_n 3, 1) := by decide +kernel
theorem dX2_make_11 : decode cX2_make 11 = .ok (.ifCond .lt 9, 3) := by decide +kernel
theorem dX2_make_14 : decode cX2_make 14 = .ok (.iload_n 3, 1) := by decide +kernel
theorem dX2_make_15 : decode cX2_make 15 = .ok (.bipush 45, 2) := by decide +kernel
theorem dX2_make_17 : decode cX2_make 17 = .ok (.if_icmp .le 5, 3) := by decide +kernel
theorem dX2_make_20 : decode cX2_make 20 = .ok (.iconst 0, 1) := by decide +kernel
theorem dX2_make_21 : decode cX2_make 21 = .ok (.ireturn, 1) := by decide +kernel
theorem dX2_make_22 : decode cX2_make 22 = .ok (.iload_n 1, 1) := by decide +kernel
theorem dX2_make_23 : decode cX2_make 23 = .ok (.iconst 1, 1) := by decide +kernel
theorem dX2_make_24 : decode cX2_make 24 = .ok (.ishr, 1) := by decide +kernel
theorem dX2_make_25 : decode cX2_make 25 = .ok (.bipush 7, 2) := by decide +kernel
theorem dX2_make_27 : decode cX2_make 27 = .ok (.imul, 1) := by decide +kernel
theorem dX2_make_28 : decode cX2_make 28 = .ok (.iload_n 2, 1) := by decide +kernel
theorem dX2_make_29 : decode cX2_make 29 = .ok (.iadd, 1) := by decide +kernel
theorem dX2_make_30 : decode cX2_make 30 = .ok (.istore 4, 2) := by decide +kernel
theorem dX2_make_32 : decode cX2_make 32 = .ok (.iload 4, 2) := by decide +kernel
theorem dX2_make_34 : decode cX2_make 34 = .ok (.ifCond .lt 33, 3) := by decide +kernel
theorem dX2_make_37 : decode cX2_make 37 = .ok (.iload 4, 2) := by decide +kernel
theorem dX2_make_39 : decode cX2_make 39 = .ok (.aload_n 0, 1) := by decide +kernel
theorem dX2_make_40 : decode cX2_make 40 = .ok (.getfield 11, 3) := by decide +kernel
theorem dX2_make_43 : decode cX2_make 43 = .ok (.arraylength, 1) := by decide +kernel
theorem dX2_make_44 : decode cX2_make 44 = .ok (.if_icmp .ge 23, 3) := by decide +kernel
theorem dX2_make_47 : decode cX2_make 47 = .ok (.aload_n 0, 1) := by decide +kernel
theorem dX2_make_48 : decode cX2_make 48 = .ok (.getfield 11, 3) := by decide +kernel
theorem dX2_make_51 : decode cX2_make 51 = .ok (.iload 4, 2) := by decide +kernel
theorem dX2_make_53 : decode cX2_make 53 = .ok (.laload, 1) := by decide +kernel
theorem dX2_make_54 : decode cX2_make 54 = .ok (.iload_n 3, 1) := by decide +kernel
theorem dX2_make_55 : decode cX2_make 55 = .ok (.lshr, 1) := by decide +kernel
theorem dX2_make_56 : decode cX2_make 56 = .ok (.lconst 1, 1) := by decide +kernel
theorem dX2_make_57 : decode cX2_make 57 = .ok (.land, 1) := by decide +kernel
theorem dX2_make_58 : decode cX2_make 58 = .ok (.lconst 0, 1) := by decide +kernel
theorem dX2_make_59 : decode cX2_make 59 = .ok (.lcmp, 1) := by decide +kernel
theorem dX2_make_60 : decode cX2_make 60 = .ok (.ifCond .eq 7, 3) := by decide +kernel
theorem dX2_make_63 : decode cX2_make 63 = .ok (.iconst 1, 1) := by decide +kernel
theorem dX2_make_64 : decode cX2_make 64 = .ok (.goto 4, 3) := by decide +kernel
theorem dX2_make_67 : decode cX2_make 67 = .ok (.iconst 0, 1) := by decide +kernel
theorem dX2_make_68 : decode cX2_make 68 = .ok (.ireturn, 1) := by decide +kernel
set_option maxRecDepth 20000 in
theorem ggX2_addHighest_X2_sumsOf : GoodIn wsX2_addHighest wsX2_sumsOf := goodIn_r _ [5, 6, 11] (by decide +kernel) (by decide +kernel)
set_option maxRecDepth 20000 in
theorem gX2_addHighest_X2_sumsOf : GoodIn wsX2_addHighest (wsV RX2 23 RX2 yX2_sumsOf wsX2_sumsOf) := goodIn_app (goodIn_of _ (by decide +kernel)) ggX2_addHighest_X2_sumsOf
set_option maxRecDepth 20000 in
theorem ggX2_addHighest_X2_keepSums : GoodIn wsX2_addHighest wsX2_keepSums := goodIn_r _ [10, 6, 11] (by decide +kernel) (by decide +kernel)
set_option maxRecDepth 20000 in
theorem gX2_addHighest_X2_keepSums : GoodIn wsX2_addHighest (wsV RX2 15 RX2 yX2_keepSums wsX2_keepSums) := goodIn_app (goodIn_of _ (by decide +kernel)) ggX2_addHighest_X2_keepSums
theorem dX2_addHighest_0 : decode cX2_addHighest 0 = .ok (.iload_n 1, 1) := by decide +kernel
theorem dX2_addHighest_1 : decode cX2_addHighest 1 = .ok (.iconst 1, 1) := by decide +kernel
theorem dX2_addHighest_2 : decode cX2_addHighest 2 = .ok (.iload_n 2, 1) := by decide +kernel
theorem dX2_addHighest_3 : decode cX2_addHighest 3 = .ok (.ishl, 1) := by decide +kernel
theorem dX2_addHighest_4 : decode cX2_addHighest 4 = .ok (.ior, 1) := by decide +kernel
theorem dX2_addHighest_5 : decode cX2_addHighest 5 = .ok (.istore_n 3, 1) := by decide +kernel
theorem dX2_addHighest_6 : decode cX2_addHighest 6 = .ok (.iconst 0, 1) := by decide +kernel
theorem dX2_addHighest_7 : decode cX2_addHighest 7 = .ok (.istore 4, 2) := by decide +kernel
theorem dX2_addHighest_9 : decode cX2_addHighest 9 = .ok (.iload 4, 2) := by decide +kernel
theorem dX2_addHighest_11 : decode cX2_addHighest 11 = .ok (.bipush 7, 2) := by decide +kernel
theorem dX2_addHighest_13 : decode cX2_addHighest 13 = .ok (.if_icmp .ge 52, 3) := by decide +kernel
theorem dX2_addHighest_16 : decode cX2_addHighest 16 = .ok (.aload_n 0, 1) := by decide +kernel
theorem dX2_addHighest_17 : decode cX2_addHighest 17 = .ok (.iload_n 1, 1) := by decide +kernel
theorem dX2_addHighest_18 : decode cX2_addHighest 18 = .ok (.iload 4, 2) := by decide +kernel
theorem dX2_addHighest_20 : decode cX2_addHighest 20 = .ok (.invokevirtual 23, 3) := by decide +kernel
theorem dX2_addHighest_23 : decode cX2_addHighest 23 = .ok (.lstore 5, 2) := by decide +kernel
theorem dX2_addHighest_25 : decode cX2_addHighest 25 = .ok (.iload 4, 2) := by decide +kernel
theorem dX2_addHighest_27 : decode cX2_addHighest 27 = .ok (.ifCond .ne 7, 3) := by decide +kernel
theorem dX2_addHighest_30 : decode cX2_addHighest 30 = .ok (.lconst 0, 1) := by decide +kernel
theorem dX2_addHighest_31 : decode cX2_addHighest 31 = .ok (.goto 14, 3) := by decide +kernel
theorem dX2_addHighest_34 : decode cX2_addHighest 34 = .ok (.aload_n 0, 1) := by decide +kernel
theorem dX2_addHighest_35 : decode cX2_addHighest 35 = .ok (.iload_n 1, 1) := by decide +kernel
theorem dX2_addHighest_36 : decode cX2_addHighest 36 = .ok (.iload 4, 2) := by decide +kernel
theorem dX2_addHighest_38 : decode cX2_addHighest 38 = .ok (.iconst 1, 1) := by decide +kernel
theorem dX2_addHighest_39 : decode cX2_addHighest 39 = .ok (.isub, 1) := by decide +kernel
theorem dX2_addHighest_40 : decode cX2_addHighest 40 = .ok (.invokevirtual 23, 3) := by decide +kernel
theorem dX2_addHighest_43 : decode cX2_addHighest 43 = .ok (.iload_n 2, 1) := by decide +kernel
theorem dX2_addHighest_44 : decode cX2_addHighest 44 = .ok (.lshl, 1) := by decide +kernel
theorem dX2_addHighest_45 : decode cX2_addHighest 45 = .ok (.lstore 7, 2) := by decide +kernel
theorem dX2_addHighest_47 : decode cX2_addHighest 47 = .ok (.aload_n 0, 1) := by decide +kernel
theorem dX2_addHighest_48 : decode cX2_addHighest 48 = .ok (.iload_n 3, 1) := by decide +kernel
theorem dX2_addHighest_49 : decode cX2_addHighest 49 = .ok (.iload 4, 2) := by decide +kernel
theorem dX2_addHighest_51 : decode cX2_addHighest 51 = .ok (.lload 5, 2) := by decide +kernel
theorem dX2_addHighest_53 : decode cX2_addHighest 53 = .ok (.lload 7, 2) := by decide +kernel
theorem dX2_addHighest_55 : decode cX2_addHighest 55 = .ok (.lor, 1) := by decide +kernel
theorem dX2_addHighest_56 : decode cX2_addHighest 56 = .ok (.invokevirtual 15, 3) := by decide +kernel
theorem dX2_addHighest_59 : decode cX2_addHighest 59 = .ok (.iinc 4 1, 3) := by decide +kernel
theorem dX2_addHighest_62 : decode cX2_addHighest 62 = .ok (.goto (-53), 3) := by decide +kernel
theorem dX2_addHighest_65 : decode cX2_addHighest 65 = .ok (.return_, 1) := by decide +kernel
theorem dX2_sumsOf_0 : decode cX2_sumsOf 0 = .ok (.iload_n 1, 1) := by decide +kernel
theorem dX2_sumsOf_1 : decode cX2_sumsOf 1 = .ok (.iconst 1, 1) := by decide +kernel
theorem dX2_sumsOf_2 : decode cX2_sumsOf 2 = .ok (.ishr, 1) := by decide +kernel
theorem dX2_sumsOf_3 : decode cX2_sumsOf 3 = .ok (.bipush 7, 2) := by decide +kernel
theorem dX2_sumsOf_5 : decode cX2_sumsOf 5 = .ok (.imul, 1) := by decide +kernel
theorem dX2_sumsOf_6 : decode cX2_sumsOf 6 = .ok (.iload_n 2, 1) := by decide +kernel
theorem dX2_sumsOf_7 : decode cX2_sumsOf 7 = .ok (.iadd, 1) := by decide +kernel
theorem dX2_sumsOf_8 : decode cX2_sumsOf 8 = .ok (.istore_n 3, 1) := by decide +kernel
theorem dX2_sumsOf_9 : decode cX2_sumsOf 9 = .ok (.iload_n 3, 1) := by decide +kernel
theorem dX2_sumsOf_10 : decode cX2_sumsOf 10 = .ok (.ifCond .lt 21, 3) := by decide +kernel
theorem dX2_sumsOf_13 : decode cX2_sumsOf 13 = .ok (.iload_n 3, 1) := by decide +kernel
theorem dX2_sumsOf_14 : decode cX2_sumsOf 14 = .ok (.aload_n 0, 1) := by decide +kernel
theorem dX2_sumsOf_15 : decode cX2_sumsOf 15 = .ok (.getfield 11, 3) := by decide +kernel
theorem dX2_sumsOf_18 : decode cX2_sumsOf 18 = .ok (.arraylength, 1) := by decide +kernel
theorem dX2_sumsOf_19 : decode cX2_sumsOf 19 = .ok (.if_icmp .ge 12, 3) := by decide +kernel
theorem dX2_sumsOf_22 : decode cX2_sumsOf 22 = .ok (.aload_n 0, 1) := by decide +kernel
theorem dX2_sumsOf_23 : decode cX2_sumsOf 23 = .ok (.getfield 11, 3) := by decide +kernel
theorem dX2_sumsOf_26 : decode cX2_sumsOf 26 = .ok (.iload_n 3, 1) := by decide +kernel
theorem dX2_sumsOf_27 : decode cX2_sumsOf 27 = .ok (.laload, 1) := by decide +kernel
theorem dX2_sumsOf_28 : decode cX2_sumsOf 28 = .ok (.goto 4, 3) := by decide +kernel
theorem dX2_sumsOf_31 : decode cX2_sumsOf 31 = .ok (.lconst 0, 1) := by decide +kernel
theorem dX2_sumsOf_32 : decode cX2_sumsOf 32 = .ok (.lreturn, 1) := by decide +kernel
theorem dX2_keepSums_0 : decode cX2_keepSums 0 = .ok (.iload_n 1, 1) := by decide +kernel
theorem dX2_keepSums_1 : decode cX2_keepSums 1 = .ok (.iconst 1, 1) := by decide +kernel
theorem dX2_keepSums_2 : decode cX2_keepSums 2 = .ok (.ishr, 1) := by decide +kernel
theorem dX2_keepSums_3 : decode cX2_keepSums 3 = .ok (.bipush 7, 2) := by decide +kernel
theorem dX2_keepSums_5 : decode cX2_keepSums 5 = .ok (.imul, 1) := by decide +kernel
theorem dX2_keepSums_6 : decode cX2_keepSums 6 = .ok (.iload_n 2, 1) := by decide +kernel
theorem dX2_keepSums_7 : decode cX2_keepSums 7 = .ok (.iadd, 1) := by decide +kernel
theorem dX2_keepSums_8 : decode cX2_keepSums 8 = .ok (.istore 5, 2) := by decide +kernel
theorem dX2_keepSums_10 : decode cX2_keepSums 10 = .ok (.iload 5, 2) := by decide +kernel
theorem dX2_keepSums_12 : decode cX2_keepSums 12 = .ok (.ifCond .lt 21, 3) := by decide +kernel
theorem dX2_keepSums_15 : decode cX2_keepSums 15 = .ok (.iload 5, 2) := by decide +kernel
theorem dX2_keepSums_17 : decode cX2_keepSums 17 = .ok (.aload_n 0, 1) := by decide +kernel
theorem dX2_keepSums_18 : decode cX2_keepSums 18 = .ok (.getfield 11, 3) := by decide +kernel
theorem dX2_keepSums_21 : decode cX2_keepSums 21 = .ok (.arraylength, 1) := by decide +kernel
theorem dX2_keepSums_22 : decode cX2_keepSums 22 = .ok (.if_icmp .ge 11, 3) := by decide +kernel
theorem dX2_keepSums_25 : decode cX2_keepSums 25 = .ok (.aload_n 0, 1) := by decide +kernel
theorem dX2_keepSums_26 : decode cX2_keepSums 26 = .ok (.getfield 11, 3) := by decide +kernel
theorem dX2_keepSums_29 : decode cX2_keepSums 29 = .ok (.iload 5, 2) := by decide +kernel
theorem dX2_keepSums_31 : decode cX2_keepSums 31 = .ok (.lload_n 3, 1) := by decide +kernel
theorem dX2_keepSums_32 : decode cX2_keepSums 32 = .ok (.lastore, 1) := by decide +kernel
theorem dX2_keepSums_33 : decode cX2_keepSums 33 = .ok (.return_, 1) := by decide +kernel
end
section
theorem dX3_init_0 : decode cX3_init 0 = .ok (.aload_n 0, 1) := by decide +kernel
theorem dX3_init_1 : decode cX3_init 1 = .ok (.invokespecial 3, 3) := by decide +kernel
theorem dX3_init_4 : decode cX3_init 4 = .ok (.aload_n 0, 1) := by decide +kernel
theorem dX3_init_5 : decode cX3_init 5 = .ok (.aload_n 1, 1) := by decide +kernel
theorem dX3_init_6 : decode cX3_init 6 = .ok (.putfield 9, 3) := by decide +kernel
theorem dX3_init_9 : decode cX3_init 9 = .ok (.aload_n 0, 1) := by decide +kernel
theorem dX3_init_10 : decode cX3_init 10 = .ok (.bipush 36, 2) := by decide +kernel
theorem dX3_init_12 : decode cX3_init 12 = .ok (.newarray .int, 2) := by decide +kernel
theorem dX3_init_14 : decode cX3_init 14 = .ok (.putfield 15, 3) := by decide +kernel
theorem dX3_init_17 : decode cX3_init 17 = .ok (.aload_n 0, 1) := by decide +kernel
theorem dX3_init_18 : decode cX3_init 18 = .ok (.bipush 36, 2) := by decide +kernel
theorem dX3_init_20 : decode cX3_init 20 = .ok (.newarray .int, 2) := by decide +kernel
theorem dX3_init_22 : decode cX3_init 22 = .ok (.putfield 19, 3) := by decide +kernel
theorem dX3_init_25 : decode cX3_init 25 = .ok (.aload_n 0, 1) := by decide +kernel
theorem dX3_init_26 : decode cX3_init 26 = .ok (.iconst 0, 1) := by decide +kernel
theorem dX3_init_27 : decode cX3_init 27 = .ok (.putfield 22, 3) := by decide +kernel
theorem dX3_init_30 : decode cX3_init 30 = .ok (.aload_n 0, 1) := by decide +kernel
theorem dX3_init_31 : decode cX3_init 31 = .ok (.iconst 0, 1) := by decide +kernel
theorem dX3_init_32 : decode cX3_init 32 = .ok (.putfield 26, 3) := by decide +kernel
theorem dX3_init_35 : decode cX3_init 35 = .ok (.aload_n 0, 1) := by decide +kernel
theorem dX3_init_36 : decode cX3_init 36 = .ok (.iconst 0, 1) := by decide +kernel
theorem dX3_init_37 : decode cX3_init 37 = .ok (.putfield 29, 3) := by decide +kernel
theorem dX3_init_40 : decode cX3_init 40 = .ok (.aload_n 0, 1) := by decide +kernel
theorem dX3_init_41 : decode cX3_init 41 = .ok (.iconst 0, 1) := by decide +kernel
theorem dX3_init_42 : decode cX3_init 42 = .ok (.putfield 32, 3) := by decide +kernel
theorem dX3_init_45 : decode cX3_init 45 = .ok (.return_, 1) := by decide +kernel
theorem dX3_forget_0 : decode cX3_forget 0 = .ok (.aload_n 0, 1) := by decide +kernel
theorem dX3_forget_1 : decode cX3_forget 1 = .ok (.iconst 0, 1) := by decide +kernel
theorem dX3_forget_2 : decode cX3_forget 2 = .ok (.putfield 32, 3) := by decide +kernel
theorem dX3_forget_5 : decode cX3_forget 5 = .ok (.return_, 1) := by decide +kernel
set_option maxRecDepth 20000 in
theorem ggX3_refresh_X1_isAllWell : GoodIn wsX3_refresh wsX1_isAllWell := goodIn_r _ [10, 11, 12, 13, 14, 15, 9, 16, 17, 18, 19, 20, 21, 22, 23, 24, 25, 26, 27, 28, 29, 30, 31, 32, 33, 34, 35, 36, 37, 38, 39, 40, 41, 42, 43, 44, 45, 46, 47, 48, 49, 50, 51, 52, 53, 54, 55, 56, 57, 58, 59, 60, 61, 62, 63, 64, 65, 66, 67, 68, 125, 126, 127, 128, 129, 130, 131, 132, 133, 134, 135, 136, 137, 138, 139] (by decide +kernel) (by decide +kernel)
set_option maxRecDepth 20000 in
theorem gX3_refresh_X1_isAllWell : GoodIn wsX3_refresh (wsV RX3 36 RX1 yX1_isAllWell wsX1_isAllWell) := goodIn_app (goodIn_of _ (by decide +kernel)) ggX3_refresh_X1_isAllWell
set_option maxRecDepth 20000 in
theorem ggX3_refresh_X3_collectHoles : GoodIn wsX3_refresh wsX3_collectHoles := goodIn_r _ [73, 5, 74, 2, 75, 18, 19, 9, 20, 21, 22, 76, 77, 78, 79, 80, 29, 30, 31, 81, 82, 118, 119, 120, 121, 122, 123, 124, 125, 126, 127, 128, 129] (by decide +kernel) (by decide +kernel)
set_option maxRecDepth 20000 in
theorem gX3_refresh_X3_collectHoles : GoodIn wsX3_refresh (wsV RX3 42 RX3 yX3_collectHoles wsX3_collectHoles) := goodIn_app (goodIn_of _ (by decide +kernel)) ggX3_refresh_X3_collectHoles
set_option maxRecDepth 20000 in
theorem ggX3_refresh_X3_fillFrom : GoodIn wsX3_refresh wsX3_fillFrom := goodIn_r _ [85, 2, 5, 74, 3, 86, 87, 88, 72, 89, 4, 90, 91, 92, 93, 9, 94, 80, 29, 30, 31, 81, 82, 95, 96, 97, 98, 11, 12, 99, 77, 78, 79, 100, 101, 102, 26, 103, 28, 40, 36, 37, 38, 41, 39, 42, 43, 44, 45, 46, 47, 48, 49, 50, 51, 52, 53, 54, 55, 56, 57, 58, 59, 60, 61, 62, 63, 64, 104, 105, 106, 107, 108, 109, 110, 111, 112, 113, 114, 115, 116, 117, 83, 84, 118, 119, 120, 121, 122, 123, 124, 125, 126, 127, 128, 129, 130, 131, 132, 133, 134, 135, 136, 137, 138, 139] (by decide +kernel) (by decide +kernel)
set_option maxRecDepth 20000 in
theorem gX3_refresh_X3_fillFrom : GoodIn wsX3_refresh (va_wsS RX3 45 yX3_fillFrom wsX3_fillFrom) := goodIn_app (goodIn_of _ (by decide +kernel)) ggX3_refresh_X3_fillFrom
theorem dX3_refresh_0 : decode cX3_refresh 0 = .ok (.aload_n 0, 1) := by decide +kernel
theorem dX3_refresh_1 : decode cX3_refresh 1 = .ok (.getfield 32, 3) := by decide +kernel
theorem dX3_refresh_4 : decode cX3_refresh 4 = .ok (.ifCond .eq 4, 3) := by decide +kernel
theorem dX3_refresh_7 : decode cX3_refresh 7 = .ok (.return_, 1) := by decide +kernel
theorem dX3_refresh_8 : decode cX3_refresh 8 = .ok (.aload_n 0, 1) := by decide +kernel
theorem dX3_refresh_9 : decode cX3_refresh 9 = .ok (.iconst 1, 1) := by decide +kernel
theorem dX3_refresh_10 : decode cX3_refresh 10 = .ok (.putfield 32, 3) := by decide +kernel
theorem dX3_refresh_13 : decode cX3_refresh 13 = .ok (.aload_n 0, 1) := by decide +kernel
theorem dX3_refresh_14 : decode cX3_refresh 14 = .ok (.iconst 0, 1) := by decide +kernel
theorem dX3_refresh_15 : decode cX3_refresh 15 = .ok (.putfield 22, 3) := by decide +kernel
theorem dX3_refresh_18 : decode cX3_refresh 18 = .ok (.aload_n 0, 1) := by decide +kernel
theorem dX3_refresh_19 : decode cX3_refresh 19 = .ok (.iconst 0, 1) := by decide +kernel
theorem dX3_refresh_20 : decode cX3_refresh 20 = .ok (.putfield 26, 3) := by decide +kernel
theorem dX3_refresh_23 : decode cX3_refresh 23 = .ok (.aload_n 0, 1) := by decide +kernel
theorem dX3_refresh_24 : decode cX3_refresh 24 = .ok (.iconst 0, 1) := by decide +kernel
theorem dX3_refresh_25 : decode cX3_refresh 25 = .ok (.putfield 29, 3) := by decide +kernel
theorem dX3_refresh_28 : decode cX3_refresh 28 = .ok (.aload_n 0, 1) := by decide +kernel
theorem dX3_refresh_29 : decode cX3_refresh 29 = .ok (.getfield 9, 3) := by decide +kernel
theorem dX3_refresh_32 : decode cX3_refresh 32 = .ok (.invokevirtual 36, 3) := by decide +kernel
theorem dX3_refresh_35 : decode cX3_refresh 35 = .ok (.ifCond .eq 12, 3) := by decide +kernel
theorem dX3_refresh_38 : decode cX3_refresh 38 = .ok (.aload_n 0, 1) := by decide +kernel
theorem dX3_refresh_39 : decode cX3_refresh 39 = .ok (.invokevirtual 42, 3) := by decide +kernel
theorem dX3_refresh_42 : decode cX3_refresh 42 = .ok (.aload_n 0, 1) := by decide +kernel
theorem dX3_refresh_43 : decode cX3_refresh 43 = .ok (.iconst 0, 1) := by decide +kernel
theorem dX3_refresh_44 : decode cX3_refresh 44 = .ok (.invokestatic 45, 3) := by decide +kernel
theorem dX3_refresh_47 : decode cX3_refresh 47 = .ok (.return_, 1) := by decide +kernel
set_option maxRecDepth 20000 in
theorem ggX3_told_X3_isUnknown : GoodIn wsX3_told wsX3_isUnknown := goodIn_r _ [6, 7, 8, 9, 10, 11, 12, 13, 14] (by decide +kernel) (by decide +kernel)
set_option maxRecDepth 20000 in
theorem gX3_told_X3_isUnknown : GoodIn wsX3_told (wsV RX3 49 RX3 yX3_isUnknown wsX3_isUnknown) := goodIn_app (goodIn_of _ (by decide +kernel)) ggX3_told_X3_isUnknown
theorem dX3_told_0 : decode cX3_told 0 = .ok (.aload_n 0, 1) := by decide +kernel
theorem dX3_told_1 : decode cX3_told 1 = .ok (.invokevirtual 49, 3) := by decide +kernel
theorem dX3_told_4 : decode cX3_told 4 = .ok (.ifCond .eq 7, 3) := by decide +kernel
theorem dX3_told_7 : decode cX3_told 7 = .ok (.iconst (-1), 1) := by decide +kernel
theorem dX3_told_8 : decode cX3_told 8 = .ok (.goto 7, 3) := by decide +kernel
theorem dX3_told_11 : decode cX3_told 11 = .ok (.aload_n 0, 1) := by decide +kernel
theorem dX3_told_12 : decode cX3_told 12 = .ok (.getfield 29, 3) := by decide +kernel
theorem dX3_told_15 : decode cX3_told 15 = .ok (.ireturn, 1) := by decide +kernel
theorem dX3_tried_0 : decode cX3_tried 0 = .ok (.aload_n 0, 1) := by decide +kernel
theorem dX3_tried_1 : decode cX3_tried 1 = .ok (.getfield 26, 3) := by decide +kernel
theorem dX3_tried_4 : decode cX3_tried 4 = .ok (.ireturn, 1) := by decide +kernel
set_option maxRecDepth 20000 in
theorem ggX3_firstFilling_X3_isUnknown : GoodIn wsX3_firstFilling wsX3_isUnknown := goodIn_r _ [7, 8, 12, 13, 14, 15, 16, 17, 18] (by decide +kernel) (by decide +kernel)
set_option maxRecDepth 20000 in
theorem gX3_firstFilling_X3_isUnknown : GoodIn wsX3_firstFilling (wsV RX3 49 RX3 yX3_isUnknown wsX3_isUnknown) := goodIn_app (goodIn_of _ (by decide +kernel)) ggX3_firstFilling_X3_isUnknown
set_option maxRecDepth 20000 in
theorem ggX3_firstFilling_X4_read : GoodIn wsX3_firstFilling wsX4_read := goodIn_r _ [11] (by decide +kernel) (by decide +kernel)
set_option maxRecDepth 20000 in
theorem gX3_firstFilling_X4_read_n52 : GoodIn wsX3_firstFilling (wsX4_read) := ggX3_firstFilling_X4_read
theorem dX3_firstFilling_0 : decode cX3_firstFilling 0 = .ok (.aload_n 0, 1) := by decide +kernel
theorem dX3_firstFilling_1 : decode cX3_firstFilling 1 = .ok (.invokevirtual 49, 3) := by decide +kernel
theorem dX3_firstFilling_4 : decode cX3_firstFilling 4 = .ok (.ifCond .ne 10, 3) := by decide +kernel
theorem dX3_firstFilling_7 : decode cX3_firstFilling 7 = .ok (.aload_n 0, 1) := by decide +kernel
theorem dX3_firstFilling_8 : decode cX3_firstFilling 8 = .ok (.getfield 29, 3) := by decide +kernel
theorem dX3_firstFilling_11 : decode cX3_firstFilling 11 = .ok (.ifCond .ne 7, 3) := by decide +kernel
theorem dX3_firstFilling_14 : decode cX3_firstFilling 14 = .ok (.iconst 0, 1) := by decide +kernel
theorem dX3_firstFilling_15 : decode cX3_firstFilling 15 = .ok (.goto 11, 3) := by decide +kernel
theorem dX3_firstFilling_18 : decode cX3_firstFilling 18 = .ok (.aload_n 0, 1) := by decide +kernel
theorem dX3_firstFilling_19 : decode cX3_firstFilling 19 = .ok (.getfield 19, 3) := by decide +kernel
theorem dX3_firstFilling_22 : decode cX3_firstFilling 22 = .ok (.iload_n 1, 1) := by decide +kernel
theorem dX3_firstFilling_23 : decode cX3_firstFilling 23 = .ok (.invokestatic 52, 3) := by decide +kernel
theorem dX3_firstFilling_26 : decode cX3_firstFilling 26 = .ok (.ireturn, 1) := by decide +kernel
theorem dX3_isUnknown_0 : decode cX3_isUnknown 0 = .ok (.aload_n 0, 1) := by decide +kernel
theorem dX3_isUnknown_1 : decode cX3_isUnknown 1 = .ok (.getfield 26, 3) := by decide +kernel
theorem dX3_isUnknown_4 : decode cX3_isUnknown 4 = .ok (.sipush 4000, 3) := by decide +kernel
theorem dX3_isUnknown_7 : decode cX3_isUnknown 7 = .ok (.if_icmp .le 7, 3) := by decide +kernel
theorem dX3_isUnknown_10 : decode cX3_isUnknown 10 = .ok (.iconst 1, 1) := by decide +kernel
theorem dX3_isUnknown_11 : decode cX3_isUnknown 11 = .ok (.goto 4, 3) := by decide +kernel
theorem dX3_isUnknown_14 : decode cX3_isUnknown 14 = .ok (.iconst 0, 1) := by decide +kernel
theorem dX3_isUnknown_15 : decode cX3_isUnknown 15 = .ok (.ireturn, 1) := by decide +kernel
set_option maxRecDepth 20000 in
theorem ggX3_isOver_X3_isUnknown : GoodIn wsX3_isOver wsX3_isUnknown := goodIn_r _ [6, 7, 8, 9, 10, 11, 12, 13, 14] (by decide +kernel) (by decide +kernel)
set_option maxRecDepth 20000 in
theorem gX3_isOver_X3_isUnknown : GoodIn wsX3_isOver (wsV RX3 49 RX3 yX3_isUnknown wsX3_isUnknown) := goodIn_app (goodIn_of _ (by decide +kernel)) ggX3_isOver_X3_isUnknown
theorem dX3_isOver_0 : decode cX3_isOver 0 = .ok (.aload_n 0, 1) := by decide +kernel
theorem dX3_isOver_1 : decode cX3_isOver 1 = .ok (.invokevirtual 49, 3) := by decide +kernel
theorem dX3_isOver_4 : decode cX3_isOver 4 = .ok (.ifCond .ne 12, 3) := by decide +kernel
theorem dX3_isOver_7 : decode cX3_isOver 7 = .ok (.aload_n 0, 1) := by decide +kernel
theorem dX3_isOver_8 : decode cX3_isOver 8 = .ok (.getfield 29, 3) := by decide +kernel
theorem dX3_isOver_11 : decode cX3_isOver 11 = .ok (.bipush 100, 2) := by decide +kernel
theorem dX3_isOver_13 : decode cX3_isOver 13 = .ok (.if_icmp .lt 7, 3) := by decide +kernel
theorem dX3_isOver_16 : decode cX3_isOver 16 = .ok (.iconst 1, 1) := by decide +kernel
theorem dX3_isOver_17 : decode cX3_isOver 17 = .ok (.goto 4, 3) := by decide +kernel
theorem dX3_isOver_20 : decode cX3_isOver 20 = .ok (.iconst 0, 1) := by decide +kernel
theorem dX3_isOver_21 : decode cX3_isOver 21 = .ok (.ireturn, 1) := by decide +kernel
set_option maxRecDepth 20000 in
theorem ggX3_collectHoles_X1_cells : GoodIn wsX3_collectHoles wsX1_cells := goodIn_r _ [8, 9, 10, 28, 29, 30, 31, 32] (by decide +kernel) (by decide +kernel)
set_option maxRecDepth 20000 in
theorem gX3_collectHoles_X1_cells : GoodIn wsX3_collectHoles (wsV RX3 56 RX1 yX1_cells wsX1_cells) := goodIn_app (goodIn_of _ (by decide +kernel)) ggX3_collectHoles_X1_cells
set_option maxRecDepth 20000 in
theorem ggX3_collectHoles_X1_isHole : GoodIn wsX3_collectHoles wsX1_isHole := goodIn_r _ [14, 15, 16, 17, 18, 28, 29, 30, 31, 32] (by decide +kernel) (by decide +kernel)
set_option maxRecDepth 20000 in
theorem gX3_collectHoles_X1_isHole : GoodIn wsX3_collectHoles (wsV RX3 60 RX1 yX1_isHole wsX1_isHole) := goodIn_app (goodIn_of _ (by decide +kernel)) ggX3_collectHoles_X1_isHole
set_option maxRecDepth 20000 in
theorem ggX3_collectHoles_X4_write : GoodIn wsX3_collectHoles wsX4_write := goodIn_r _ [20] (by decide +kernel) (by decide +kernel)
set_option maxRecDepth 20000 in
theorem gX3_collectHoles_X4_write_n64 : GoodIn wsX3_collectHoles (wsX4_write) := ggX3_collectHoles_X4_write
theorem dX3_collectHoles_0 : decode cX3_collectHoles 0 = .ok (.iconst 0, 1) := by decide +kernel
theorem dX3_collectHoles_1 : decode cX3_collectHoles 1 = .ok (.istore_n 1, 1) := by decide +kernel
theorem dX3_collectHoles_2 : decode cX3_collectHoles 2 = .ok (.iload_n 1, 1) := by decide +kernel
theorem dX3_collectHoles_3 : decode cX3_collectHoles 3 = .ok (.aload_n 0, 1) := by decide +kernel
theorem dX3_collectHoles_4 : decode cX3_collectHoles 4 = .ok (.getfield 9, 3) := by decide +kernel
theorem dX3_collectHoles_7 : decode cX3_collectHoles 7 = .ok (.invokevirtual 56, 3) := by decide +kernel
theorem dX3_collectHoles_10 : decode cX3_collectHoles 10 = .ok (.if_icmp .ge 42, 3) := by decide +kernel
theorem dX3_collectHoles_13 : decode cX3_collectHoles 13 = .ok (.aload_n 0, 1) := by decide +kernel
theorem dX3_collectHoles_14 : decode cX3_collectHoles 14 = .ok (.getfield 9, 3) := by decide +kernel
theorem dX3_collectHoles_17 : decode cX3_collectHoles 17 = .ok (.iload_n 1, 1) := by decide +kernel
theorem dX3_collectHoles_18 : decode cX3_collectHoles 18 = .ok (.invokevirtual 60, 3) := by decide +kernel
theorem dX3_collectHoles_21 : decode cX3_collectHoles 21 = .ok (.ifCond .eq 25, 3) := by decide +kernel
theorem dX3_collectHoles_24 : decode cX3_collectHoles 24 = .ok (.aload_n 0, 1) := by decide +kernel
theorem dX3_collectHoles_25 : decode cX3_collectHoles 25 = .ok (.getfield 15, 3) := by decide +kernel
theorem dX3_collectHoles_28 : decode cX3_collectHoles 28 = .ok (.aload_n 0, 1) := by decide +kernel
theorem dX3_collectHoles_29 : decode cX3_collectHoles 29 = .ok (.getfield 22, 3) := by decide +kernel
theorem dX3_collectHoles_32 : decode cX3_collectHoles 32 = .ok (.iload_n 1, 1) := by decide +kernel
theorem dX3_collectHoles_33 : decode cX3_collectHoles 33 = .ok (.invokestatic 64, 3) := by decide +kernel
theorem dX3_collectHoles_36 : decode cX3_collectHoles 36 = .ok (.aload_n 0, 1) := by decide +kernel
theorem dX3_collectHoles_37 : decode cX3_collectHoles 37 = .ok (.dup, 1) := by decide +kernel
theorem dX3_collectHoles_38 : decode cX3_collectHoles 38 = .ok (.getfield 22, 3) := by decide +kernel
theorem dX3_collectHoles_41 : decode cX3_collectHoles 41 = .ok (.iconst 1, 1) := by decide +kernel
theorem dX3_collectHoles_42 : decode cX3_collectHoles 42 = .ok (.iadd, 1) := by decide +kernel
theorem dX3_collectHoles_43 : decode cX3_collectHoles 43 = .ok (.putfield 22, 3) := by decide +kernel
theorem dX3_collectHoles_46 : decode cX3_collectHoles 46 = .ok (.iinc 1 1, 3) := by decide +kernel
theorem dX3_collectHoles_49 : decode cX3_collectHoles 49 = .ok (.goto (-47), 3) := by decide +kernel
theorem dX3_collectHoles_52 : decode cX3_collectHoles 52 = .ok (.return_, 1) := by decide +kernel
set_option maxRecDepth 20000 in
theorem ggX3_fillFrom_X3_keepFilling : GoodIn wsX3_fillFrom wsX3_keepFilling := goodIn_r _ [9, 10, 11, 2, 12, 13, 14, 15, 16, 17, 18, 19, 20, 21, 22, 84, 85, 86, 87, 88, 89, 90, 91, 92, 93, 94, 95] (by decide +kernel) (by decide +kernel)
set_option maxRecDepth 20000 in
theorem gX3_fillFrom_X3_keepFilling : GoodIn wsX3_fillFrom (wsV RX3 68 RX3 yX3_keepFilling wsX3_keepFilling) := goodIn_app (goodIn_of _ (by decide +kernel)) ggX3_fillFrom_X3_keepFilling
set_option maxRecDepth 20000 in
theorem ggX3_fillFrom_X4_read : GoodIn wsX3_fillFrom wsX4_read := goodIn_r _ [20] (by decide +kernel) (by decide +kernel)
set_option maxRecDepth 20000 in
theorem gX3_fillFrom_X4_read_n52 : GoodIn wsX3_fillFrom (wsX4_read) := ggX3_fillFrom_X4_read
set_option maxRecDepth 20000 in
theorem ggX3_fillFrom_X1_numbersFor : GoodIn wsX3_fillFrom wsX1_numbersFor := goodIn_r _ [26, 27, 28, 29, 30, 31, 15, 32, 17, 18, 19, 20, 33, 34, 35, 36, 37, 38, 39, 40, 41, 42, 43, 44, 45, 46, 47, 48, 49, 50, 51, 52, 53, 54, 55, 56, 57, 58, 59, 60, 61, 62, 63, 64, 65, 66, 67, 91, 92, 93, 94, 95, 96, 97, 98, 99, 100, 101, 102, 103, 104, 105] (by decide +kernel) (by decide +kernel)
set_option maxRecDepth 20000 in
theorem gX3_fillFrom_X1_numbersFor : GoodIn wsX3_fillFrom (wsV RX3 71 RX1 yX1_numbersFor wsX1_numbersFor) := goodIn_app (goodIn_of _ (by decide +kernel)) ggX3_fillFrom_X1_numbersFor
set_option maxRecDepth 20000 in
theorem ggX3_fillFrom_X3_isOver : GoodIn wsX3_fillFrom wsX3_isOver := goodIn_r _ [71, 10, 72, 73, 74, 8, 75, 4, 84, 85, 86, 87, 88, 89, 90] (by decide +kernel) (by decide +kernel)
set_option maxRecDepth 20000 in
theorem gX3_fillFrom_X3_isOver : GoodIn wsX3_fillFrom (wsV RX3 75 RX3 yX3_isOver wsX3_isOver) := goodIn_app (goodIn_of _ (by decide +kernel)) ggX3_fillFrom_X3_isOver
set_option maxRecDepth 20000 in
theorem ggX3_fillFrom_X3_isUnknown : GoodIn wsX3_fillFrom wsX3_isUnknown := goodIn_r _ [75, 4, 84, 85, 86, 87, 88, 89, 90] (by decide +kernel) (by decide +kernel)
set_option maxRecDepth 20000 in
theorem gX3_fillFrom_X3_isUnknown : GoodIn wsX3_fillFrom (wsV RX3 49 RX3 yX3_isUnknown wsX3_isUnknown) := goodIn_app (goodIn_of _ (by decide +kernel)) ggX3_fillFrom_X3_isUnknown
set_option maxRecDepth 20000 in
theorem ggX3_fillFrom_X4_hasNumber : GoodIn wsX3_fillFrom wsX4_hasNumber := goodIn_r _ [77] (by decide +kernel) (by decide +kernel)
set_option maxRecDepth 20000 in
theorem gX3_fillFrom_X4_hasNumber_n78 : GoodIn wsX3_fillFrom (wsX4_hasNumber) := ggX3_fillFrom_X4_hasNumber
set_option maxRecDepth 20000 in
theorem ggX3_fillFrom_X1_lay : GoodIn wsX3_fillFrom wsX1_lay := goodIn_r _ [81, 17, 21, 19, 22, 91, 92, 93, 94, 95] (by decide +kernel) (by decide +kernel)
set_option maxRecDepth 20000 in
theorem gX3_fillFrom_X1_lay : GoodIn wsX3_fillFrom (wsV RX3 82 RX1 yX1_lay wsX1_lay) := goodIn_app (goodIn_of _ (by decide +kernel)) ggX3_fillFrom_X1_lay
set_option maxRecDepth 20000 in
theorem ggX3_fillFrom_X3_fillFrom : GoodIn wsX3_fillFrom wsX3_fillFrom := goodIn_r _ [0, 1, 2, 3, 4, 5, 6, 7, 8, 9, 10, 11, 12, 13, 14, 15, 16, 17, 18, 19, 20, 21, 22, 23, 24, 25, 26, 27, 28, 29, 30, 31, 32, 33, 34, 35, 36, 37, 38, 39, 40, 41, 42, 43, 44, 45, 46, 47, 48, 49, 50, 51, 52, 53, 54, 55, 56, 57, 58, 59, 60, 61, 62, 63, 64, 65, 66, 67, 68, 69, 70, 71, 72, 73, 74, 75, 76, 77, 78, 79, 80, 81, 82, 83, 84, 85, 86, 87, 88, 89, 90, 91, 92, 93, 94, 95, 96, 97, 98, 99, 100, 101, 102, 103, 104, 105] (by decide +kernel) (by decide +kernel)
set_option maxRecDepth 20000 in
theorem gX3_fillFrom_X3_fillFrom : GoodIn wsX3_fillFrom (va_wsS RX3 45 yX3_fillFrom wsX3_fillFrom) := goodIn_app (goodIn_of _ (by decide +kernel)) ggX3_fillFrom_X3_fillFrom
theorem dX3_fillFrom_0 : decode cX3_fillFrom 0 = .ok (.iload_n 1, 1) := by decide +kernel
theorem dX3_fillFrom_1 : decode cX3_fillFrom 1 = .ok (.aload_n 0, 1) := by decide +kernel
theorem dX3_fillFrom_2 : decode cX3_fillFrom 2 = .ok (.getfield 22, 3) := by decide +kernel
theorem dX3_fillFrom_5 : decode cX3_fillFrom 5 = .ok (.if_icmp .ge 9, 3) := by decide +kernel
theorem dX3_fillFrom_8 : decode cX3_fillFrom 8 = .ok (.iload_n 1, 1) := by decide +kernel
theorem dX3_fillFrom_9 : decode cX3_fillFrom 9 = .ok (.bipush 36, 2) := by decide +kernel
theorem dX3_fillFrom_11 : decode cX3_fillFrom 11 = .ok (.if_icmp .lt 8, 3) := by decide +kernel
theorem dX3_fillFrom_14 : decode cX3_fillFrom 14 = .ok (.aload_n 0, 1) := by decide +kernel
theorem dX3_fillFrom_15 : decode cX3_fillFrom 15 = .ok (.invokevirtual 68, 3) := by decide +kernel
theorem dX3_fillFrom_18 : decode cX3_fillFrom 18 = .ok (.return_, 1) := by decide +kernel
theorem dX3_fillFrom_19 : decode cX3_fillFrom 19 = .ok (.aload_n 0, 1) := by decide +kernel
theorem dX3_fillFrom_20 : decode cX3_fillFrom 20 = .ok (.getfield 9, 3) := by decide +kernel
theorem dX3_fillFrom_23 : decode cX3_fillFrom 23 = .ok (.astore_n 2, 1) := by decide +kernel
theorem dX3_fillFrom_24 : decode cX3_fillFrom 24 = .ok (.aload_n 0, 1) := by decide +kernel
theorem dX3_fillFrom_25 : decode cX3_fillFrom 25 = .ok (.getfield 15, 3) := by decide +kernel
theorem dX3_fillFrom_28 : decode cX3_fillFrom 28 = .ok (.iload_n 1, 1) := by decide +kernel
theorem dX3_fillFrom_29 : decode cX3_fillFrom 29 = .ok (.invokestatic 52, 3) := by decide +kernel
theorem dX3_fillFrom_32 : decode cX3_fillFrom 32 = .ok (.istore_n 3, 1) := by decide +kernel
theorem dX3_fillFrom_33 : decode cX3_fillFrom 33 = .ok (.aload_n 2, 1) := by decide +kernel
theorem dX3_fillFrom_34 : decode cX3_fillFrom 34 = .ok (.iload_n 3, 1) := by decide +kernel
theorem dX3_fillFrom_35 : decode cX3_fillFrom 35 = .ok (.invokevirtual 71, 3) := by decide +kernel
theorem dX3_fillFrom_38 : decode cX3_fillFrom 38 = .ok (.istore 4, 2) := by decide +kernel
theorem dX3_fillFrom_40 : decode cX3_fillFrom 40 = .ok (.iconst 1, 1) := by decide +kernel
theorem dX3_fillFrom_41 : decode cX3_fillFrom 41 = .ok (.istore 5, 2) := by decide +kernel
theorem dX3_fillFrom_43 : decode cX3_fillFrom 43 = .ok (.iload 5, 2) := by decide +kernel
theorem dX3_fillFrom_45 : decode cX3_fillFrom 45 = .ok (.bipush 9, 2) := by decide +kernel
theorem dX3_fillFrom_47 : decode cX3_fillFrom 47 = .ok (.if_icmp .gt 57, 3) := by decide +kernel
theorem dX3_fillFrom_50 : decode cX3_fillFrom 50 = .ok (.aload_n 0, 1) := by decide +kernel
theorem dX3_fillFrom_51 : decode cX3_fillFrom 51 = .ok (.invokevirtual 75, 3) := by decide +kernel
theorem dX3_fillFrom_54 : decode cX3_fillFrom 54 = .ok (.ifCond .ne 50, 3) := by decide +kernel
theorem dX3_fillFrom_57 : decode cX3_fillFrom 57 = .ok (.aload_n 0, 1) := by decide +kernel
theorem dX3_fillFrom_58 : decode cX3_fillFrom 58 = .ok (.dup, 1) := by decide +kernel
theorem dX3_fillFrom_59 : decode cX3_fillFrom 59 = .ok (.getfield 26, 3) := by decide +kernel
theorem dX3_fillFrom_62 : decode cX3_fillFrom 62 = .ok (.iconst 1, 1) := by decide +kernel
theorem dX3_fillFrom_63 : decode cX3_fillFrom 63 = .ok (.iadd, 1) := by decide +kernel
theorem dX3_fillFrom_64 : decode cX3_fillFrom 64 = .ok (.putfield 26, 3) := by decide +kernel
theorem dX3_fillFrom_67 : decode cX3_fillFrom 67 = .ok (.aload_n 0, 1) := by decide +kernel
theorem dX3_fillFrom_68 : decode cX3_fillFrom 68 = .ok (.invokevirtual 49, 3) := by decide +kernel
theorem dX3_fillFrom_71 : decode cX3_fillFrom 71 = .ok (.ifCond .ne 27, 3) := by decide +kernel
theorem dX3_fillFrom_74 : decode cX3_fillFrom 74 = .ok (.iload 4, 2) := by decide +kernel
theorem dX3_fillFrom_76 : decode cX3_fillFrom 76 = .ok (.iload 5, 2) := by decide +kernel
theorem dX3_fillFrom_78 : decode cX3_fillFrom 78 = .ok (.invokestatic 78, 3) := by decide +kernel
theorem dX3_fillFrom_81 : decode cX3_fillFrom 81 = .ok (.ifCond .eq 17, 3) := by decide +kernel
theorem dX3_fillFrom_84 : decode cX3_fillFrom 84 = .ok (.aload_n 2, 1) := by decide +kernel
theorem dX3_fillFrom_85 : decode cX3_fillFrom 85 = .ok (.iload_n 3, 1) := by decide +kernel
theorem dX3_fillFrom_86 : decode cX3_fillFrom 86 = .ok (.iload 5, 2) := by decide +kernel
theorem dX3_fillFrom_88 : decode cX3_fillFrom 88 = .ok (.invokevirtual 82, 3) := by decide +kernel
theorem dX3_fillFrom_91 : decode cX3_fillFrom 91 = .ok (.aload_n 0, 1) := by decide +kernel
theorem dX3_fillFrom_92 : decode cX3_fillFrom 92 = .ok (.iload_n 1, 1) := by decide +kernel
theorem dX3_fillFrom_93 : decode cX3_fillFrom 93 = .ok (.iconst 1, 1) := by decide +kernel
theorem dX3_fillFrom_94 : decode cX3_fillFrom 94 = .ok (.iadd, 1) := by decide +kernel
theorem dX3_fillFrom_95 : decode cX3_fillFrom 95 = .ok (.invokestatic 45, 3) := by decide +kernel
theorem dX3_fillFrom_98 : decode cX3_fillFrom 98 = .ok (.iinc 5 1, 3) := by decide +kernel
theorem dX3_fillFrom_101 : decode cX3_fillFrom 101 = .ok (.goto (-58), 3) := by decide +kernel
theorem dX3_fillFrom_104 : decode cX3_fillFrom 104 = .ok (.aload_n 2, 1) := by decide +kernel
theorem dX3_fillFrom_105 : decode cX3_fillFrom 105 = .ok (.iload_n 3, 1) := by decide +kernel
theorem dX3_fillFrom_106 : decode cX3_fillFrom 106 = .ok (.iconst 0, 1) := by decide +kernel
theorem dX3_fillFrom_107 : decode cX3_fillFrom 107 = .ok (.invokevirtual 82, 3) := by decide +kernel
theorem dX3_fillFrom_110 : decode cX3_fillFrom 110 = .ok (.return_, 1) := by decide +kernel
set_option maxRecDepth 20000 in
theorem ggX3_keepFilling_X1_stoneAt : GoodIn wsX3_keepFilling wsX1_stoneAt := goodIn_r _ [8, 9, 10, 11, 12, 22, 23, 24, 25, 26] (by decide +kernel) (by decide +kernel)
set_option maxRecDepth 20000 in
theorem gX3_keepFilling_X1_stoneAt : GoodIn wsX3_keepFilling (wsV RX3 86 RX1 yX1_stoneAt wsX1_stoneAt) := goodIn_app (goodIn_of _ (by decide +kernel)) ggX3_keepFilling_X1_stoneAt
set_option maxRecDepth 20000 in
theorem ggX3_keepFilling_X4_write : GoodIn wsX3_keepFilling wsX4_write := goodIn_r _ [14] (by decide +kernel) (by decide +kernel)
set_option maxRecDepth 20000 in
theorem gX3_keepFilling_X4_write_n64 : GoodIn wsX3_keepFilling (wsX4_write) := ggX3_keepFilling_X4_write
theorem dX3_keepFilling_0 : decode cX3_keepFilling 0 = .ok (.aload_n 0, 1) := by decide +kernel
theorem dX3_keepFilling_1 : decode cX3_keepFilling 1 = .ok (.getfield 29, 3) := by decide +kernel
theorem dX3_keepFilling_4 : decode cX3_keepFilling 4 = .ok (.ifCond .ne 33, 3) := by decide +kernel
theorem dX3_keepFilling_7 : decode cX3_keepFilling 7 = .ok (.iconst 0, 1) := by decide +kernel
theorem dX3_keepFilling_8 : decode cX3_keepFilling 8 = .ok (.istore_n 1, 1) := by decide +kernel
theorem dX3_keepFilling_9 : decode cX3_keepFilling 9 = .ok (.iload_n 1, 1) := by decide +kernel
theorem dX3_keepFilling_10 : decode cX3_keepFilling 10 = .ok (.bipush 36, 2) := by decide +kernel
theorem dX3_keepFilling_12 : decode cX3_keepFilling 12 = .ok (.if_icmp .ge 25, 3) := by decide +kernel
theorem dX3_keepFilling_15 : decode cX3_keepFilling 15 = .ok (.aload_n 0, 1) := by decide +kernel
theorem dX3_keepFilling_16 : decode cX3_keepFilling 16 = .ok (.getfield 19, 3) := by decide +kernel
theorem dX3_keepFilling_19 : decode cX3_keepFilling 19 = .ok (.iload_n 1, 1) := by decide +kernel
theorem dX3_keepFilling_20 : decode cX3_keepFilling 20 = .ok (.aload_n 0, 1) := by decide +kernel
theorem dX3_keepFilling_21 : decode cX3_keepFilling 21 = .ok (.getfield 9, 3) := by decide +kernel
theorem dX3_keepFilling_24 : decode cX3_keepFilling 24 = .ok (.iload_n 1, 1) := by decide +kernel
theorem dX3_keepFilling_25 : decode cX3_keepFilling 25 = .ok (.invokevirtual 86, 3) := by decide +kernel
theorem dX3_keepFilling_28 : decode cX3_keepFilling 28 = .ok (.invokestatic 64, 3) := by decide +kernel
theorem dX3_keepFilling_31 : decode cX3_keepFilling 31 = .ok (.iinc 1 1, 3) := by decide +kernel
theorem dX3_keepFilling_34 : decode cX3_keepFilling 34 = .ok (.goto (-25), 3) := by decide +kernel
theorem dX3_keepFilling_37 : decode cX3_keepFilling 37 = .ok (.aload_n 0, 1) := by decide +kernel
theorem dX3_keepFilling_38 : decode cX3_keepFilling 38 = .ok (.dup, 1) := by decide +kernel
theorem dX3_keepFilling_39 : decode cX3_keepFilling 39 = .ok (.getfield 29, 3) := by decide +kernel
theorem dX3_keepFilling_42 : decode cX3_keepFilling 42 = .ok (.iconst 1, 1) := by decide +kernel
theorem dX3_keepFilling_43 : decode cX3_keepFilling 43 = .ok (.iadd, 1) := by decide +kernel
theorem dX3_keepFilling_44 : decode cX3_keepFilling 44 = .ok (.putfield 29, 3) := by decide +kernel
theorem dX3_keepFilling_47 : decode cX3_keepFilling 47 = .ok (.return_, 1) := by decide +kernel
set_option maxRecDepth 20000 in
theorem ggX4_init_X1_init : GoodIn wsX4_init wsX1_init := goodIn_r _ [14, 15, 2, 3, 16, 17, 18, 19, 20, 21, 22, 23, 24, 25, 26, 27, 28, 29, 30, 31, 32, 33, 34, 35, 36, 37, 38, 39, 40, 41, 42, 43, 44, 45, 46, 47, 48, 49, 50, 51, 52, 53, 54, 55, 56, 6, 57, 58, 59, 60, 61, 62, 63, 64, 65, 66, 67, 68, 69, 70, 71, 72, 73, 74, 75, 76, 102, 88, 89, 90, 91, 92, 103, 104, 105, 106, 107, 108, 109, 110, 111] (by decide +kernel) (by decide +kernel)
set_option maxRecDepth 20000 in
theorem gX4_init_X1_init : GoodIn wsX4_init (wsX1_init) := ggX4_init_X1_init
set_option maxRecDepth 20000 in
theorem ggX4_init_X3_init : GoodIn wsX4_init wsX3_init := goodIn_r _ [79, 80, 2, 3, 81, 16, 82, 83, 84, 85, 86, 87, 95, 96, 97, 98, 99, 100, 101] (by decide +kernel) (by decide +kernel)
set_option maxRecDepth 20000 in
theorem gX4_init_X3_init : GoodIn wsX4_init (wsX3_init) := ggX4_init_X3_init
end
section
theorem dX4_init_0 : decode cX4_init 0 = .ok (.aload_n 0, 1) := by decide +kernel
theorem dX4_init_1 : decode cX4_init 1 = .ok (.invokespecial 1, 3) := by decide +kernel
theorem dX4_init_4 : decode cX4_init 4 = .ok (.aload_n 0, 1) := by decide +kernel
theorem dX4_init_5 : decode cX4_init 5 = .ok (.new 7, 3) := by decide +kernel
theorem dX4_init_8 : decode cX4_init 8 = .ok (.dup, 1) := by decide +kernel
theorem dX4_init_9 : decode cX4_init 9 = .ok (.invokespecial 9, 3) := by decide +kernel
theorem dX4_init_12 : decode cX4_init 12 = .ok (.putfield 10, 3) := by decide +kernel
theorem dX4_init_15 : decode cX4_init 15 = .ok (.aload_n 0, 1) := by decide +kernel
theorem dX4_init_16 : decode cX4_init 16 = .ok (.new 16, 3) := by decide +kernel
theorem dX4_init_19 : decode cX4_init 19 = .ok (.dup, 1) := by decide +kernel
theorem dX4_init_20 : decode cX4_init 20 = .ok (.aload_n 0, 1) := by decide +kernel
theorem dX4_init_21 : decode cX4_init 21 = .ok (.getfield 10, 3) := by decide +kernel
theorem dX4_init_24 : decode cX4_init 24 = .ok (.invokespecial 18, 3) := by decide +kernel
theorem dX4_init_27 : decode cX4_init 27 = .ok (.putfield 21, 3) := by decide +kernel
theorem dX4_init_30 : decode cX4_init 30 = .ok (.return_, 1) := by decide +kernel
set_option maxRecDepth 20000 in
theorem ggX4_setFloor_X3_forget : GoodIn wsX4_setFloor wsX3_forget := goodIn_r _ [9, 10, 50, 51, 52, 53, 54, 55, 56] (by decide +kernel) (by decide +kernel)
set_option maxRecDepth 20000 in
theorem gX4_setFloor_X3_forget : GoodIn wsX4_setFloor (wsV RX4 32 RX3 yX3_forget wsX3_forget) := goodIn_app (goodIn_of _ (by decide +kernel)) ggX4_setFloor_X3_forget
set_option maxRecDepth 20000 in
theorem ggX4_setFloor_X1_clear : GoodIn wsX4_setFloor wsX1_clear := goodIn_r _ [15, 16, 17, 18, 19, 20, 21, 22, 23, 24, 25, 26, 27, 28, 29, 30, 31, 32, 33, 14, 34, 35, 36, 37, 38, 39, 40, 41, 42, 43, 57, 58, 59, 60, 61, 62, 63, 64, 65, 66, 67, 68, 69, 70] (by decide +kernel) (by decide +kernel)
set_option maxRecDepth 20000 in
theorem gX4_setFloor_X1_clear : GoodIn wsX4_setFloor (wsV RX4 35 RX1 yX1_clear wsX1_clear) := goodIn_app (goodIn_of _ (by decide +kernel)) ggX4_setFloor_X1_clear
set_option maxRecDepth 20000 in
theorem ggX4_setFloor_X1_cells : GoodIn wsX4_setFloor wsX1_cells := goodIn_r _ [47, 16, 17, 57, 58, 59, 60, 61] (by decide +kernel) (by decide +kernel)
set_option maxRecDepth 20000 in
theorem gX4_setFloor_X1_cells : GoodIn wsX4_setFloor (wsV RX4 39 RX1 yX1_cells wsX1_cells) := goodIn_app (goodIn_of _ (by decide +kernel)) ggX4_setFloor_X1_cells
theorem dX4_setFloor_0 : decode cX4_setFloor 0 = .ok (.iload_n 1, 1) := by decide +kernel
theorem dX4_setFloor_1 : decode cX4_setFloor 1 = .ok (.iconst 2, 1) := by decide +kernel
theorem dX4_setFloor_2 : decode cX4_setFloor 2 = .ok (.if_icmp .lt 20, 3) := by decide +kernel
theorem dX4_setFloor_5 : decode cX4_setFloor 5 = .ok (.iload_n 1, 1) := by decide +kernel
theorem dX4_setFloor_6 : decode cX4_setFloor 6 = .ok (.bipush 6, 2) := by decide +kernel
theorem dX4_setFloor_8 : decode cX4_setFloor 8 = .ok (.if_icmp .gt 14, 3) := by decide +kernel
theorem dX4_setFloor_11 : decode cX4_setFloor 11 = .ok (.iload_n 2, 1) := by decide +kernel
theorem dX4_setFloor_12 : decode cX4_setFloor 12 = .ok (.iconst 2, 1) := by decide +kernel
theorem dX4_setFloor_13 : decode cX4_setFloor 13 = .ok (.if_icmp .lt 9, 3) := by decide +kernel
theorem dX4_setFloor_16 : decode cX4_setFloor 16 = .ok (.iload_n 2, 1) := by decide +kernel
theorem dX4_setFloor_17 : decode cX4_setFloor 17 = .ok (.bipush 6, 2) := by decide +kernel
theorem dX4_setFloor_19 : decode cX4_setFloor 19 = .ok (.if_icmp .le 13, 3) := by decide +kernel
theorem dX4_setFloor_22 : decode cX4_setFloor 22 = .ok (.new 25, 3) := by decide +kernel
theorem dX4_setFloor_25 : decode cX4_setFloor 25 = .ok (.dup, 1) := by decide +kernel
theorem dX4_setFloor_26 : decode cX4_setFloor 26 = .ok (.ldc 27, 2) := by decide +kernel
theorem dX4_setFloor_28 : decode cX4_setFloor 28 = .ok (.invokespecial 29, 3) := by decide +kernel
theorem dX4_setFloor_31 : decode cX4_setFloor 31 = .ok (.athrow, 1) := by decide +kernel
theorem dX4_setFloor_32 : decode cX4_setFloor 32 = .ok (.aload_n 0, 1) := by decide +kernel
theorem dX4_setFloor_33 : decode cX4_setFloor 33 = .ok (.getfield 21, 3) := by decide +kernel
theorem dX4_setFloor_36 : decode cX4_setFloor 36 = .ok (.invokevirtual 32, 3) := by decide +kernel
theorem dX4_setFloor_39 : decode cX4_setFloor 39 = .ok (.aload_n 0, 1) := by decide +kernel
theorem dX4_setFloor_40 : decode cX4_setFloor 40 = .ok (.getfield 10, 3) := by decide +kernel
theorem dX4_setFloor_43 : decode cX4_setFloor 43 = .ok (.iload_n 1, 1) := by decide +kernel
theorem dX4_setFloor_44 : decode cX4_setFloor 44 = .ok (.iload_n 2, 1) := by decide +kernel
theorem dX4_setFloor_45 : decode cX4_setFloor 45 = .ok (.invokevirtual 35, 3) := by decide +kernel
theorem dX4_setFloor_48 : decode cX4_setFloor 48 = .ok (.aload_n 0, 1) := by decide +kernel
theorem dX4_setFloor_49 : decode cX4_setFloor 49 = .ok (.getfield 10, 3) := by decide +kernel
theorem dX4_setFloor_52 : decode cX4_setFloor 52 = .ok (.invokevirtual 39, 3) := by decide +kernel
theorem dX4_setFloor_55 : decode cX4_setFloor 55 = .ok (.ireturn, 1) := by decide +kernel
set_option maxRecDepth 20000 in
theorem ggX4_pillar_X4_checkCell : GoodIn wsX4_pillar wsX4_checkCell := goodIn_ca (goodIn_r _ [7, 8, 9, 2, 10, 11, 12, 13, 14, 15, 16, 17, 18, 19, 20, 55, 56, 57, 58, 59, 60, 61] (by decide +kernel) (by decide +kernel)) (goodIn_sub (fun _ h => List.mem_cons_of_mem _ (List.mem_append_right _ h)) (by decide +kernel))
set_option maxRecDepth 20000 in
theorem gX4_pillar_X4_checkCell : GoodIn wsX4_pillar (wsV RX4 43 RX4 yX4_checkCell wsX4_checkCell) := goodIn_app (goodIn_of _ (by decide +kernel)) ggX4_pillar_X4_checkCell
set_option maxRecDepth 20000 in
theorem ggX4_pillar_X3_forget : GoodIn wsX4_pillar wsX3_forget := goodIn_r _ [25, 26, 62, 63, 64, 65, 66, 67, 68] (by decide +kernel) (by decide +kernel)
set_option maxRecDepth 20000 in
theorem gX4_pillar_X3_forget : GoodIn wsX4_pillar (wsV RX4 32 RX3 yX3_forget wsX3_forget) := goodIn_app (goodIn_of _ (by decide +kernel)) ggX4_pillar_X3_forget
set_option maxRecDepth 20000 in
theorem ggX4_pillar_X1_turnPillar : GoodIn wsX4_pillar wsX1_turnPillar := goodIn_r _ [30, 31, 32, 33, 34, 13, 35, 36, 6, 37, 38, 39, 40, 41, 42, 43, 20, 19, 44, 45, 46, 47, 48, 49, 50, 51, 52, 53, 57, 58, 59, 60, 61, 69, 70, 71, 72, 73, 74, 75, 76, 77] (by decide +kernel) (by decide +kernel)
set_option maxRecDepth 20000 in
theorem gX4_pillar_X1_turnPillar : GoodIn wsX4_pillar (wsV RX4 47 RX1 yX1_turnPillar wsX1_turnPillar) := goodIn_app (goodIn_of _ (by decide +kernel)) ggX4_pillar_X1_turnPillar
set_option maxRecDepth 20000 in
theorem ggX4_pillar_X1_isPillar : GoodIn wsX4_pillar wsX1_isPillar := goodIn_r _ [35, 31, 36, 6, 37, 57, 58, 59, 60, 61] (by decide +kernel) (by decide +kernel)
set_option maxRecDepth 20000 in
theorem gX4_pillar_X1_isPillar : GoodIn wsX4_pillar (wsV RX4 50 RX1 yX1_isPillar wsX1_isPillar) := goodIn_app (goodIn_of _ (by decide +kernel)) ggX4_pillar_X1_isPillar
theorem dX4_pillar_0 : decode cX4_pillar 0 = .ok (.aload_n 0, 1) := by decide +kernel
theorem dX4_pillar_1 : decode cX4_pillar 1 = .ok (.iload_n 1, 1) := by decide +kernel
theorem dX4_pillar_2 : decode cX4_pillar 2 = .ok (.invokevirtual 43, 3) := by decide +kernel
theorem dX4_pillar_5 : decode cX4_pillar 5 = .ok (.aload_n 0, 1) := by decide +kernel
theorem dX4_pillar_6 : decode cX4_pillar 6 = .ok (.getfield 21, 3) := by decide +kernel
theorem dX4_pillar_9 : decode cX4_pillar 9 = .ok (.invokevirtual 32, 3) := by decide +kernel
theorem dX4_pillar_12 : decode cX4_pillar 12 = .ok (.aload_n 0, 1) := by decide +kernel
theorem dX4_pillar_13 : decode cX4_pillar 13 = .ok (.getfield 10, 3) := by decide +kernel
theorem dX4_pillar_16 : decode cX4_pillar 16 = .ok (.iload_n 1, 1) := by decide +kernel
theorem dX4_pillar_17 : decode cX4_pillar 17 = .ok (.invokevirtual 47, 3) := by decide +kernel
theorem dX4_pillar_20 : decode cX4_pillar 20 = .ok (.aload_n 0, 1) := by decide +kernel
theorem dX4_pillar_21 : decode cX4_pillar 21 = .ok (.getfield 10, 3) := by decide +kernel
theorem dX4_pillar_24 : decode cX4_pillar 24 = .ok (.iload_n 1, 1) := by decide +kernel
theorem dX4_pillar_25 : decode cX4_pillar 25 = .ok (.invokevirtual 50, 3) := by decide +kernel
theorem dX4_pillar_28 : decode cX4_pillar 28 = .ok (.ireturn, 1) := by decide +kernel
set_option maxRecDepth 20000 in
theorem ggX4_setSum_X4_checkCell : GoodIn wsX4_setSum wsX4_checkCell := goodIn_ca (goodIn_r _ [9, 10, 11, 4, 12, 13, 14, 15, 16, 17, 18, 19, 20, 21, 22, 45, 46, 47, 48, 49, 50, 51] (by decide +kernel) (by decide +kernel)) (goodIn_sub (fun _ h => List.mem_cons_of_mem _ (List.mem_append_right _ h)) (by decide +kernel))
set_option maxRecDepth 20000 in
theorem gX4_setSum_X4_checkCell : GoodIn wsX4_setSum (wsV RX4 43 RX4 yX4_checkCell wsX4_checkCell) := goodIn_app (goodIn_of _ (by decide +kernel)) ggX4_setSum_X4_checkCell
set_option maxRecDepth 20000 in
theorem ggX4_setSum_X3_forget : GoodIn wsX4_setSum wsX3_forget := goodIn_r _ [27, 28, 52, 53, 54, 55, 56, 57, 58] (by decide +kernel) (by decide +kernel)
set_option maxRecDepth 20000 in
theorem gX4_setSum_X3_forget : GoodIn wsX4_setSum (wsV RX4 32 RX3 yX3_forget wsX3_forget) := goodIn_app (goodIn_of _ (by decide +kernel)) ggX4_setSum_X3_forget
set_option maxRecDepth 20000 in
theorem ggX4_setSum_X1_corridors : GoodIn wsX4_setSum wsX1_corridors := goodIn_r _ [32, 33, 34, 47, 48, 49, 50, 51] (by decide +kernel) (by decide +kernel)
set_option maxRecDepth 20000 in
theorem gX4_setSum_X1_corridors : GoodIn wsX4_setSum (wsV RX4 56 RX1 yX1_corridors wsX1_corridors) := goodIn_app (goodIn_of _ (by decide +kernel)) ggX4_setSum_X1_corridors
set_option maxRecDepth 20000 in
theorem ggX4_setSum_X0_tellSum : GoodIn wsX4_setSum wsX0_tellSum := goodIn_r _ [39, 40, 41, 8, 42, 43, 44, 59, 60, 61, 62, 63, 64, 65, 66, 67] (by decide +kernel) (by decide +kernel)
set_option maxRecDepth 20000 in
theorem gX4_setSum_X0_tellSum : GoodIn wsX4_setSum (wsV RX4 60 RX0 yX0_tellSum wsX0_tellSum) := goodIn_app (goodIn_of _ (by decide +kernel)) ggX4_setSum_X0_tellSum
theorem dX4_setSum_0 : decode cX4_setSum 0 = .ok (.aload_n 0, 1) := by decide +kernel
theorem dX4_setSum_1 : decode cX4_setSum 1 = .ok (.iload_n 1, 1) := by decide +kernel
theorem dX4_setSum_2 : decode cX4_setSum 2 = .ok (.invokevirtual 43, 3) := by decide +kernel
theorem dX4_setSum_5 : decode cX4_setSum 5 = .ok (.iload_n 3, 1) := by decide +kernel
theorem dX4_setSum_6 : decode cX4_setSum 6 = .ok (.ifCond .lt 9, 3) := by decide +kernel
theorem dX4_setSum_9 : decode cX4_setSum 9 = .ok (.iload_n 3, 1) := by decide +kernel
theorem dX4_setSum_10 : decode cX4_setSum 10 = .ok (.bipush 45, 2) := by decide +kernel
theorem dX4_setSum_12 : decode cX4_setSum 12 = .ok (.if_icmp .le 13, 3) := by decide +kernel
theorem dX4_setSum_15 : decode cX4_setSum 15 = .ok (.new 25, 3) := by decide +kernel
theorem dX4_setSum_18 : decode cX4_setSum 18 = .ok (.dup, 1) := by decide +kernel
theorem dX4_setSum_19 : decode cX4_setSum 19 = .ok (.ldc 54, 2) := by decide +kernel
theorem dX4_setSum_21 : decode cX4_setSum 21 = .ok (.invokespecial 29, 3) := by decide +kernel
theorem dX4_setSum_24 : decode cX4_setSum 24 = .ok (.athrow, 1) := by decide +kernel
theorem dX4_setSum_25 : decode cX4_setSum 25 = .ok (.aload_n 0, 1) := by decide +kernel
theorem dX4_setSum_26 : decode cX4_setSum 26 = .ok (.getfield 21, 3) := by decide +kernel
theorem dX4_setSum_29 : decode cX4_setSum 29 = .ok (.invokevirtual 32, 3) := by decide +kernel
theorem dX4_setSum_32 : decode cX4_setSum 32 = .ok (.aload_n 0, 1) := by decide +kernel
theorem dX4_setSum_33 : decode cX4_setSum 33 = .ok (.getfield 10, 3) := by decide +kernel
theorem dX4_setSum_36 : decode cX4_setSum 36 = .ok (.iload_n 2, 1) := by decide +kernel
theorem dX4_setSum_37 : decode cX4_setSum 37 = .ok (.invokevirtual 56, 3) := by decide +kernel
theorem dX4_setSum_40 : decode cX4_setSum 40 = .ok (.iload_n 1, 1) := by decide +kernel
theorem dX4_setSum_41 : decode cX4_setSum 41 = .ok (.iload_n 3, 1) := by decide +kernel
theorem dX4_setSum_42 : decode cX4_setSum 42 = .ok (.invokevirtual 60, 3) := by decide +kernel
theorem dX4_setSum_45 : decode cX4_setSum 45 = .ok (.ireturn, 1) := by decide +kernel
set_option maxRecDepth 20000 in
theorem ggX4_put_X4_checkCell : GoodIn wsX4_put wsX4_checkCell := goodIn_ca (goodIn_r _ [9, 10, 11, 3, 12, 13, 14, 15, 16, 17, 18, 19, 20, 21, 22, 52, 53, 54, 55, 56, 57, 58] (by decide +kernel) (by decide +kernel)) (goodIn_sub (fun _ h => List.mem_cons_of_mem _ (List.mem_append_left _ (List.mem_append_right _ h))) (by decide +kernel))
set_option maxRecDepth 20000 in
theorem gX4_put_X4_checkCell : GoodIn wsX4_put (wsV RX4 43 RX4 yX4_checkCell wsX4_checkCell) := goodIn_app (goodIn_of _ (by decide +kernel)) ggX4_put_X4_checkCell
set_option maxRecDepth 20000 in
theorem ggX4_put_X4_checkOpen : GoodIn wsX4_put wsX4_checkOpen := goodIn_ca (goodIn_r _ [26, 27, 28, 3, 29, 30, 31, 15, 32, 33, 34, 8, 35, 52, 53, 54, 55, 56, 57, 58] (by decide +kernel) (by decide +kernel)) (goodIn_sub (fun _ h => List.mem_cons_of_mem _ (List.mem_append_right _ h)) (by decide +kernel))
set_option maxRecDepth 20000 in
theorem gX4_put_X4_checkOpen : GoodIn wsX4_put (wsV RX4 68 RX4 yX4_checkOpen wsX4_checkOpen) := goodIn_app (goodIn_of _ (by decide +kernel)) ggX4_put_X4_checkOpen
set_option maxRecDepth 20000 in
theorem ggX4_put_X1_stoneAt : GoodIn wsX4_put wsX1_stoneAt := goodIn_r _ [39, 33, 34, 8, 35, 54, 55, 56, 57, 58] (by decide +kernel) (by decide +kernel)
set_option maxRecDepth 20000 in
theorem gX4_put_X1_stoneAt : GoodIn wsX4_put (wsV RX4 71 RX1 yX1_stoneAt wsX1_stoneAt) := goodIn_app (goodIn_of _ (by decide +kernel)) ggX4_put_X1_stoneAt
set_option maxRecDepth 20000 in
theorem ggX4_put_X3_forget : GoodIn wsX4_put wsX3_forget := goodIn_r _ [44, 45, 59, 60, 61, 62, 63, 64, 65] (by decide +kernel) (by decide +kernel)
set_option maxRecDepth 20000 in
theorem gX4_put_X3_forget : GoodIn wsX4_put (wsV RX4 32 RX3 yX3_forget wsX3_forget) := goodIn_app (goodIn_of _ (by decide +kernel)) ggX4_put_X3_forget
set_option maxRecDepth 20000 in
theorem ggX4_put_X1_lay : GoodIn wsX4_put wsX1_lay := goodIn_r _ [49, 33, 50, 8, 51, 54, 55, 56, 57, 58] (by decide +kernel) (by decide +kernel)
set_option maxRecDepth 20000 in
theorem gX4_put_X1_lay : GoodIn wsX4_put (wsV RX4 75 RX1 yX1_lay wsX1_lay) := goodIn_app (goodIn_of _ (by decide +kernel)) ggX4_put_X1_lay
theorem dX4_put_0 : decode cX4_put 0 = .ok (.aload_n 0, 1) := by decide +kernel
theorem dX4_put_1 : decode cX4_put 1 = .ok (.iload_n 1, 1) := by decide +kernel
theorem dX4_put_2 : decode cX4_put 2 = .ok (.invokevirtual 43, 3) := by decide +kernel
theorem dX4_put_5 : decode cX4_put 5 = .ok (.iload_n 2, 1) := by decide +kernel
theorem dX4_put_6 : decode cX4_put 6 = .ok (.ifCond .lt 9, 3) := by decide +kernel
theorem dX4_put_9 : decode cX4_put 9 = .ok (.iload_n 2, 1) := by decide +kernel
theorem dX4_put_10 : decode cX4_put 10 = .ok (.bipush 9, 2) := by decide +kernel
theorem dX4_put_12 : decode cX4_put 12 = .ok (.if_icmp .le 13, 3) := by decide +kernel
theorem dX4_put_15 : decode cX4_put 15 = .ok (.new 25, 3) := by decide +kernel
theorem dX4_put_18 : decode cX4_put 18 = .ok (.dup, 1) := by decide +kernel
theorem dX4_put_19 : decode cX4_put 19 = .ok (.ldc 66, 2) := by decide +kernel
theorem dX4_put_21 : decode cX4_put 21 = .ok (.invokespecial 29, 3) := by decide +kernel
theorem dX4_put_24 : decode cX4_put 24 = .ok (.athrow, 1) := by decide +kernel
theorem dX4_put_25 : decode cX4_put 25 = .ok (.aload_n 0, 1) := by decide +kernel
theorem dX4_put_26 : decode cX4_put 26 = .ok (.iload_n 1, 1) := by decide +kernel
theorem dX4_put_27 : decode cX4_put 27 = .ok (.invokevirtual 68, 3) := by decide +kernel
theorem dX4_put_30 : decode cX4_put 30 = .ok (.aload_n 0, 1) := by decide +kernel
theorem dX4_put_31 : decode cX4_put 31 = .ok (.getfield 10, 3) := by decide +kernel
theorem dX4_put_34 : decode cX4_put 34 = .ok (.iload_n 1, 1) := by decide +kernel
theorem dX4_put_35 : decode cX4_put 35 = .ok (.invokevirtual 71, 3) := by decide +kernel
theorem dX4_put_38 : decode cX4_put 38 = .ok (.istore_n 3, 1) := by decide +kernel
theorem dX4_put_39 : decode cX4_put 39 = .ok (.aload_n 0, 1) := by decide +kernel
theorem dX4_put_40 : decode cX4_put 40 = .ok (.getfield 21, 3) := by decide +kernel
theorem dX4_put_43 : decode cX4_put 43 = .ok (.invokevirtual 32, 3) := by decide +kernel
theorem dX4_put_46 : decode cX4_put 46 = .ok (.aload_n 0, 1) := by decide +kernel
theorem dX4_put_47 : decode cX4_put 47 = .ok (.getfield 10, 3) := by decide +kernel
theorem dX4_put_50 : decode cX4_put 50 = .ok (.iload_n 1, 1) := by decide +kernel
theorem dX4_put_51 : decode cX4_put 51 = .ok (.iload_n 2, 1) := by decide +kernel
theorem dX4_put_52 : decode cX4_put 52 = .ok (.invokevirtual 75, 3) := by decide +kernel
theorem dX4_put_55 : decode cX4_put 55 = .ok (.iload_n 3, 1) := by decide +kernel
theorem dX4_put_56 : decode cX4_put 56 = .ok (.ireturn, 1) := by decide +kernel
set_option maxRecDepth 20000 in
theorem ggX4_force_X3_forget : GoodIn wsX4_force wsX3_forget := goodIn_r _ [7, 8, 85, 86, 87, 88, 89, 90, 91] (by decide +kernel) (by decide +kernel)
set_option maxRecDepth 20000 in
theorem gX4_force_X3_forget : GoodIn wsX4_force (wsV RX4 32 RX3 yX3_forget wsX3_forget) := goodIn_app (goodIn_of _ (by decide +kernel)) ggX4_force_X3_forget
set_option maxRecDepth 20000 in
theorem ggX4_force_X1_firstSingle : GoodIn wsX4_force wsX1_firstSingle := goodIn_r _ [13, 14, 15, 16, 12, 17, 18, 19, 20, 21, 22, 23, 24, 25, 26, 27, 28, 29, 30, 31, 32, 33, 34, 35, 36, 37, 38, 39, 40, 41, 42, 43, 44, 45, 46, 47, 48, 49, 50, 51, 52, 53, 54, 55, 56, 57, 58, 59, 60, 61, 62, 63, 64, 65, 66, 67, 68, 69, 92, 93, 94, 95, 96, 97, 98, 99, 100, 101, 102, 103, 104, 105, 106] (by decide +kernel) (by decide +kernel)
set_option maxRecDepth 20000 in
theorem gX4_force_X1_firstSingle : GoodIn wsX4_force (wsV RX4 78 RX1 yX1_firstSingle wsX1_firstSingle) := goodIn_app (goodIn_of _ (by decide +kernel)) ggX4_force_X1_firstSingle
set_option maxRecDepth 20000 in
theorem ggX4_force_X1_numbersFor : GoodIn wsX4_force wsX1_numbersFor := goodIn_r _ [23, 24, 25, 26, 27, 28, 12, 29, 30, 31, 32, 33, 34, 35, 36, 37, 38, 39, 40, 41, 42, 43, 44, 45, 46, 47, 48, 49, 50, 51, 52, 53, 54, 55, 56, 57, 58, 59, 60, 61, 62, 63, 64, 65, 66, 67, 68, 92, 93, 94, 95, 96, 97, 98, 99, 100, 101, 102, 103, 104, 105, 106] (by decide +kernel) (by decide +kernel)
set_option maxRecDepth 20000 in
theorem gX4_force_X1_numbersFor : GoodIn wsX4_force (wsV RX4 81 RX1 yX1_numbersFor wsX1_numbersFor) := goodIn_app (goodIn_of _ (by decide +kernel)) ggX4_force_X1_numbersFor
set_option maxRecDepth 20000 in
theorem ggX4_force_X4_smallestOf : GoodIn wsX4_force wsX4_smallestOf := goodIn_r _ [73, 74, 75, 32, 76] (by decide +kernel) (by decide +kernel)
set_option maxRecDepth 20000 in
theorem gX4_force_X4_smallestOf : GoodIn wsX4_force (va_wsS RX4 84 yX4_smallestOf wsX4_smallestOf) := goodIn_app (goodIn_of _ (by decide +kernel)) ggX4_force_X4_smallestOf
set_option maxRecDepth 20000 in
theorem ggX4_force_X1_lay : GoodIn wsX4_force wsX1_lay := goodIn_r _ [80, 30, 81, 32, 82, 92, 93, 94, 95, 96] (by decide +kernel) (by decide +kernel)
set_option maxRecDepth 20000 in
theorem gX4_force_X1_lay : GoodIn wsX4_force (wsV RX4 75 RX1 yX1_lay wsX1_lay) := goodIn_app (goodIn_of _ (by decide +kernel)) ggX4_force_X1_lay
theorem dX4_force_0 : decode cX4_force 0 = .ok (.aload_n 0, 1) := by decide +kernel
theorem dX4_force_1 : decode cX4_force 1 = .ok (.getfield 21, 3) := by decide +kernel
theorem dX4_force_4 : decode cX4_force 4 = .ok (.invokevirtual 32, 3) := by decide +kernel
theorem dX4_force_7 : decode cX4_force 7 = .ok (.iconst 0, 1) := by decide +kernel
theorem dX4_force_8 : decode cX4_force 8 = .ok (.istore_n 1, 1) := by decide +kernel
theorem dX4_force_9 : decode cX4_force 9 = .ok (.iload_n 1, 1) := by decide +kernel
theorem dX4_force_10 : decode cX4_force 10 = .ok (.bipush 36, 2) := by decide +kernel
theorem dX4_force_12 : decode cX4_force 12 = .ok (.if_icmp .ge 43, 3) := by decide +kernel
theorem dX4_force_15 : decode cX4_force 15 = .ok (.aload_n 0, 1) := by decide +kernel
theorem dX4_force_16 : decode cX4_force 16 = .ok (.getfield 10, 3) := by decide +kernel
theorem dX4_force_19 : decode cX4_force 19 = .ok (.invokevirtual 78, 3) := by decide +kernel
theorem dX4_force_22 : decode cX4_force 22 = .ok (.istore_n 2, 1) := by decide +kernel
theorem dX4_force_23 : decode cX4_force 23 = .ok (.iload_n 2, 1) := by decide +kernel
theorem dX4_force_24 : decode cX4_force 24 = .ok (.iconst (-1), 1) := by decide +kernel
theorem dX4_force_25 : decode cX4_force 25 = .ok (.if_icmp .ne 5, 3) := by decide +kernel
theorem dX4_force_28 : decode cX4_force 28 = .ok (.iload_n 1, 1) := by decide +kernel
theorem dX4_force_29 : decode cX4_force 29 = .ok (.ireturn, 1) := by decide +kernel
theorem dX4_force_30 : decode cX4_force 30 = .ok (.aload_n 0, 1) := by decide +kernel
theorem dX4_force_31 : decode cX4_force 31 = .ok (.getfield 10, 3) := by decide +kernel
theorem dX4_force_34 : decode cX4_force 34 = .ok (.iload_n 2, 1) := by decide +kernel
theorem dX4_force_35 : decode cX4_force 35 = .ok (.aload_n 0, 1) := by decide +kernel
theorem dX4_force_36 : decode cX4_force 36 = .ok (.getfield 10, 3) := by decide +kernel
theorem dX4_force_39 : decode cX4_force 39 = .ok (.iload_n 2, 1) := by decide +kernel
theorem dX4_force_40 : decode cX4_force 40 = .ok (.invokevirtual 81, 3) := by decide +kernel
theorem dX4_force_43 : decode cX4_force 43 = .ok (.invokestatic 84, 3) := by decide +kernel
theorem dX4_force_46 : decode cX4_force 46 = .ok (.invokevirtual 75, 3) := by decide +kernel
theorem dX4_force_49 : decode cX4_force 49 = .ok (.iinc 1 1, 3) := by decide +kernel
theorem dX4_force_52 : decode cX4_force 52 = .ok (.goto (-43), 3) := by decide +kernel
theorem dX4_force_55 : decode cX4_force 55 = .ok (.bipush 36, 2) := by decide +kernel
theorem dX4_force_57 : decode cX4_force 57 = .ok (.ireturn, 1) := by decide +kernel
set_option maxRecDepth 20000 in
theorem ggX4_stone_X4_checkCell : GoodIn wsX4_stone wsX4_checkCell := goodIn_ca (goodIn_r _ [6, 7, 8, 1, 9, 10, 11, 12, 13, 14, 15, 16, 17, 18, 19, 27, 28, 29, 30, 31, 32, 33] (by decide +kernel) (by decide +kernel)) (goodIn_sub (fun _ h => List.mem_cons_of_mem _ (List.mem_append_right _ h)) (by decide +kernel))
set_option maxRecDepth 20000 in
theorem gX4_stone_X4_checkCell : GoodIn wsX4_stone (wsV RX4 43 RX4 yX4_checkCell wsX4_checkCell) := goodIn_app (goodIn_of _ (by decide +kernel)) ggX4_stone_X4_checkCell
set_option maxRecDepth 20000 in
theorem ggX4_stone_X1_stoneAt : GoodIn wsX4_stone wsX1_stoneAt := goodIn_r _ [23, 24, 25, 5, 26, 29, 30, 31, 32, 33] (by decide +kernel) (by decide +kernel)
set_option maxRecDepth 20000 in
theorem gX4_stone_X1_stoneAt : GoodIn wsX4_stone (wsV RX4 71 RX1 yX1_stoneAt wsX1_stoneAt) := goodIn_app (goodIn_of _ (by decide +kernel)) ggX4_stone_X1_stoneAt
theorem dX4_stone_0 : decode cX4_stone 0 = .ok (.aload_n 0, 1) := by decide +kernel
theorem dX4_stone_1 : decode cX4_stone 1 = .ok (.iload_n 1, 1) := by decide +kernel
theorem dX4_stone_2 : decode cX4_stone 2 = .ok (.invokevirtual 43, 3) := by decide +kernel
theorem dX4_stone_5 : decode cX4_stone 5 = .ok (.aload_n 0, 1) := by decide +kernel
theorem dX4_stone_6 : decode cX4_stone 6 = .ok (.getfield 10, 3) := by decide +kernel
theorem dX4_stone_9 : decode cX4_stone 9 = .ok (.iload_n 1, 1) := by decide +kernel
theorem dX4_stone_10 : decode cX4_stone 10 = .ok (.invokevirtual 71, 3) := by decide +kernel
theorem dX4_stone_13 : decode cX4_stone 13 = .ok (.ireturn, 1) := by decide +kernel
set_option maxRecDepth 20000 in
theorem ggX4_corridor_X4_checkCell : GoodIn wsX4_corridor wsX4_checkCell := goodIn_ca (goodIn_r _ [8, 1, 2, 3, 9, 10, 11, 12, 13, 14, 15, 16, 17, 18, 19, 67, 68, 69, 70, 71, 72, 73] (by decide +kernel) (by decide +kernel)) (goodIn_sub (fun _ h => List.mem_cons_of_mem _ (List.mem_append_right _ h)) (by decide +kernel))
set_option maxRecDepth 20000 in
theorem gX4_corridor_X4_checkCell : GoodIn wsX4_corridor (wsV RX4 43 RX4 yX4_checkCell wsX4_checkCell) := goodIn_app (goodIn_of _ (by decide +kernel)) ggX4_corridor_X4_checkCell
set_option maxRecDepth 20000 in
theorem ggX4_corridor_X1_corridors : GoodIn wsX4_corridor wsX1_corridors := goodIn_r _ [23, 24, 25, 69, 70, 71, 72, 73] (by decide +kernel) (by decide +kernel)
set_option maxRecDepth 20000 in
theorem gX4_corridor_X1_corridors : GoodIn wsX4_corridor (wsV RX4 56 RX1 yX1_corridors wsX1_corridors) := goodIn_app (goodIn_of _ (by decide +kernel)) ggX4_corridor_X1_corridors
set_option maxRecDepth 20000 in
theorem ggX4_corridor_X0_tell : GoodIn wsX4_corridor wsX0_tell := goodIn_r _ [30, 31, 32, 33, 34, 35, 36, 7, 37, 38, 39, 40, 29, 41, 42, 43, 44, 45, 46, 47, 48, 49, 50, 51, 52, 53, 54, 55, 56, 57, 58, 59, 60, 61, 62, 63, 64, 65, 66, 74, 75, 76, 77, 78, 79, 80, 81, 82, 83] (by decide +kernel) (by decide +kernel)
set_option maxRecDepth 20000 in
theorem gX4_corridor_X0_tell : GoodIn wsX4_corridor (wsV RX4 92 RX0 yX0_tell wsX0_tell) := goodIn_app (goodIn_of _ (by decide +kernel)) ggX4_corridor_X0_tell
theorem dX4_corridor_0 : decode cX4_corridor 0 = .ok (.aload_n 0, 1) := by decide +kernel
theorem dX4_corridor_1 : decode cX4_corridor 1 = .ok (.iload_n 1, 1) := by decide +kernel
theorem dX4_corridor_2 : decode cX4_corridor 2 = .ok (.invokevirtual 43, 3) := by decide +kernel
theorem dX4_corridor_5 : decode cX4_corridor 5 = .ok (.iload_n 3, 1) := by decide +kernel
theorem dX4_corridor_6 : decode cX4_corridor 6 = .ok (.ifCond .lt 9, 3) := by decide +kernel
theorem dX4_corridor_9 : decode cX4_corridor 9 = .ok (.iload_n 3, 1) := by decide +kernel
theorem dX4_corridor_10 : decode cX4_corridor 10 = .ok (.bipush 6, 2) := by decide +kernel
theorem dX4_corridor_12 : decode cX4_corridor 12 = .ok (.if_icmp .lt 13, 3) := by decide +kernel
theorem dX4_corridor_15 : decode cX4_corridor 15 = .ok (.new 87, 3) := by decide +kernel
theorem dX4_corridor_18 : decode cX4_corridor 18 = .ok (.dup, 1) := by decide +kernel
theorem dX4_corridor_19 : decode cX4_corridor 19 = .ok (.ldc 89, 2) := by decide +kernel
theorem dX4_corridor_21 : decode cX4_corridor 21 = .ok (.invokespecial 91, 3) := by decide +kernel
theorem dX4_corridor_24 : decode cX4_corridor 24 = .ok (.athrow, 1) := by decide +kernel
theorem dX4_corridor_25 : decode cX4_corridor 25 = .ok (.aload_n 0, 1) := by decide +kernel
theorem dX4_corridor_26 : decode cX4_corridor 26 = .ok (.getfield 10, 3) := by decide +kernel
theorem dX4_corridor_29 : decode cX4_corridor 29 = .ok (.iload_n 2, 1) := by decide +kernel
theorem dX4_corridor_30 : decode cX4_corridor 30 = .ok (.invokevirtual 56, 3) := by decide +kernel
theorem dX4_corridor_33 : decode cX4_corridor 33 = .ok (.iload_n 1, 1) := by decide +kernel
theorem dX4_corridor_34 : decode cX4_corridor 34 = .ok (.iload_n 3, 1) := by decide +kernel
theorem dX4_corridor_35 : decode cX4_corridor 35 = .ok (.invokevirtual 92, 3) := by decide +kernel
theorem dX4_corridor_38 : decode cX4_corridor 38 = .ok (.ireturn, 1) := by decide +kernel
set_option maxRecDepth 20000 in
theorem ggX4_can_X4_checkCell : GoodIn wsX4_can wsX4_checkCell := goodIn_ca (goodIn_r _ [6, 7, 8, 1, 9, 10, 11, 12, 13, 14, 15, 16, 17, 18, 19, 68, 69, 70, 71, 72, 73, 74] (by decide +kernel) (by decide +kernel)) (goodIn_sub (fun _ h => List.mem_cons_of_mem _ (List.mem_append_right _ h)) (by decide +kernel))
set_option maxRecDepth 20000 in
theorem gX4_can_X4_checkCell : GoodIn wsX4_can (wsV RX4 43 RX4 yX4_checkCell wsX4_checkCell) := goodIn_app (goodIn_of _ (by decide +kernel)) ggX4_can_X4_checkCell
set_option maxRecDepth 20000 in
theorem ggX4_can_X1_numbersFor : GoodIn wsX4_can wsX1_numbersFor := goodIn_r _ [23, 24, 25, 26, 27, 28, 12, 29, 30, 31, 5, 32, 33, 34, 35, 36, 37, 38, 39, 40, 41, 42, 43, 44, 45, 46, 47, 48, 49, 50, 51, 52, 53, 54, 55, 56, 57, 58, 59, 60, 61, 62, 63, 64, 65, 66, 67, 70, 71, 72, 73, 74, 75, 76, 77, 78, 79, 80, 81, 82, 83, 84] (by decide +kernel) (by decide +kernel)
set_option maxRecDepth 20000 in
theorem gX4_can_X1_numbersFor : GoodIn wsX4_can (wsV RX4 81 RX1 yX1_numbersFor wsX1_numbersFor) := goodIn_app (goodIn_of _ (by decide +kernel)) ggX4_can_X1_numbersFor
theorem dX4_can_0 : decode cX4_can 0 = .ok (.aload_n 0, 1) := by decide +kernel
theorem dX4_can_1 : decode cX4_can 1 = .ok (.iload_n 1, 1) := by decide +kernel
theorem dX4_can_2 : decode cX4_can 2 = .ok (.invokevirtual 43, 3) := by decide +kernel
theorem dX4_can_5 : decode cX4_can 5 = .ok (.aload_n 0, 1) := by decide +kernel
theorem dX4_can_6 : decode cX4_can 6 = .ok (.getfield 10, 3) := by decide +kernel
theorem dX4_can_9 : decode cX4_can 9 = .ok (.iload_n 1, 1) := by decide +kernel
theorem dX4_can_10 : decode cX4_can 10 = .ok (.invokevirtual 81, 3) := by decide +kernel
theorem dX4_can_13 : decode cX4_can 13 = .ok (.ireturn, 1) := by decide +kernel
set_option maxRecDepth 20000 in
theorem ggX4_count_X1_tally : GoodIn wsX4_count wsX1_tally := goodIn_r _ [8, 9, 10, 11, 12, 13, 14, 7, 15, 16, 17, 18, 19, 20, 21, 22, 23, 24, 25, 26, 27, 28, 29, 30, 31, 32, 33, 34, 35, 36, 37, 38, 39, 40, 41, 42, 43, 44, 45, 46, 47, 48, 49, 50, 51, 52, 53, 54, 55, 56, 57, 58, 59, 60, 61, 62, 63, 64, 65, 66, 67, 68, 69, 70, 71, 72, 73, 74, 75, 76, 77, 78, 79, 80, 81, 82, 83, 84, 85, 86, 87, 88, 89, 90, 91, 92, 93, 94, 95, 96, 97, 98, 99, 100, 101, 102, 103, 104, 107, 108, 109, 110, 111, 112, 113, 114, 115, 116, 117, 118, 119, 120, 121] (by decide +kernel) (by decide +kernel)
set_option maxRecDepth 20000 in
theorem gX4_count_X1_tally : GoodIn wsX4_count (wsV RX4 97 RX1 yX1_tally wsX1_tally) := goodIn_app (goodIn_of _ (by decide +kernel)) ggX4_count_X1_tally
theorem dX4_count_0 : decode cX4_count 0 = .ok (.iload_n 1, 1) := by decide +kernel
theorem dX4_count_1 : decode cX4_count 1 = .ok (.ifCond .lt 9, 3) := by decide +kernel
theorem dX4_count_4 : decode cX4_count 4 = .ok (.iload_n 1, 1) := by decide +kernel
theorem dX4_count_5 : decode cX4_count 5 = .ok (.bipush 9, 2) := by decide +kernel
theorem dX4_count_7 : decode cX4_count 7 = .ok (.if_icmp .lt 13, 3) := by decide +kernel
theorem dX4_count_10 : decode cX4_count 10 = .ok (.new 87, 3) := by decide +kernel
theorem dX4_count_13 : decode cX4_count 13 = .ok (.dup, 1) := by decide +kernel
theorem dX4_count_14 : decode cX4_count 14 = .ok (.ldc 95, 2) := by decide +kernel
theorem dX4_count_16 : decode cX4_count 16 = .ok (.invokespecial 91, 3) := by decide +kernel
theorem dX4_count_19 : decode cX4_count 19 = .ok (.athrow, 1) := by decide +kernel
theorem dX4_count_20 : decode cX4_count 20 = .ok (.aload_n 0, 1) := by decide +kernel
theorem dX4_count_21 : decode cX4_count 21 = .ok (.getfield 10, 3) := by decide +kernel
theorem dX4_count_24 : decode cX4_count 24 = .ok (.iload_n 1, 1) := by decide +kernel
theorem dX4_count_25 : decode cX4_count 25 = .ok (.invokevirtual 97, 3) := by decide +kernel
theorem dX4_count_28 : decode cX4_count 28 = .ok (.ireturn, 1) := by decide +kernel
set_option maxRecDepth 20000 in
theorem ggX4_ways_X4_checkPartition : GoodIn wsX4_ways wsX4_checkPartition := goodIn_ca (goodIn_r _ [4, 5, 6] (by decide +kernel) (by decide +kernel)) (goodIn_sub (fun _ h => List.mem_cons_of_mem _ (List.mem_append_right _ h)) (by decide +kernel))
set_option maxRecDepth 20000 in
theorem gX4_ways_X4_checkPartition : GoodIn wsX4_ways (va_wsS RX4 100 yX4_checkPartition wsX4_checkPartition) := goodIn_app (goodIn_of _ (by decide +kernel)) ggX4_ways_X4_checkPartition
set_option maxRecDepth 20000 in
theorem ggX4_ways_X4_isPartition : GoodIn wsX4_ways wsX4_isPartition := goodIn_r _ [9, 10, 11, 12, 13, 14, 15, 16, 17, 18, 3, 19, 20, 21, 22] (by decide +kernel) (by decide +kernel)
set_option maxRecDepth 20000 in
theorem gX4_ways_X4_isPartition : GoodIn wsX4_ways (va_wsS RX4 103 yX4_isPartition wsX4_isPartition) := goodIn_app (goodIn_of _ (by decide +kernel)) ggX4_ways_X4_isPartition
theorem dX4_ways_0 : decode cX4_ways 0 = .ok (.iload_n 1, 1) := by decide +kernel
theorem dX4_ways_1 : decode cX4_ways 1 = .ok (.iload_n 2, 1) := by decide +kernel
theorem dX4_ways_2 : decode cX4_ways 2 = .ok (.invokestatic 100, 3) := by decide +kernel
theorem dX4_ways_5 : decode cX4_ways 5 = .ok (.iconst 0, 1) := by decide +kernel
theorem dX4_ways_6 : decode cX4_ways 6 = .ok (.istore_n 3, 1) := by decide +kernel
theorem dX4_ways_7 : decode cX4_ways 7 = .ok (.iconst 0, 1) := by decide +kernel
theorem dX4_ways_8 : decode cX4_ways 8 = .ok (.istore 4, 2) := by decide +kernel
theorem dX4_ways_10 : decode cX4_ways 10 = .ok (.iload 4, 2) := by decide +kernel
theorem dX4_ways_12 : decode cX4_ways 12 = .ok (.sipush 1022, 3) := by decide +kernel
theorem dX4_ways_15 : decode cX4_ways 15 = .ok (.if_icmp .gt 22, 3) := by decide +kernel
theorem dX4_ways_18 : decode cX4_ways 18 = .ok (.iload 4, 2) := by decide +kernel
theorem dX4_ways_20 : decode cX4_ways 20 = .ok (.iload_n 1, 1) := by decide +kernel
theorem dX4_ways_21 : decode cX4_ways 21 = .ok (.iload_n 2, 1) := by decide +kernel
theorem dX4_ways_22 : decode cX4_ways 22 = .ok (.invokestatic 103, 3) := by decide +kernel
theorem dX4_ways_25 : decode cX4_ways 25 = .ok (.ifCond .eq 6, 3) := by decide +kernel
theorem dX4_ways_28 : decode cX4_ways 28 = .ok (.iinc 3 1, 3) := by decide +kernel
theorem dX4_ways_31 : decode cX4_ways 31 = .ok (.iinc 4 2, 3) := by decide +kernel
theorem dX4_ways_34 : decode cX4_ways 34 = .ok (.goto (-24), 3) := by decide +kernel
theorem dX4_ways_37 : decode cX4_ways 37 = .ok (.iload_n 3, 1) := by decide +kernel
theorem dX4_ways_38 : decode cX4_ways 38 = .ok (.ireturn, 1) := by decide +kernel
set_option maxRecDepth 20000 in
theorem ggX4_forced_X4_checkPartition : GoodIn wsX4_forced wsX4_checkPartition := goodIn_ca (goodIn_r _ [4, 5, 6] (by decide +kernel) (by decide +kernel)) (goodIn_sub (fun _ h => List.mem_cons_of_mem _ (List.mem_append_right _ h)) (by decide +kernel))
set_option maxRecDepth 20000 in
theorem gX4_forced_X4_checkPartition : GoodIn wsX4_forced (va_wsS RX4 100 yX4_checkPartition wsX4_checkPartition) := goodIn_app (goodIn_of _ (by decide +kernel)) ggX4_forced_X4_checkPartition
set_option maxRecDepth 20000 in
theorem ggX4_forced_X4_isPartition : GoodIn wsX4_forced wsX4_isPartition := goodIn_r _ [9, 10, 11, 12, 13, 14, 15, 16, 17, 18, 3, 19, 20, 21, 22] (by decide +kernel) (by decide +kernel)
set_option maxRecDepth 20000 in
theorem gX4_forced_X4_isPartition : GoodIn wsX4_forced (va_wsS RX4 103 yX4_isPartition wsX4_isPartition) := goodIn_app (goodIn_of _ (by decide +kernel)) ggX4_forced_X4_isPartition
theorem dX4_forced_0 : decode cX4_forced 0 = .ok (.iload_n 1, 1) := by decide +kernel
theorem dX4_forced_1 : decode cX4_forced 1 = .ok (.iload_n 2, 1) := by decide +kernel
theorem dX4_forced_2 : decode cX4_forced 2 = .ok (.invokestatic 100, 3) := by decide +kernel
theorem dX4_forced_5 : decode cX4_forced 5 = .ok (.iconst 0, 1) := by decide +kernel
theorem dX4_forced_6 : decode cX4_forced 6 = .ok (.istore_n 3, 1) := by decide +kernel
theorem dX4_forced_7 : decode cX4_forced 7 = .ok (.sipush 1022, 3) := by decide +kernel
theorem dX4_forced_10 : decode cX4_forced 10 = .ok (.istore 4, 2) := by decide +kernel
theorem dX4_forced_12 : decode cX4_forced 12 = .ok (.iconst 0, 1) := by decide +kernel
theorem dX4_forced_13 : decode cX4_forced 13 = .ok (.istore 5, 2) := by decide +kernel
theorem dX4_forced_15 : decode cX4_forced 15 = .ok (.iload 5, 2) := by decide +kernel
theorem dX4_forced_17 : decode cX4_forced 17 = .ok (.sipush 1022, 3) := by decide +kernel
theorem dX4_forced_20 : decode cX4_forced 20 = .ok (.if_icmp .gt 29, 3) := by decide +kernel
theorem dX4_forced_23 : decode cX4_forced 23 = .ok (.iload 5, 2) := by decide +kernel
theorem dX4_forced_25 : decode cX4_forced 25 = .ok (.iload_n 1, 1) := by decide +kernel
theorem dX4_forced_26 : decode cX4_forced 26 = .ok (.iload_n 2, 1) := by decide +kernel
theorem dX4_forced_27 : decode cX4_forced 27 = .ok (.invokestatic 103, 3) := by decide +kernel
theorem dX4_forced_30 : decode cX4_forced 30 = .ok (.ifCond .eq 13, 3) := by decide +kernel
theorem dX4_forced_33 : decode cX4_forced 33 = .ok (.iinc 3 1, 3) := by decide +kernel
theorem dX4_forced_36 : decode cX4_forced 36 = .ok (.iload 4, 2) := by decide +kernel
theorem dX4_forced_38 : decode cX4_forced 38 = .ok (.iload 5, 2) := by decide +kernel
theorem dX4_forced_40 : decode cX4_forced 40 = .ok (.iand, 1) := by decide +kernel
theorem dX4_forced_41 : decode cX4_forced 41 = .ok (.istore 4, 2) := by decide +kernel
theorem dX4_forced_43 : decode cX4_forced 43 = .ok (.iinc 5 2, 3) := by decide +kernel
theorem dX4_forced_46 : decode cX4_forced 46 = .ok (.goto (-31), 3) := by decide +kernel
theorem dX4_forced_49 : decode cX4_forced 49 = .ok (.iload_n 3, 1) := by decide +kernel
theorem dX4_forced_50 : decode cX4_forced 50 = .ok (.ifCond .ne 7, 3) := by decide +kernel
theorem dX4_forced_53 : decode cX4_forced 53 = .ok (.iconst 0, 1) := by decide +kernel
theorem dX4_forced_54 : decode cX4_forced 54 = .ok (.goto 5, 3) := by decide +kernel
theorem dX4_forced_57 : decode cX4_forced 57 = .ok (.iload 4, 2) := by decide +kernel
theorem dX4_forced_59 : decode cX4_forced 59 = .ok (.ireturn, 1) := by decide +kernel
set_option maxRecDepth 20000 in
theorem ggX4_fillings_X3_refresh : GoodIn wsX4_fillings wsX3_refresh := goodIn_r _ [6, 7, 8, 9, 10, 11, 12, 13, 14, 15, 16, 17, 18, 19, 20, 21, 22, 23, 24, 25, 26, 27, 28, 29, 30, 31, 32, 33, 34, 35, 36, 37, 38, 39, 40, 41, 42, 43, 44, 45, 46, 47, 48, 49, 50, 51, 52, 53, 54, 55, 56, 57, 58, 59, 60, 61, 62, 63, 64, 65, 66, 67, 68, 69, 70, 71, 72, 73, 74, 75, 76, 77, 5, 78, 79, 80, 81, 82, 83, 84, 85, 86, 87, 88, 89, 90, 91, 92, 93, 94, 95, 96, 97, 98, 99, 100, 101, 102, 103, 104, 105, 106, 107, 108, 109, 110, 111, 112, 113, 114, 115, 116, 117, 118, 119, 120, 121, 122, 129, 130, 131, 132, 133, 134, 135, 136, 137, 138, 139, 140, 141, 142, 143, 144, 145, 146, 147, 148, 149, 150] (by decide +kernel) (by decide +kernel)
set_option maxRecDepth 20000 in
theorem gX4_fillings_X3_refresh : GoodIn wsX4_fillings (wsV RX4 107 RX3 yX3_refresh wsX3_refresh) := goodIn_app (goodIn_of _ (by decide +kernel)) ggX4_fillings_X3_refresh
set_option maxRecDepth 20000 in
theorem ggX4_fillings_X3_told : GoodIn wsX4_fillings wsX3_told := goodIn_r _ [126, 10, 113, 114, 115, 5, 116, 9, 129, 130, 131, 132, 133, 134, 135] (by decide +kernel) (by decide +kernel)
set_option maxRecDepth 20000 in
theorem gX4_fillings_X3_told : GoodIn wsX4_fillings (wsV RX4 110 RX3 yX3_told wsX3_told) := goodIn_app (goodIn_of _ (by decide +kernel)) ggX4_fillings_X3_told
theorem dX4_fillings_0 : decode cX4_fillings 0 = .ok (.aload_n 0, 1) := by decide +kernel
theorem dX4_fillings_1 : decode cX4_fillings 1 = .ok (.getfield 21, 3) := by decide +kernel
theorem dX4_fillings_4 : decode cX4_fillings 4 = .ok (.invokevirtual 107, 3) := by decide +kernel
theorem dX4_fillings_7 : decode cX4_fillings 7 = .ok (.aload_n 0, 1) := by decide +kernel
theorem dX4_fillings_8 : decode cX4_fillings 8 = .ok (.getfield 21, 3) := by decide +kernel
theorem dX4_fillings_11 : decode cX4_fillings 11 = .ok (.invokevirtual 110, 3) := by decide +kernel
theorem dX4_fillings_14 : decode cX4_fillings 14 = .ok (.ireturn, 1) := by decide +kernel
set_option maxRecDepth 20000 in
theorem ggX4_tries_X3_refresh : GoodIn wsX4_tries wsX3_refresh := goodIn_r _ [6, 7, 8, 9, 10, 11, 12, 13, 14, 15, 16, 17, 18, 19, 20, 21, 22, 23, 24, 25, 26, 27, 28, 29, 30, 31, 32, 33, 34, 35, 36, 37, 38, 39, 40, 41, 42, 43, 44, 45, 46, 47, 48, 49, 50, 51, 52, 53, 54, 55, 56, 57, 58, 59, 60, 61, 62, 63, 64, 65, 66, 67, 68, 69, 70, 71, 72, 73, 74, 75, 76, 77, 5, 78, 79, 80, 81, 82, 83, 84, 85, 86, 87, 88, 89, 90, 91, 92, 93, 94, 95, 96, 97, 98, 99, 100, 101, 102, 103, 104, 105, 106, 107, 108, 109, 110, 111, 112, 113, 114, 115, 116, 117, 118, 119, 120, 121, 122, 129, 130, 131, 132, 133, 134, 135, 136, 137, 138, 139, 140, 141, 142, 143, 144, 145, 146, 147, 148, 149, 150] (by decide +kernel) (by decide +kernel)
set_option maxRecDepth 20000 in
theorem gX4_tries_X3_refresh : GoodIn wsX4_tries (wsV RX4 107 RX3 yX3_refresh wsX3_refresh) := goodIn_app (goodIn_of _ (by decide +kernel)) ggX4_tries_X3_refresh
set_option maxRecDepth 20000 in
theorem ggX4_tries_X3_tried : GoodIn wsX4_tries wsX3_tried := goodIn_r _ [126, 9, 129, 130, 131, 132, 133, 134, 135] (by decide +kernel) (by decide +kernel)
set_option maxRecDepth 20000 in
theorem gX4_tries_X3_tried : GoodIn wsX4_tries (wsV RX4 113 RX3 yX3_tried wsX3_tried) := goodIn_app (goodIn_of _ (by decide +kernel)) ggX4_tries_X3_tried
theorem dX4_tries_0 : decode cX4_tries 0 = .ok (.aload_n 0, 1) := by decide +kernel
theorem dX4_tries_1 : decode cX4_tries 1 = .ok (.getfield 21, 3) := by decide +kernel
theorem dX4_tries_4 : decode cX4_tries 4 = .ok (.invokevirtual 107, 3) := by decide +kernel
theorem dX4_tries_7 : decode cX4_tries 7 = .ok (.aload_n 0, 1) := by decide +kernel
theorem dX4_tries_8 : decode cX4_tries 8 = .ok (.getfield 21, 3) := by decide +kernel
theorem dX4_tries_11 : decode cX4_tries 11 = .ok (.invokevirtual 113, 3) := by decide +kernel
theorem dX4_tries_14 : decode cX4_tries 14 = .ok (.ireturn, 1) := by decide +kernel
set_option maxRecDepth 20000 in
theorem ggX4_solved_X4_checkCell : GoodIn wsX4_solved wsX4_checkCell := goodIn_ca (goodIn_r _ [7, 8, 9, 1, 10, 11, 12, 13, 14, 15, 16, 17, 18, 19, 20, 142, 143, 144, 145, 146, 147, 148] (by decide +kernel) (by decide +kernel)) (goodIn_sub (fun _ h => List.mem_cons_of_mem _ (List.mem_append_right _ h)) (by decide +kernel))
set_option maxRecDepth 20000 in
theorem gX4_solved_X4_checkCell : GoodIn wsX4_solved (wsV RX4 43 RX4 yX4_checkCell wsX4_checkCell) := goodIn_app (goodIn_of _ (by decide +kernel)) ggX4_solved_X4_checkCell
set_option maxRecDepth 20000 in
theorem ggX4_solved_X1_isPillar : GoodIn wsX4_solved wsX1_isPillar := goodIn_r _ [24, 25, 26, 6, 27, 144, 145, 146, 147, 148] (by decide +kernel) (by decide +kernel)
set_option maxRecDepth 20000 in
theorem gX4_solved_X1_isPillar : GoodIn wsX4_solved (wsV RX4 50 RX1 yX1_isPillar wsX1_isPillar) := goodIn_app (goodIn_of _ (by decide +kernel)) ggX4_solved_X1_isPillar
set_option maxRecDepth 20000 in
theorem ggX4_solved_X3_refresh : GoodIn wsX4_solved wsX3_refresh := goodIn_r _ [32, 33, 34, 35, 36, 37, 38, 39, 40, 13, 41, 42, 43, 44, 45, 46, 47, 15, 16, 17, 18, 19, 20, 48, 49, 50, 51, 52, 53, 26, 6, 27, 54, 55, 56, 57, 58, 59, 60, 61, 62, 63, 64, 65, 66, 67, 68, 69, 70, 71, 72, 73, 74, 75, 76, 77, 78, 79, 80, 81, 82, 83, 84, 85, 86, 87, 88, 89, 90, 91, 92, 93, 31, 94, 95, 96, 97, 98, 99, 100, 25, 101, 102, 103, 104, 105, 106, 107, 108, 109, 110, 111, 112, 113, 114, 115, 116, 117, 118, 119, 120, 121, 122, 123, 124, 125, 126, 127, 128, 129, 130, 131, 132, 133, 134, 135, 136, 137, 149, 150, 151, 152, 153, 154, 155, 144, 145, 146, 147, 148, 156, 157, 158, 159, 160, 161, 162, 163, 164, 165] (by decide +kernel) (by decide +kernel)
set_option maxRecDepth 20000 in
theorem gX4_solved_X3_refresh : GoodIn wsX4_solved (wsV RX4 107 RX3 yX3_refresh wsX3_refresh) := goodIn_app (goodIn_of _ (by decide +kernel)) ggX4_solved_X3_refresh
set_option maxRecDepth 20000 in
theorem ggX4_solved_X3_firstFilling : GoodIn wsX4_solved wsX3_firstFilling := goodIn_r _ [141, 36, 110, 128, 129, 130, 31, 131, 35, 26, 6, 27, 149, 150, 151, 152, 153, 154, 155] (by decide +kernel) (by decide +kernel)
set_option maxRecDepth 20000 in
theorem gX4_solved_X3_firstFilling : GoodIn wsX4_solved (wsV RX4 116 RX3 yX3_firstFilling wsX3_firstFilling) := goodIn_app (goodIn_of _ (by decide +kernel)) ggX4_solved_X3_firstFilling
theorem dX4_solved_0 : decode cX4_solved 0 = .ok (.aload_n 0, 1) := by decide +kernel
theorem dX4_solved_1 : decode cX4_solved 1 = .ok (.iload_n 1, 1) := by decide +kernel
theorem dX4_solved_2 : decode cX4_solved 2 = .ok (.invokevirtual 43, 3) := by decide +kernel
theorem dX4_solved_5 : decode cX4_solved 5 = .ok (.aload_n 0, 1) := by decide +kernel
theorem dX4_solved_6 : decode cX4_solved 6 = .ok (.getfield 10, 3) := by decide +kernel
theorem dX4_solved_9 : decode cX4_solved 9 = .ok (.iload_n 1, 1) := by decide +kernel
theorem dX4_solved_10 : decode cX4_solved 10 = .ok (.invokevirtual 50, 3) := by decide +kernel
theorem dX4_solved_13 : decode cX4_solved 13 = .ok (.ifCond .eq 5, 3) := by decide +kernel
theorem dX4_solved_16 : decode cX4_solved 16 = .ok (.iconst 0, 1) := by decide +kernel
theorem dX4_solved_17 : decode cX4_solved 17 = .ok (.ireturn, 1) := by decide +kernel
theorem dX4_solved_18 : decode cX4_solved 18 = .ok (.aload_n 0, 1) := by decide +kernel
theorem dX4_solved_19 : decode cX4_solved 19 = .ok (.getfield 21, 3) := by decide +kernel
theorem dX4_solved_22 : decode cX4_solved 22 = .ok (.invokevirtual 107, 3) := by decide +kernel
theorem dX4_solved_25 : decode cX4_solved 25 = .ok (.aload_n 0, 1) := by decide +kernel
theorem dX4_solved_26 : decode cX4_solved 26 = .ok (.getfield 21, 3) := by decide +kernel
theorem dX4_solved_29 : decode cX4_solved 29 = .ok (.iload_n 1, 1) := by decide +kernel
theorem dX4_solved_30 : decode cX4_solved 30 = .ok (.invokevirtual 116, 3) := by decide +kernel
theorem dX4_solved_33 : decode cX4_solved 33 = .ok (.ireturn, 1) := by decide +kernel
set_option maxRecDepth 20000 in
theorem ggX4_next_X1_tightest : GoodIn wsX4_next wsX1_tightest := goodIn_r _ [6, 7, 8, 9, 5, 10, 11, 12, 13, 14, 15, 16, 17, 18, 19, 20, 21, 22, 23, 24, 25, 26, 27, 28, 29, 30, 31, 32, 33, 34, 35, 36, 37, 38, 39, 40, 41, 42, 43, 44, 45, 46, 47, 48, 49, 50, 51, 52, 53, 54, 55, 56, 57, 58, 59, 60, 61, 62, 65, 66, 67, 68, 69, 70, 71, 72, 73, 74, 75, 76, 77, 78, 79] (by decide +kernel) (by decide +kernel)
set_option maxRecDepth 20000 in
theorem gX4_next_X1_tightest : GoodIn wsX4_next (wsV RX4 119 RX1 yX1_tightest wsX1_tightest) := goodIn_app (goodIn_of _ (by decide +kernel)) ggX4_next_X1_tightest
theorem dX4_next_0 : decode cX4_next 0 = .ok (.aload_n 0, 1) := by decide +kernel
theorem dX4_next_1 : decode cX4_next 1 = .ok (.getfield 10, 3) := by decide +kernel
theorem dX4_next_4 : decode cX4_next 4 = .ok (.invokevirtual 119, 3) := by decide +kernel
theorem dX4_next_7 : decode cX4_next 7 = .ok (.ireturn, 1) := by decide +kernel
set_option maxRecDepth 20000 in
theorem ggX4_would_X4_checkCell : GoodIn wsX4_would wsX4_checkCell := goodIn_ca (goodIn_r _ [9, 10, 11, 3, 12, 13, 14, 15, 16, 17, 18, 19, 20, 21, 22, 156, 157, 158, 159, 160, 161, 162] (by decide +kernel) (by decide +kernel)) (goodIn_sub (fun _ h => List.mem_cons_of_mem _ (List.mem_append_left _ (List.mem_append_right _ h))) (by decide +kernel))
set_option maxRecDepth 20000 in
theorem gX4_would_X4_checkCell : GoodIn wsX4_would (wsV RX4 43 RX4 yX4_checkCell wsX4_checkCell) := goodIn_app (goodIn_of _ (by decide +kernel)) ggX4_would_X4_checkCell
set_option maxRecDepth 20000 in
theorem ggX4_would_X4_checkOpen : GoodIn wsX4_would wsX4_checkOpen := goodIn_ca (goodIn_r _ [26, 27, 28, 3, 29, 30, 31, 15, 32, 33, 34, 8, 35, 156, 157, 158, 159, 160, 161, 162] (by decide +kernel) (by decide +kernel)) (goodIn_sub (fun _ h => List.mem_cons_of_mem _ (List.mem_append_right _ h)) (by decide +kernel))
set_option maxRecDepth 20000 in
theorem gX4_would_X4_checkOpen : GoodIn wsX4_would (wsV RX4 68 RX4 yX4_checkOpen wsX4_checkOpen) := goodIn_app (goodIn_of _ (by decide +kernel)) ggX4_would_X4_checkOpen
set_option maxRecDepth 20000 in
theorem ggX4_would_X1_stoneAt : GoodIn wsX4_would wsX1_stoneAt := goodIn_r _ [39, 33, 34, 8, 35, 158, 159, 160, 161, 162] (by decide +kernel) (by decide +kernel)
set_option maxRecDepth 20000 in
theorem gX4_would_X1_stoneAt : GoodIn wsX4_would (wsV RX4 71 RX1 yX1_stoneAt wsX1_stoneAt) := goodIn_app (goodIn_of _ (by decide +kernel)) ggX4_would_X1_stoneAt
set_option maxRecDepth 20000 in
theorem ggX4_would_X1_lay : GoodIn wsX4_would wsX1_lay := goodIn_r _ [43, 33, 44, 8, 45, 158, 159, 160, 161, 162] (by decide +kernel) (by decide +kernel)
set_option maxRecDepth 20000 in
theorem gX4_would_X1_lay : GoodIn wsX4_would (wsV RX4 75 RX1 yX1_lay wsX1_lay) := goodIn_app (goodIn_of _ (by decide +kernel)) ggX4_would_X1_lay
set_option maxRecDepth 20000 in
theorem ggX4_would_X3_forget : GoodIn wsX4_would wsX3_forget := goodIn_r _ [50, 51, 163, 164, 165, 166, 167, 168, 169] (by decide +kernel) (by decide +kernel)
set_option maxRecDepth 20000 in
theorem gX4_would_X3_forget : GoodIn wsX4_would (wsV RX4 32 RX3 yX3_forget wsX3_forget) := goodIn_app (goodIn_of _ (by decide +kernel)) ggX4_would_X3_forget
set_option maxRecDepth 20000 in
theorem ggX4_would_X3_refresh : GoodIn wsX4_would wsX3_refresh := goodIn_r _ [55, 51, 56, 57, 58, 59, 60, 61, 62, 15, 63, 64, 65, 66, 67, 68, 69, 17, 18, 19, 20, 21, 22, 70, 71, 72, 73, 74, 75, 34, 8, 35, 76, 77, 78, 79, 80, 81, 82, 83, 84, 85, 86, 87, 88, 89, 90, 91, 92, 93, 94, 95, 96, 97, 98, 99, 100, 101, 102, 103, 104, 105, 106, 107, 108, 109, 110, 111, 112, 113, 114, 115, 49, 116, 117, 118, 119, 120, 121, 122, 33, 44, 45, 123, 124, 125, 126, 127, 128, 129, 130, 131, 37, 38, 39, 132, 133, 134, 135, 136, 137, 138, 139, 140, 141, 142, 143, 144, 145, 146, 147, 148, 149, 150, 151, 41, 42, 43, 163, 164, 165, 166, 167, 168, 169, 158, 159, 160, 161, 162, 170, 171, 172, 173, 174, 175, 176, 177, 178, 179] (by decide +kernel) (by decide +kernel)
set_option maxRecDepth 20000 in
theorem gX4_would_X3_refresh : GoodIn wsX4_would (wsV RX4 107 RX3 yX3_refresh wsX3_refresh) := goodIn_app (goodIn_of _ (by decide +kernel)) ggX4_would_X3_refresh
set_option maxRecDepth 20000 in
theorem ggX4_would_X3_told : GoodIn wsX4_would wsX3_told := goodIn_r _ [155, 58, 145, 146, 147, 49, 148, 57, 163, 164, 165, 166, 167, 168, 169] (by decide +kernel) (by decide +kernel)
set_option maxRecDepth 20000 in
theorem gX4_would_X3_told : GoodIn wsX4_would (wsV RX4 110 RX3 yX3_told wsX3_told) := goodIn_app (goodIn_of _ (by decide +kernel)) ggX4_would_X3_told
theorem dX4_would_0 : decode cX4_would 0 = .ok (.aload_n 0, 1) := by decide +kernel
theorem dX4_would_1 : decode cX4_would 1 = .ok (.iload_n 1, 1) := by decide +kernel
theorem dX4_would_2 : decode cX4_would 2 = .ok (.invokevirtual 43, 3) := by decide +kernel
theorem dX4_would_5 : decode cX4_would 5 = .ok (.iload_n 2, 1) := by decide +kernel
theorem dX4_would_6 : decode cX4_would 6 = .ok (.iconst 1, 1) := by decide +kernel
theorem dX4_would_7 : decode cX4_would 7 = .ok (.if_icmp .lt 9, 3) := by decide +kernel
theorem dX4_would_10 : decode cX4_would 10 = .ok (.iload_n 2, 1) := by decide +kernel
theorem dX4_would_11 : decode cX4_would 11 = .ok (.bipush 9, 2) := by decide +kernel
theorem dX4_would_13 : decode cX4_would 13 = .ok (.if_icmp .le 13, 3) := by decide +kernel
theorem dX4_would_16 : decode cX4_would 16 = .ok (.new 25, 3) := by decide +kernel
theorem dX4_would_19 : decode cX4_would 19 = .ok (.dup, 1) := by decide +kernel
theorem dX4_would_20 : decode cX4_would 20 = .ok (.ldc 122, 2) := by decide +kernel
theorem dX4_would_22 : decode cX4_would 22 = .ok (.invokespecial 29, 3) := by decide +kernel
theorem dX4_would_25 : decode cX4_would 25 = .ok (.athrow, 1) := by decide +kernel
theorem dX4_would_26 : decode cX4_would 26 = .ok (.aload_n 0, 1) := by decide +kernel
theorem dX4_would_27 : decode cX4_would 27 = .ok (.iload_n 1, 1) := by decide +kernel
theorem dX4_would_28 : decode cX4_would 28 = .ok (.invokevirtual 68, 3) := by decide +kernel
theorem dX4_would_31 : decode cX4_would 31 = .ok (.aload_n 0, 1) := by decide +kernel
theorem dX4_would_32 : decode cX4_would 32 = .ok (.getfield 10, 3) := by decide +kernel
theorem dX4_would_35 : decode cX4_would 35 = .ok (.iload_n 1, 1) := by decide +kernel
theorem dX4_would_36 : decode cX4_would 36 = .ok (.invokevirtual 71, 3) := by decide +kernel
theorem dX4_would_39 : decode cX4_would 39 = .ok (.istore_n 3, 1) := by decide +kernel
theorem dX4_would_40 : decode cX4_would 40 = .ok (.aload_n 0, 1) := by decide +kernel
theorem dX4_would_41 : decode cX4_would 41 = .ok (.getfield 10, 3) := by decide +kernel
theorem dX4_would_44 : decode cX4_would 44 = .ok (.iload_n 1, 1) := by decide +kernel
theorem dX4_would_45 : decode cX4_would 45 = .ok (.iload_n 2, 1) := by decide +kernel
theorem dX4_would_46 : decode cX4_would 46 = .ok (.invokevirtual 75, 3) := by decide +kernel
theorem dX4_would_49 : decode cX4_would 49 = .ok (.aload_n 0, 1) := by decide +kernel
theorem dX4_would_50 : decode cX4_would 50 = .ok (.getfield 21, 3) := by decide +kernel
theorem dX4_would_53 : decode cX4_would 53 = .ok (.invokevirtual 32, 3) := by decide +kernel
theorem dX4_would_56 : decode cX4_would 56 = .ok (.aload_n 0, 1) := by decide +kernel
theorem dX4_would_57 : decode cX4_would 57 = .ok (.getfield 21, 3) := by decide +kernel
theorem dX4_would_60 : decode cX4_would 60 = .ok (.invokevirtual 107, 3) := by decide +kernel
theorem dX4_would_63 : decode cX4_would 63 = .ok (.aload_n 0, 1) := by decide +kernel
theorem dX4_would_64 : decode cX4_would 64 = .ok (.getfield 21, 3) := by decide +kernel
theorem dX4_would_67 : decode cX4_would 67 = .ok (.invokevirtual 110, 3) := by decide +kernel
theorem dX4_would_70 : decode cX4_would 70 = .ok (.istore 4, 2) := by decide +kernel
theorem dX4_would_72 : decode cX4_would 72 = .ok (.aload_n 0, 1) := by decide +kernel
theorem dX4_would_73 : decode cX4_would 73 = .ok (.getfield 10, 3) := by decide +kernel
theorem dX4_would_76 : decode cX4_would 76 = .ok (.iload_n 1, 1) := by decide +kernel
theorem dX4_would_77 : decode cX4_would 77 = .ok (.iload_n 3, 1) := by decide +kernel
theorem dX4_would_78 : decode cX4_would 78 = .ok (.invokevirtual 75, 3) := by decide +kernel
theorem dX4_would_81 : decode cX4_would 81 = .ok (.aload_n 0, 1) := by decide +kernel
theorem dX4_would_82 : decode cX4_would 82 = .ok (.getfield 21, 3) := by decide +kernel
theorem dX4_would_85 : decode cX4_would 85 = .ok (.invokevirtual 32, 3) := by decide +kernel
theorem dX4_would_88 : decode cX4_would 88 = .ok (.iload 4, 2) := by decide +kernel
theorem dX4_would_90 : decode cX4_would 90 = .ok (.ireturn, 1) := by decide +kernel
set_option maxRecDepth 20000 in
theorem ggX4_mean_X1_meanOfNumbers : GoodIn wsX4_mean wsX1_meanOfNumbers := goodIn_r _ [6, 7, 8, 9, 5, 10, 11, 12, 13, 14, 15, 16, 17, 18, 19, 20, 21, 22, 23, 24, 25, 26, 27, 28, 29, 30, 31, 32, 33, 34, 35, 36, 37, 38, 39, 40, 41, 42, 43, 44, 45, 46, 47, 48, 49, 50, 51, 52, 53, 54, 55, 56, 57, 58, 59, 60, 61, 62, 65, 66, 67, 68, 69, 70, 71, 72, 73, 74, 75, 76, 77, 78, 79] (by decide +kernel) (by decide +kernel)
set_option maxRecDepth 20000 in
theorem gX4_mean_X1_meanOfNumbers : GoodIn wsX4_mean (wsV RX4 124 RX1 yX1_meanOfNumbers wsX1_meanOfNumbers) := goodIn_app (goodIn_of _ (by decide +kernel)) ggX4_mean_X1_meanOfNumbers
theorem dX4_mean_0 : decode cX4_mean 0 = .ok (.aload_n 0, 1) := by decide +kernel
theorem dX4_mean_1 : decode cX4_mean 1 = .ok (.getfield 10, 3) := by decide +kernel
theorem dX4_mean_4 : decode cX4_mean 4 = .ok (.invokevirtual 124, 3) := by decide +kernel
theorem dX4_mean_7 : decode cX4_mean 7 = .ok (.dreturn, 1) := by decide +kernel
set_option maxRecDepth 20000 in
theorem ggX4_digest_X1_tally : GoodIn wsX4_digest wsX1_tally := goodIn_r _ [8, 9, 10, 11, 12, 13, 14, 7, 15, 16, 17, 18, 19, 20, 21, 22, 23, 24, 25, 26, 27, 28, 29, 30, 31, 32, 33, 34, 35, 36, 37, 38, 39, 40, 41, 42, 43, 44, 45, 46, 47, 48, 49, 50, 51, 52, 53, 54, 55, 56, 57, 58, 59, 60, 61, 62, 63, 64, 65, 66, 67, 68, 69, 70, 71, 72, 73, 74, 75, 76, 77, 78, 79, 80, 81, 82, 83, 84, 85, 86, 87, 88, 89, 90, 91, 92, 93, 94, 95, 96, 97, 98, 99, 100, 101, 102, 103, 104, 189, 190, 191, 192, 193, 194, 195, 196, 197, 198, 199, 200, 201, 202, 203] (by decide +kernel) (by decide +kernel)
set_option maxRecDepth 20000 in
theorem gX4_digest_X1_tally : GoodIn wsX4_digest (wsV RX4 97 RX1 yX1_tally wsX1_tally) := goodIn_app (goodIn_of _ (by decide +kernel)) ggX4_digest_X1_tally
set_option maxRecDepth 20000 in
theorem ggX4_digest_X4_stir : GoodIn wsX4_digest wsX4_stir := goodIn_r _ [107, 108] (by decide +kernel) (by decide +kernel)
set_option maxRecDepth 20000 in
theorem gX4_digest_X4_stir : GoodIn wsX4_digest (va_wsS RX4 130 yX4_stir wsX4_stir) := goodIn_app (goodIn_of _ (by decide +kernel)) ggX4_digest_X4_stir
set_option maxRecDepth 20000 in
theorem ggX4_digest_X1_cells : GoodIn wsX4_digest wsX1_cells := goodIn_r _ [15, 9, 16, 189, 190, 191, 192, 193] (by decide +kernel) (by decide +kernel)
set_option maxRecDepth 20000 in
theorem gX4_digest_X1_cells : GoodIn wsX4_digest (wsV RX4 39 RX1 yX1_cells wsX1_cells) := goodIn_app (goodIn_of _ (by decide +kernel)) ggX4_digest_X1_cells
set_option maxRecDepth 20000 in
theorem ggX4_digest_X4_stirCell : GoodIn wsX4_digest wsX4_stirCell := goodIn_r _ [113, 2, 114, 115, 116, 7, 117, 25, 26, 27, 28, 105, 106, 107, 108, 118, 119, 120, 121, 11, 10, 122, 48, 49, 40, 50, 51, 123, 97, 98, 99, 92, 93, 94, 95, 100, 101, 102, 103, 42, 63, 60, 61, 64, 62, 65, 66, 67, 68, 69, 70, 71, 72, 73, 74, 75, 76, 77, 78, 79, 80, 81, 82, 83, 84, 85, 86, 87, 124, 125, 126, 127, 128, 129, 130, 131, 57, 58, 59, 187, 188, 189, 190, 191, 192, 193, 194, 195, 196, 197, 198, 199, 200, 201, 202, 203] (by decide +kernel) (by decide +kernel)
set_option maxRecDepth 20000 in
theorem gX4_digest_X4_stirCell : GoodIn wsX4_digest (wsV RX4 134 RX4 yX4_stirCell wsX4_stirCell) := goodIn_app (goodIn_of _ (by decide +kernel)) ggX4_digest_X4_stirCell
set_option maxRecDepth 20000 in
theorem ggX4_digest_X3_refresh : GoodIn wsX4_digest wsX3_refresh := goodIn_r _ [136, 137, 138, 139, 140, 141, 142, 143, 144, 7, 145, 10, 11, 52, 53, 54, 55, 12, 13, 14, 15, 9, 16, 37, 38, 39, 40, 41, 42, 26, 27, 28, 56, 57, 58, 59, 51, 60, 61, 62, 63, 64, 65, 66, 67, 68, 69, 70, 71, 72, 73, 74, 75, 76, 77, 78, 79, 80, 81, 82, 83, 84, 85, 86, 87, 33, 34, 35, 36, 146, 147, 148, 135, 149, 150, 151, 152, 93, 94, 95, 25, 153, 154, 155, 156, 157, 158, 159, 160, 161, 162, 163, 115, 116, 117, 164, 97, 98, 99, 92, 100, 101, 102, 103, 165, 166, 167, 168, 169, 170, 171, 172, 173, 174, 175, 176, 177, 178, 204, 205, 206, 207, 208, 209, 210, 189, 190, 191, 192, 193, 194, 195, 196, 197, 198, 199, 200, 201, 202, 203] (by decide +kernel) (by decide +kernel)
set_option maxRecDepth 20000 in
theorem gX4_digest_X3_refresh : GoodIn wsX4_digest (wsV RX4 107 RX3 yX3_refresh wsX3_refresh) := goodIn_app (goodIn_of _ (by decide +kernel)) ggX4_digest_X3_refresh
set_option maxRecDepth 20000 in
theorem ggX4_digest_X3_told : GoodIn wsX4_digest wsX3_told := goodIn_r _ [182, 140, 169, 170, 171, 135, 172, 139, 204, 205, 206, 207, 208, 209, 210] (by decide +kernel) (by decide +kernel)
set_option maxRecDepth 20000 in
theorem gX4_digest_X3_told : GoodIn wsX4_digest (wsV RX4 110 RX3 yX3_told wsX3_told) := goodIn_app (goodIn_of _ (by decide +kernel)) ggX4_digest_X3_told
set_option maxRecDepth 20000 in
theorem ggX4_digest_X3_tried : GoodIn wsX4_digest wsX3_tried := goodIn_r _ [186, 139, 204, 205, 206, 207, 208, 209, 210] (by decide +kernel) (by decide +kernel)
set_option maxRecDepth 20000 in
theorem gX4_digest_X3_tried : GoodIn wsX4_digest (wsV RX4 113 RX3 yX3_tried wsX3_tried) := goodIn_app (goodIn_of _ (by decide +kernel)) ggX4_digest_X3_tried
theorem dX4_digest_0 : decode cX4_digest 0 = .ok (.ldc2_w 128, 3) := by decide +kernel
theorem dX4_digest_3 : decode cX4_digest 3 = .ok (.lstore_n 1, 1) := by decide +kernel
theorem dX4_digest_4 : decode cX4_digest 4 = .ok (.iconst 0, 1) := by decide +kernel
theorem dX4_digest_5 : decode cX4_digest 5 = .ok (.istore_n 3, 1) := by decide +kernel
theorem dX4_digest_6 : decode cX4_digest 6 = .ok (.iload_n 3, 1) := by decide +kernel
theorem dX4_digest_7 : decode cX4_digest 7 = .ok (.bipush 9, 2) := by decide +kernel
theorem dX4_digest_9 : decode cX4_digest 9 = .ok (.if_icmp .ge 22, 3) := by decide +kernel
theorem dX4_digest_12 : decode cX4_digest 12 = .ok (.lload_n 1, 1) := by decide +kernel
theorem dX4_digest_13 : decode cX4_digest 13 = .ok (.aload_n 0, 1) := by decide +kernel
theorem dX4_digest_14 : decode cX4_digest 14 = .ok (.getfield 10, 3) := by decide +kernel
theorem dX4_digest_17 : decode cX4_digest 17 = .ok (.iload_n 3, 1) := by decide +kernel
theorem dX4_digest_18 : decode cX4_digest 18 = .ok (.invokevirtual 97, 3) := by decide +kernel
theorem dX4_digest_21 : decode cX4_digest 21 = .ok (.invokestatic 130, 3) := by decide +kernel
theorem dX4_digest_24 : decode cX4_digest 24 = .ok (.lstore_n 1, 1) := by decide +kernel
theorem dX4_digest_25 : decode cX4_digest 25 = .ok (.iinc 3 1, 3) := by decide +kernel
theorem dX4_digest_28 : decode cX4_digest 28 = .ok (.goto (-22), 3) := by decide +kernel
theorem dX4_digest_31 : decode cX4_digest 31 = .ok (.iconst 0, 1) := by decide +kernel
theorem dX4_digest_32 : decode cX4_digest 32 = .ok (.istore_n 3, 1) := by decide +kernel
theorem dX4_digest_33 : decode cX4_digest 33 = .ok (.iload_n 3, 1) := by decide +kernel
theorem dX4_digest_34 : decode cX4_digest 34 = .ok (.aload_n 0, 1) := by decide +kernel
theorem dX4_digest_35 : decode cX4_digest 35 = .ok (.getfield 10, 3) := by decide +kernel
theorem dX4_digest_38 : decode cX4_digest 38 = .ok (.invokevirtual 39, 3) := by decide +kernel
theorem dX4_digest_41 : decode cX4_digest 41 = .ok (.if_icmp .ge 16, 3) := by decide +kernel
theorem dX4_digest_44 : decode cX4_digest 44 = .ok (.aload_n 0, 1) := by decide +kernel
theorem dX4_digest_45 : decode cX4_digest 45 = .ok (.lload_n 1, 1) := by decide +kernel
theorem dX4_digest_46 : decode cX4_digest 46 = .ok (.iload_n 3, 1) := by decide +kernel
theorem dX4_digest_47 : decode cX4_digest 47 = .ok (.invokevirtual 134, 3) := by decide +kernel
theorem dX4_digest_50 : decode cX4_digest 50 = .ok (.lstore_n 1, 1) := by decide +kernel
theorem dX4_digest_51 : decode cX4_digest 51 = .ok (.iinc 3 1, 3) := by decide +kernel
theorem dX4_digest_54 : decode cX4_digest 54 = .ok (.goto (-21), 3) := by decide +kernel
theorem dX4_digest_57 : decode cX4_digest 57 = .ok (.aload_n 0, 1) := by decide +kernel
theorem dX4_digest_58 : decode cX4_digest 58 = .ok (.getfield 21, 3) := by decide +kernel
theorem dX4_digest_61 : decode cX4_digest 61 = .ok (.invokevirtual 107, 3) := by decide +kernel
theorem dX4_digest_64 : decode cX4_digest 64 = .ok (.lload_n 1, 1) := by decide +kernel
theorem dX4_digest_65 : decode cX4_digest 65 = .ok (.aload_n 0, 1) := by decide +kernel
theorem dX4_digest_66 : decode cX4_digest 66 = .ok (.getfield 21, 3) := by decide +kernel
theorem dX4_digest_69 : decode cX4_digest 69 = .ok (.invokevirtual 110, 3) := by decide +kernel
theorem dX4_digest_72 : decode cX4_digest 72 = .ok (.invokestatic 130, 3) := by decide +kernel
theorem dX4_digest_75 : decode cX4_digest 75 = .ok (.lstore_n 1, 1) := by decide +kernel
theorem dX4_digest_76 : decode cX4_digest 76 = .ok (.lload_n 1, 1) := by decide +kernel
theorem dX4_digest_77 : decode cX4_digest 77 = .ok (.aload_n 0, 1) := by decide +kernel
theorem dX4_digest_78 : decode cX4_digest 78 = .ok (.getfield 21, 3) := by decide +kernel
theorem dX4_digest_81 : decode cX4_digest 81 = .ok (.invokevirtual 113, 3) := by decide +kernel
theorem dX4_digest_84 : decode cX4_digest 84 = .ok (.invokestatic 130, 3) := by decide +kernel
theorem dX4_digest_87 : decode cX4_digest 87 = .ok (.lreturn, 1) := by decide +kernel
set_option maxRecDepth 20000 in
theorem ggX4_stirCell_X1_stoneAt : GoodIn wsX4_stirCell wsX1_stoneAt := goodIn_r _ [6, 7, 8, 9, 10, 81, 82, 83, 84, 85] (by decide +kernel) (by decide +kernel)
set_option maxRecDepth 20000 in
theorem gX4_stirCell_X1_stoneAt : GoodIn wsX4_stirCell (wsV RX4 71 RX1 yX1_stoneAt wsX1_stoneAt) := goodIn_app (goodIn_of _ (by decide +kernel)) ggX4_stirCell_X1_stoneAt
set_option maxRecDepth 20000 in
theorem ggX4_stirCell_X4_stir : GoodIn wsX4_stirCell wsX4_stir := goodIn_r _ [13, 14] (by decide +kernel) (by decide +kernel)
set_option maxRecDepth 20000 in
theorem gX4_stirCell_X4_stir : GoodIn wsX4_stirCell (va_wsS RX4 130 yX4_stir wsX4_stir) := goodIn_app (goodIn_of _ (by decide +kernel)) ggX4_stirCell_X4_stir
set_option maxRecDepth 20000 in
theorem ggX4_stirCell_X1_corridors : GoodIn wsX4_stirCell wsX1_corridors := goodIn_r _ [18, 19, 20, 81, 82, 83, 84, 85] (by decide +kernel) (by decide +kernel)
set_option maxRecDepth 20000 in
theorem gX4_stirCell_X1_corridors : GoodIn wsX4_stirCell (wsV RX4 56 RX1 yX1_corridors wsX1_corridors) := goodIn_app (goodIn_of _ (by decide +kernel)) ggX4_stirCell_X1_corridors
set_option maxRecDepth 20000 in
theorem ggX4_stirCell_X0_toldAt : GoodIn wsX4_stirCell wsX0_toldAt := goodIn_r _ [25, 26, 8, 9, 10, 86, 87, 88, 89, 90, 91, 92, 93, 94] (by decide +kernel) (by decide +kernel)
set_option maxRecDepth 20000 in
theorem gX4_stirCell_X0_toldAt : GoodIn wsX4_stirCell (wsV RX4 137 RX0 yX0_toldAt wsX0_toldAt) := goodIn_app (goodIn_of _ (by decide +kernel)) ggX4_stirCell_X0_toldAt
set_option maxRecDepth 20000 in
theorem ggX4_stirCell_X1_numbersFor : GoodIn wsX4_stirCell wsX1_numbersFor := goodIn_r _ [30, 20, 19, 31, 32, 33, 5, 34, 7, 8, 9, 10, 35, 36, 37, 24, 38, 39, 40, 26, 41, 42, 43, 44, 45, 46, 47, 48, 49, 50, 51, 52, 53, 54, 55, 56, 57, 58, 59, 60, 61, 62, 63, 64, 65, 66, 67, 81, 82, 83, 84, 85, 86, 87, 88, 89, 90, 91, 92, 93, 94, 95] (by decide +kernel) (by decide +kernel)
set_option maxRecDepth 20000 in
theorem gX4_stirCell_X1_numbersFor : GoodIn wsX4_stirCell (wsV RX4 81 RX1 yX1_numbersFor wsX1_numbersFor) := goodIn_app (goodIn_of _ (by decide +kernel)) ggX4_stirCell_X1_numbersFor
set_option maxRecDepth 20000 in
theorem ggX4_stirCell_X4_stirCorridor : GoodIn wsX4_stirCell wsX4_stirCorridor := goodIn_r _ [70, 71, 72, 73, 24, 74, 39, 41, 26, 42, 43, 8, 9, 10, 45, 46, 47, 48, 40, 49, 50, 75, 76, 77, 78, 44, 51, 52, 53, 54, 55, 56, 57, 58, 59, 60, 61, 62, 63, 64, 65, 66, 67, 11, 12, 13, 14, 86, 87, 88, 89, 90, 91, 92, 93, 94, 95] (by decide +kernel) (by decide +kernel)
set_option maxRecDepth 20000 in
theorem gX4_stirCell_X4_stirCorridor : GoodIn wsX4_stirCell (va_wsS RX4 140 yX4_stirCorridor wsX4_stirCorridor) := goodIn_app (goodIn_of _ (by decide +kernel)) ggX4_stirCell_X4_stirCorridor
theorem dX4_stirCell_0 : decode cX4_stirCell 0 = .ok (.lload_n 1, 1) := by decide +kernel
theorem dX4_stirCell_1 : decode cX4_stirCell 1 = .ok (.aload_n 0, 1) := by decide +kernel
theorem dX4_stirCell_2 : decode cX4_stirCell 2 = .ok (.getfield 10, 3) := by decide +kernel
theorem dX4_stirCell_5 : decode cX4_stirCell 5 = .ok (.iload_n 3, 1) := by decide +kernel
theorem dX4_stirCell_6 : decode cX4_stirCell 6 = .ok (.invokevirtual 71, 3) := by decide +kernel
theorem dX4_stirCell_9 : decode cX4_stirCell 9 = .ok (.invokestatic 130, 3) := by decide +kernel
theorem dX4_stirCell_12 : decode cX4_stirCell 12 = .ok (.lstore 4, 2) := by decide +kernel
theorem dX4_stirCell_14 : decode cX4_stirCell 14 = .ok (.lload 4, 2) := by decide +kernel
theorem dX4_stirCell_16 : decode cX4_stirCell 16 = .ok (.aload_n 0, 1) := by decide +kernel
theorem dX4_stirCell_17 : decode cX4_stirCell 17 = .ok (.getfield 10, 3) := by decide +kernel
theorem dX4_stirCell_20 : decode cX4_stirCell 20 = .ok (.iconst 0, 1) := by decide +kernel
theorem dX4_stirCell_21 : decode cX4_stirCell 21 = .ok (.invokevirtual 56, 3) := by decide +kernel
theorem dX4_stirCell_24 : decode cX4_stirCell 24 = .ok (.iload_n 3, 1) := by decide +kernel
theorem dX4_stirCell_25 : decode cX4_stirCell 25 = .ok (.invokevirtual 137, 3) := by decide +kernel
theorem dX4_stirCell_28 : decode cX4_stirCell 28 = .ok (.invokestatic 130, 3) := by decide +kernel
theorem dX4_stirCell_31 : decode cX4_stirCell 31 = .ok (.lstore 4, 2) := by decide +kernel
theorem dX4_stirCell_33 : decode cX4_stirCell 33 = .ok (.lload 4, 2) := by decide +kernel
theorem dX4_stirCell_35 : decode cX4_stirCell 35 = .ok (.aload_n 0, 1) := by decide +kernel
theorem dX4_stirCell_36 : decode cX4_stirCell 36 = .ok (.getfield 10, 3) := by decide +kernel
theorem dX4_stirCell_39 : decode cX4_stirCell 39 = .ok (.iconst 1, 1) := by decide +kernel
theorem dX4_stirCell_40 : decode cX4_stirCell 40 = .ok (.invokevirtual 56, 3) := by decide +kernel
theorem dX4_stirCell_43 : decode cX4_stirCell 43 = .ok (.iload_n 3, 1) := by decide +kernel
theorem dX4_stirCell_44 : decode cX4_stirCell 44 = .ok (.invokevirtual 137, 3) := by decide +kernel
theorem dX4_stirCell_47 : decode cX4_stirCell 47 = .ok (.invokestatic 130, 3) := by decide +kernel
theorem dX4_stirCell_50 : decode cX4_stirCell 50 = .ok (.lstore 4, 2) := by decide +kernel
theorem dX4_stirCell_52 : decode cX4_stirCell 52 = .ok (.lload 4, 2) := by decide +kernel
theorem dX4_stirCell_54 : decode cX4_stirCell 54 = .ok (.aload_n 0, 1) := by decide +kernel
theorem dX4_stirCell_55 : decode cX4_stirCell 55 = .ok (.getfield 10, 3) := by decide +kernel
theorem dX4_stirCell_58 : decode cX4_stirCell 58 = .ok (.iload_n 3, 1) := by decide +kernel
theorem dX4_stirCell_59 : decode cX4_stirCell 59 = .ok (.invokevirtual 81, 3) := by decide +kernel
theorem dX4_stirCell_62 : decode cX4_stirCell 62 = .ok (.invokestatic 130, 3) := by decide +kernel
theorem dX4_stirCell_65 : decode cX4_stirCell 65 = .ok (.lstore 4, 2) := by decide +kernel
theorem dX4_stirCell_67 : decode cX4_stirCell 67 = .ok (.lload 4, 2) := by decide +kernel
theorem dX4_stirCell_69 : decode cX4_stirCell 69 = .ok (.aload_n 0, 1) := by decide +kernel
theorem dX4_stirCell_70 : decode cX4_stirCell 70 = .ok (.getfield 10, 3) := by decide +kernel
theorem dX4_stirCell_73 : decode cX4_stirCell 73 = .ok (.iconst 0, 1) := by decide +kernel
theorem dX4_stirCell_74 : decode cX4_stirCell 74 = .ok (.invokevirtual 56, 3) := by decide +kernel
theorem dX4_stirCell_77 : decode cX4_stirCell 77 = .ok (.iload_n 3, 1) := by decide +kernel
theorem dX4_stirCell_78 : decode cX4_stirCell 78 = .ok (.invokestatic 140, 3) := by decide +kernel
theorem dX4_stirCell_81 : decode cX4_stirCell 81 = .ok (.lstore 4, 2) := by decide +kernel
theorem dX4_stirCell_83 : decode cX4_stirCell 83 = .ok (.lload 4, 2) := by decide +kernel
theorem dX4_stirCell_85 : decode cX4_stirCell 85 = .ok (.aload_n 0, 1) := by decide +kernel
theorem dX4_stirCell_86 : decode cX4_stirCell 86 = .ok (.getfield 10, 3) := by decide +kernel
theorem dX4_stirCell_89 : decode cX4_stirCell 89 = .ok (.iconst 1, 1) := by decide +kernel
theorem dX4_stirCell_90 : decode cX4_stirCell 90 = .ok (.invokevirtual 56, 3) := by decide +kernel
theorem dX4_stirCell_93 : decode cX4_stirCell 93 = .ok (.iload_n 3, 1) := by decide +kernel
theorem dX4_stirCell_94 : decode cX4_stirCell 94 = .ok (.invokestatic 140, 3) := by decide +kernel
theorem dX4_stirCell_97 : decode cX4_stirCell 97 = .ok (.lreturn, 1) := by decide +kernel
set_option maxRecDepth 20000 in
theorem ggX4_stirCorridor_X0_tell : GoodIn wsX4_stirCorridor wsX0_tell := goodIn_r _ [5, 6, 7, 8, 9, 10, 11, 12, 13, 14, 15, 16, 4, 17, 18, 19, 20, 21, 22, 23, 24, 25, 26, 27, 28, 29, 30, 31, 32, 33, 34, 35, 36, 37, 38, 39, 40, 41, 42, 47, 48, 49, 50, 51, 52, 53, 54, 55, 56] (by decide +kernel) (by decide +kernel)
set_option maxRecDepth 20000 in
theorem gX4_stirCorridor_X0_tell : GoodIn wsX4_stirCorridor (wsV RX4 92 RX0 yX0_tell wsX0_tell) := goodIn_app (goodIn_of _ (by decide +kernel)) ggX4_stirCorridor_X0_tell
set_option maxRecDepth 20000 in
theorem ggX4_stirCorridor_X4_stir : GoodIn wsX4_stirCorridor wsX4_stir := goodIn_r _ [45, 46] (by decide +kernel) (by decide +kernel)
set_option maxRecDepth 20000 in
theorem gX4_stirCorridor_X4_stir : GoodIn wsX4_stirCorridor (va_wsS RX4 130 yX4_stir wsX4_stir) := goodIn_app (goodIn_of _ (by decide +kernel)) ggX4_stirCorridor_X4_stir
theorem dX4_stirCorridor_0 : decode cX4_stirCorridor 0 = .ok (.lload_n 0, 1) := by decide +kernel
theorem dX4_stirCorridor_1 : decode cX4_stirCorridor 1 = .ok (.lstore 4, 2) := by decide +kernel
theorem dX4_stirCorridor_3 : decode cX4_stirCorridor 3 = .ok (.iconst 0, 1) := by decide +kernel
theorem dX4_stirCorridor_4 : decode cX4_stirCorridor 4 = .ok (.istore 6, 2) := by decide +kernel
theorem dX4_stirCorridor_6 : decode cX4_stirCorridor 6 = .ok (.iload 6, 2) := by decide +kernel
theorem dX4_stirCorridor_8 : decode cX4_stirCorridor 8 = .ok (.bipush 6, 2) := by decide +kernel
theorem dX4_stirCorridor_10 : decode cX4_stirCorridor 10 = .ok (.if_icmp .ge 23, 3) := by decide +kernel
theorem dX4_stirCorridor_13 : decode cX4_stirCorridor 13 = .ok (.lload 4, 2) := by decide +kernel
theorem dX4_stirCorridor_15 : decode cX4_stirCorridor 15 = .ok (.aload_n 2, 1) := by decide +kernel
theorem dX4_stirCorridor_16 : decode cX4_stirCorridor 16 = .ok (.iload_n 3, 1) := by decide +kernel
theorem dX4_stirCorridor_17 : decode cX4_stirCorridor 17 = .ok (.iload 6, 2) := by decide +kernel
theorem dX4_stirCorridor_19 : decode cX4_stirCorridor 19 = .ok (.invokevirtual 92, 3) := by decide +kernel
theorem dX4_stirCorridor_22 : decode cX4_stirCorridor 22 = .ok (.invokestatic 130, 3) := by decide +kernel
theorem dX4_stirCorridor_25 : decode cX4_stirCorridor 25 = .ok (.lstore 4, 2) := by decide +kernel
theorem dX4_stirCorridor_27 : decode cX4_stirCorridor 27 = .ok (.iinc 6 1, 3) := by decide +kernel
theorem dX4_stirCorridor_30 : decode cX4_stirCorridor 30 = .ok (.goto (-24), 3) := by decide +kernel
theorem dX4_stirCorridor_33 : decode cX4_stirCorridor 33 = .ok (.lload 4, 2) := by decide +kernel
theorem dX4_stirCorridor_35 : decode cX4_stirCorridor 35 = .ok (.lreturn, 1) := by decide +kernel
theorem dX4_stir_0 : decode cX4_stir 0 = .ok (.lload_n 0, 1) := by decide +kernel
theorem dX4_stir_1 : decode cX4_stir 1 = .ok (.ldc2_w 144, 3) := by decide +kernel
theorem dX4_stir_4 : decode cX4_stir 4 = .ok (.lmul, 1) := by decide +kernel
theorem dX4_stir_5 : decode cX4_stir 5 = .ok (.iload_n 2, 1) := by decide +kernel
theorem dX4_stir_6 : decode cX4_stir 6 = .ok (.i2l, 1) := by decide +kernel
theorem dX4_stir_7 : decode cX4_stir 7 = .ok (.ladd, 1) := by decide +kernel
theorem dX4_stir_8 : decode cX4_stir 8 = .ok (.lreturn, 1) := by decide +kernel
set_option maxRecDepth 20000 in
theorem ggX4_checkCell_X1_has : GoodIn wsX4_checkCell wsX1_has := goodIn_r _ [8, 9, 10, 11, 7, 12, 13, 14, 17, 18, 19, 20, 21] (by decide +kernel) (by decide +kernel)
set_option maxRecDepth 20000 in
theorem gX4_checkCell_X1_has : GoodIn wsX4_checkCell (wsV RX4 146 RX1 yX1_has wsX1_has) := goodIn_app (goodIn_of _ (by decide +kernel)) ggX4_checkCell_X1_has
theorem dX4_checkCell_0 : decode cX4_checkCell 0 = .ok (.aload_n 0, 1) := by decide +kernel
theorem dX4_checkCell_1 : decode cX4_checkCell 1 = .ok (.getfield 10, 3) := by decide +kernel
theorem dX4_checkCell_4 : decode cX4_checkCell 4 = .ok (.iload_n 1, 1) := by decide +kernel
theorem dX4_checkCell_5 : decode cX4_checkCell 5 = .ok (.invokevirtual 146, 3) := by decide +kernel
theorem dX4_checkCell_8 : decode cX4_checkCell 8 = .ok (.ifCond .ne 13, 3) := by decide +kernel
theorem dX4_checkCell_11 : decode cX4_checkCell 11 = .ok (.new 87, 3) := by decide +kernel
theorem dX4_checkCell_14 : decode cX4_checkCell 14 = .ok (.dup, 1) := by decide +kernel
theorem dX4_checkCell_15 : decode cX4_checkCell 15 = .ok (.ldc 149, 2) := by decide +kernel
theorem dX4_checkCell_17 : decode cX4_checkCell 17 = .ok (.invokespecial 91, 3) := by decide +kernel
theorem dX4_checkCell_20 : decode cX4_checkCell 20 = .ok (.athrow, 1) := by decide +kernel
theorem dX4_checkCell_21 : decode cX4_checkCell 21 = .ok (.return_, 1) := by decide +kernel
set_option maxRecDepth 20000 in
theorem ggX4_checkOpen_X1_isPillar : GoodIn wsX4_checkOpen wsX1_isPillar := goodIn_r _ [8, 9, 10, 11, 12, 15, 16, 17, 18, 19] (by decide +kernel) (by decide +kernel)
set_option maxRecDepth 20000 in
theorem gX4_checkOpen_X1_isPillar : GoodIn wsX4_checkOpen (wsV RX4 50 RX1 yX1_isPillar wsX1_isPillar) := goodIn_app (goodIn_of _ (by decide +kernel)) ggX4_checkOpen_X1_isPillar
theorem dX4_checkOpen_0 : decode cX4_checkOpen 0 = .ok (.aload_n 0, 1) := by decide +kernel
theorem dX4_checkOpen_1 : decode cX4_checkOpen 1 = .ok (.getfield 10, 3) := by decide +kernel
theorem dX4_checkOpen_4 : decode cX4_checkOpen 4 = .ok (.iload_n 1, 1) := by decide +kernel
theorem dX4_checkOpen_5 : decode cX4_checkOpen 5 = .ok (.invokevirtual 50, 3) := by decide +kernel
theorem dX4_checkOpen_8 : decode cX4_checkOpen 8 = .ok (.ifCond .eq 13, 3) := by decide +kernel
theorem dX4_checkOpen_11 : decode cX4_checkOpen 11 = .ok (.new 151, 3) := by decide +kernel
theorem dX4_checkOpen_14 : decode cX4_checkOpen 14 = .ok (.dup, 1) := by decide +kernel
theorem dX4_checkOpen_15 : decode cX4_checkOpen 15 = .ok (.ldc 153, 2) := by decide +kernel
theorem dX4_checkOpen_17 : decode cX4_checkOpen 17 = .ok (.invokespecial 155, 3) := by decide +kernel
theorem dX4_checkOpen_20 : decode cX4_checkOpen 20 = .ok (.athrow, 1) := by decide +kernel
theorem dX4_checkOpen_21 : decode cX4_checkOpen 21 = .ok (.return_, 1) := by decide +kernel
theorem dX4_checkPartition_0 : decode cX4_checkPartition 0 = .ok (.iload_n 0, 1) := by decide +kernel
theorem dX4_checkPartition_1 : decode cX4_checkPartition 1 = .ok (.iconst 1, 1) := by decide +kernel
theorem dX4_checkPartition_2 : decode cX4_checkPartition 2 = .ok (.if_icmp .lt 9, 3) := by decide +kernel
theorem dX4_checkPartition_5 : decode cX4_checkPartition 5 = .ok (.iload_n 0, 1) := by decide +kernel
theorem dX4_checkPartition_6 : decode cX4_checkPartition 6 = .ok (.bipush 9, 2) := by decide +kernel
theorem dX4_checkPartition_8 : decode cX4_checkPartition 8 = .ok (.if_icmp .le 13, 3) := by decide +kernel
theorem dX4_checkPartition_11 : decode cX4_checkPartition 11 = .ok (.new 25, 3) := by decide +kernel
theorem dX4_checkPartition_14 : decode cX4_checkPartition 14 = .ok (.dup, 1) := by decide +kernel
theorem dX4_checkPartition_15 : decode cX4_checkPartition 15 = .ok (.ldc 156, 2) := by decide +kernel
theorem dX4_checkPartition_17 : decode cX4_checkPartition 17 = .ok (.invokespecial 29, 3) := by decide +kernel
theorem dX4_checkPartition_20 : decode cX4_checkPartition 20 = .ok (.athrow, 1) := by decide +kernel
theorem dX4_checkPartition_21 : decode cX4_checkPartition 21 = .ok (.iload_n 1, 1) := by decide +kernel
theorem dX4_checkPartition_22 : decode cX4_checkPartition 22 = .ok (.iconst 1, 1) := by decide +kernel
theorem dX4_checkPartition_23 : decode cX4_checkPartition 23 = .ok (.if_icmp .lt 9, 3) := by decide +kernel
theorem dX4_checkPartition_26 : decode cX4_checkPartition 26 = .ok (.iload_n 1, 1) := by decide +kernel
theorem dX4_checkPartition_27 : decode cX4_checkPartition 27 = .ok (.bipush 45, 2) := by decide +kernel
theorem dX4_checkPartition_29 : decode cX4_checkPartition 29 = .ok (.if_icmp .le 13, 3) := by decide +kernel
theorem dX4_checkPartition_32 : decode cX4_checkPartition 32 = .ok (.new 25, 3) := by decide +kernel
theorem dX4_checkPartition_35 : decode cX4_checkPartition 35 = .ok (.dup, 1) := by decide +kernel
theorem dX4_checkPartition_36 : decode cX4_checkPartition 36 = .ok (.ldc 158, 2) := by decide +kernel
theorem dX4_checkPartition_38 : decode cX4_checkPartition 38 = .ok (.invokespecial 29, 3) := by decide +kernel
theorem dX4_checkPartition_41 : decode cX4_checkPartition 41 = .ok (.athrow, 1) := by decide +kernel
theorem dX4_checkPartition_42 : decode cX4_checkPartition 42 = .ok (.return_, 1) := by decide +kernel
set_option maxRecDepth 20000 in
theorem ggX4_isPartition_J6_bitCount_0f7a4 : GoodIn wsX4_isPartition wsJ6_bitCount_0f7a4 := goodIn_r _ [4, 5, 6, 7] (by decide +kernel) (by decide +kernel)
set_option maxRecDepth 20000 in
theorem gX4_isPartition_J6_bitCount_0f7a4 : GoodIn wsX4_isPartition (va_wsS RX4 160 yJ6_bitCount_0f7a4 wsJ6_bitCount_0f7a4) := goodIn_app (goodIn_of _ (by decide +kernel)) ggX4_isPartition_J6_bitCount_0f7a4
set_option maxRecDepth 20000 in
theorem ggX4_isPartition_X4_totalOf : GoodIn wsX4_isPartition wsX4_totalOf := goodIn_r _ [11, 12, 13, 10, 14] (by decide +kernel) (by decide +kernel)
set_option maxRecDepth 20000 in
theorem gX4_isPartition_X4_totalOf : GoodIn wsX4_isPartition (va_wsS RX4 165 yX4_totalOf wsX4_totalOf) := goodIn_app (goodIn_of _ (by decide +kernel)) ggX4_isPartition_X4_totalOf
theorem dX4_isPartition_0 : decode cX4_isPartition 0 = .ok (.iload_n 0, 1) := by decide +kernel
theorem dX4_isPartition_1 : decode cX4_isPartition 1 = .ok (.invokestatic 160, 3) := by decide +kernel
theorem dX4_isPartition_4 : decode cX4_isPartition 4 = .ok (.iload_n 1, 1) := by decide +kernel
theorem dX4_isPartition_5 : decode cX4_isPartition 5 = .ok (.if_icmp .ne 15, 3) := by decide +kernel
theorem dX4_isPartition_8 : decode cX4_isPartition 8 = .ok (.iload_n 0, 1) := by decide +kernel
theorem dX4_isPartition_9 : decode cX4_isPartition 9 = .ok (.invokestatic 165, 3) := by decide +kernel
theorem dX4_isPartition_12 : decode cX4_isPartition 12 = .ok (.iload_n 2, 1) := by decide +kernel
theorem dX4_isPartition_13 : decode cX4_isPartition 13 = .ok (.if_icmp .ne 7, 3) := by decide +kernel
theorem dX4_isPartition_16 : decode cX4_isPartition 16 = .ok (.iconst 1, 1) := by decide +kernel
theorem dX4_isPartition_17 : decode cX4_isPartition 17 = .ok (.goto 4, 3) := by decide +kernel
theorem dX4_isPartition_20 : decode cX4_isPartition 20 = .ok (.iconst 0, 1) := by decide +kernel
theorem dX4_isPartition_21 : decode cX4_isPartition 21 = .ok (.ireturn, 1) := by decide +kernel
set_option maxRecDepth 20000 in
theorem ggX4_totalOf_X4_hasNumber : GoodIn wsX4_totalOf wsX4_hasNumber := goodIn_r _ [4] (by decide +kernel) (by decide +kernel)
set_option maxRecDepth 20000 in
theorem gX4_totalOf_X4_hasNumber : GoodIn wsX4_totalOf (va_wsS RX4 168 yX4_hasNumber wsX4_hasNumber) := goodIn_app (goodIn_of _ (by decide +kernel)) ggX4_totalOf_X4_hasNumber
theorem dX4_totalOf_0 : decode cX4_totalOf 0 = .ok (.iconst 0, 1) := by decide +kernel
theorem dX4_totalOf_1 : decode cX4_totalOf 1 = .ok (.istore_n 1, 1) := by decide +kernel
theorem dX4_totalOf_2 : decode cX4_totalOf 2 = .ok (.iconst 1, 1) := by decide +kernel
theorem dX4_totalOf_3 : decode cX4_totalOf 3 = .ok (.istore_n 2, 1) := by decide +kernel
theorem dX4_totalOf_4 : decode cX4_totalOf 4 = .ok (.iload_n 2, 1) := by decide +kernel
theorem dX4_totalOf_5 : decode cX4_totalOf 5 = .ok (.bipush 9, 2) := by decide +kernel
theorem dX4_totalOf_7 : decode cX4_totalOf 7 = .ok (.if_icmp .gt 21, 3) := by decide +kernel
theorem dX4_totalOf_10 : decode cX4_totalOf 10 = .ok (.iload_n 0, 1) := by decide +kernel
theorem dX4_totalOf_11 : decode cX4_totalOf 11 = .ok (.iload_n 2, 1) := by decide +kernel
theorem dX4_totalOf_12 : decode cX4_totalOf 12 = .ok (.invokestatic 168, 3) := by decide +kernel
theorem dX4_totalOf_15 : decode cX4_totalOf 15 = .ok (.ifCond .eq 7, 3) := by decide +kernel
theorem dX4_totalOf_18 : decode cX4_totalOf 18 = .ok (.iload_n 1, 1) := by decide +kernel
theorem dX4_totalOf_19 : decode cX4_totalOf 19 = .ok (.iload_n 2, 1) := by decide +kernel
theorem dX4_totalOf_20 : decode cX4_totalOf 20 = .ok (.iadd, 1) := by decide +kernel
theorem dX4_totalOf_21 : decode cX4_totalOf 21 = .ok (.istore_n 1, 1) := by decide +kernel
theorem dX4_totalOf_22 : decode cX4_totalOf 22 = .ok (.iinc 2 1, 3) := by decide +kernel
theorem dX4_totalOf_25 : decode cX4_totalOf 25 = .ok (.goto (-21), 3) := by decide +kernel
theorem dX4_totalOf_28 : decode cX4_totalOf 28 = .ok (.iload_n 1, 1) := by decide +kernel
theorem dX4_totalOf_29 : decode cX4_totalOf 29 = .ok (.ireturn, 1) := by decide +kernel
set_option maxRecDepth 20000 in
theorem ggX4_smallestOf_X4_hasNumber : GoodIn wsX4_smallestOf wsX4_hasNumber := goodIn_r _ [4] (by decide +kernel) (by decide +kernel)
set_option maxRecDepth 20000 in
theorem gX4_smallestOf_X4_hasNumber : GoodIn wsX4_smallestOf (va_wsS RX4 168 yX4_hasNumber wsX4_hasNumber) := goodIn_app (goodIn_of _ (by decide +kernel)) ggX4_smallestOf_X4_hasNumber
theorem dX4_smallestOf_0 : decode cX4_smallestOf 0 = .ok (.iconst 1, 1) := by decide +kernel
theorem dX4_smallestOf_1 : decode cX4_smallestOf 1 = .ok (.istore_n 1, 1) := by decide +kernel
theorem dX4_smallestOf_2 : decode cX4_smallestOf 2 = .ok (.iload_n 1, 1) := by decide +kernel
theorem dX4_smallestOf_3 : decode cX4_smallestOf 3 = .ok (.bipush 9, 2) := by decide +kernel
theorem dX4_smallestOf_5 : decode cX4_smallestOf 5 = .ok (.if_icmp .gt 19, 3) := by decide +kernel
theorem dX4_smallestOf_8 : decode cX4_smallestOf 8 = .ok (.iload_n 0, 1) := by decide +kernel
theorem dX4_smallestOf_9 : decode cX4_smallestOf 9 = .ok (.iload_n 1, 1) := by decide +kernel
theorem dX4_smallestOf_10 : decode cX4_smallestOf 10 = .ok (.invokestatic 168, 3) := by decide +kernel
theorem dX4_smallestOf_13 : decode cX4_smallestOf 13 = .ok (.ifCond .eq 5, 3) := by decide +kernel
theorem dX4_smallestOf_16 : decode cX4_smallestOf 16 = .ok (.iload_n 1, 1) := by decide +kernel
theorem dX4_smallestOf_17 : decode cX4_smallestOf 17 = .ok (.ireturn, 1) := by decide +kernel
theorem dX4_smallestOf_18 : decode cX4_smallestOf 18 = .ok (.iinc 1 1, 3) := by decide +kernel
theorem dX4_smallestOf_21 : decode cX4_smallestOf 21 = .ok (.goto (-19), 3) := by decide +kernel
theorem dX4_smallestOf_24 : decode cX4_smallestOf 24 = .ok (.iconst 0, 1) := by decide +kernel
theorem dX4_smallestOf_25 : decode cX4_smallestOf 25 = .ok (.ireturn, 1) := by decide +kernel
theorem dX4_hasNumber_0 : decode cX4_hasNumber 0 = .ok (.iload_n 0, 1) := by decide +kernel
theorem dX4_hasNumber_1 : decode cX4_hasNumber 1 = .ok (.iconst 1, 1) := by decide +kernel
theorem dX4_hasNumber_2 : decode cX4_hasNumber 2 = .ok (.iload_n 1, 1) := by decide +kernel
theorem dX4_hasNumber_3 : decode cX4_hasNumber 3 = .ok (.ishl, 1) := by decide +kernel
theorem dX4_hasNumber_4 : decode cX4_hasNumber 4 = .ok (.iand, 1) := by decide +kernel
theorem dX4_hasNumber_5 : decode cX4_hasNumber 5 = .ok (.ifCond .eq 7, 3) := by decide +kernel
theorem dX4_hasNumber_8 : decode cX4_hasNumber 8 = .ok (.iconst 1, 1) := by decide +kernel
theorem dX4_hasNumber_9 : decode cX4_hasNumber 9 = .ok (.goto 4, 3) := by decide +kernel
theorem dX4_hasNumber_12 : decode cX4_hasNumber 12 = .ok (.iconst 0, 1) := by decide +kernel
theorem dX4_hasNumber_13 : decode cX4_hasNumber 13 = .ok (.ireturn, 1) := by decide +kernel
theorem dX4_read_0 : decode cX4_read 0 = .ok (.iload_n 1, 1) := by decide +kernel
theorem dX4_read_1 : decode cX4_read 1 = .ok (.ifCond .lt 15, 3) := by decide +kernel
theorem dX4_read_4 : decode cX4_read 4 = .ok (.iload_n 1, 1) := by decide +kernel
theorem dX4_read_5 : decode cX4_read 5 = .ok (.aload_n 0, 1) := by decide +kernel
theorem dX4_read_6 : decode cX4_read 6 = .ok (.arraylength, 1) := by decide +kernel
theorem dX4_read_7 : decode cX4_read 7 = .ok (.if_icmp .ge 9, 3) := by decide +kernel
theorem dX4_read_10 : decode cX4_read 10 = .ok (.aload_n 0, 1) := by decide +kernel
theorem dX4_read_11 : decode cX4_read 11 = .ok (.iload_n 1, 1) := by decide +kernel
theorem dX4_read_12 : decode cX4_read 12 = .ok (.iaload, 1) := by decide +kernel
theorem dX4_read_13 : decode cX4_read 13 = .ok (.goto 4, 3) := by decide +kernel
theorem dX4_read_16 : decode cX4_read 16 = .ok (.iconst 0, 1) := by decide +kernel
theorem dX4_read_17 : decode cX4_read 17 = .ok (.ireturn, 1) := by decide +kernel
theorem dX4_write_0 : decode cX4_write 0 = .ok (.iload_n 1, 1) := by decide +kernel
theorem dX4_write_1 : decode cX4_write 1 = .ok (.ifCond .lt 13, 3) := by decide +kernel
theorem dX4_write_4 : decode cX4_write 4 = .ok (.iload_n 1, 1) := by decide +kernel
theorem dX4_write_5 : decode cX4_write 5 = .ok (.aload_n 0, 1) := by decide +kernel
theorem dX4_write_6 : decode cX4_write 6 = .ok (.arraylength, 1) := by decide +kernel
theorem dX4_write_7 : decode cX4_write 7 = .ok (.if_icmp .ge 7, 3) := by decide +kernel
theorem dX4_write_10 : decode cX4_write 10 = .ok (.aload_n 0, 1) := by decide +kernel
theorem dX4_write_11 : decode cX4_write 11 = .ok (.iload_n 1, 1) := by decide +kernel
theorem dX4_write_12 : decode cX4_write 12 = .ok (.iload_n 2, 1) := by decide +kernel
theorem dX4_write_13 : decode cX4_write 13 = .ok (.iastore, 1) := by decide +kernel
theorem dX4_write_14 : decode cX4_write 14 = .ok (.return_, 1) := by decide +kernel
set_option maxRecDepth 20000 in
theorem ggX5_init_J6_bitCount_0f7a4 : GoodIn wsX5_init wsJ6_bitCount_0f7a4 := goodIn_r _ [16, 17, 18, 19] (by decide +kernel) (by decide +kernel)
set_option maxRecDepth 20000 in
theorem gX5_init_J6_bitCount_0f7a4 : GoodIn wsX5_init (va_wsS RX5 35 yJ6_bitCount_0f7a4 wsJ6_bitCount_0f7a4) := goodIn_app (goodIn_of _ (by decide +kernel)) ggX5_init_J6_bitCount_0f7a4
set_option maxRecDepth 20000 in
theorem ggX5_init_X5_sumOf : GoodIn wsX5_init wsX5_sumOf := goodIn_r _ [23] (by decide +kernel) (by decide +kernel)
set_option maxRecDepth 20000 in
theorem gX5_init_X5_sumOf : GoodIn wsX5_init (va_wsS RX5 41 yX5_sumOf wsX5_sumOf) := goodIn_app (goodIn_of _ (by decide +kernel)) ggX5_init_X5_sumOf
set_option maxRecDepth 20000 in
theorem ggX5_init_X5_link : GoodIn wsX5_init wsX5_link := goodIn_r _ [27, 4, 5, 9, 7, 28, 29, 30, 31, 32, 33, 34, 35, 36, 37, 38, 39] (by decide +kernel) (by decide +kernel)
set_option maxRecDepth 20000 in
theorem gX5_init_X5_link : GoodIn wsX5_init (wsV RX5 44 RX5 yX5_link wsX5_link) := goodIn_app (goodIn_of _ (by decide +kernel)) ggX5_init_X5_link
end
section
theorem dX5_init_0 : decode cX5_init 0 = .ok (.aload_n 0, 1) := by decide +kernel
theorem dX5_init_1 : decode cX5_init 1 = .ok (.invokespecial 1, 3) := by decide +kernel
theorem dX5_init_4 : decode cX5_init 4 = .ok (.aload_n 0, 1) := by decide +kernel
theorem dX5_init_5 : decode cX5_init 5 = .ok (.iconst 4, 1) := by decide +kernel
theorem dX5_init_6 : decode cX5_init 6 = .ok (.putfield 7, 3) := by decide +kernel
theorem dX5_init_9 : decode cX5_init 9 = .ok (.aload_n 0, 1) := by decide +kernel
theorem dX5_init_10 : decode cX5_init 10 = .ok (.iconst 4, 1) := by decide +kernel
theorem dX5_init_11 : decode cX5_init 11 = .ok (.putfield 13, 3) := by decide +kernel
theorem dX5_init_14 : decode cX5_init 14 = .ok (.aload_n 0, 1) := by decide +kernel
theorem dX5_init_15 : decode cX5_init 15 = .ok (.bipush 36, 2) := by decide +kernel
theorem dX5_init_17 : decode cX5_init 17 = .ok (.newarray .int, 2) := by decide +kernel
theorem dX5_init_19 : decode cX5_init 19 = .ok (.putfield 16, 3) := by decide +kernel
theorem dX5_init_22 : decode cX5_init 22 = .ok (.aload_n 0, 1) := by decide +kernel
theorem dX5_init_23 : decode cX5_init 23 = .ok (.bipush 72, 2) := by decide +kernel
theorem dX5_init_25 : decode cX5_init 25 = .ok (.newarray .int, 2) := by decide +kernel
theorem dX5_init_27 : decode cX5_init 27 = .ok (.putfield 20, 3) := by decide +kernel
theorem dX5_init_30 : decode cX5_init 30 = .ok (.aload_n 0, 1) := by decide +kernel
theorem dX5_init_31 : decode cX5_init 31 = .ok (.bipush 72, 2) := by decide +kernel
theorem dX5_init_33 : decode cX5_init 33 = .ok (.newarray .int, 2) := by decide +kernel
theorem dX5_init_35 : decode cX5_init 35 = .ok (.putfield 23, 3) := by decide +kernel
theorem dX5_init_38 : decode cX5_init 38 = .ok (.aload_n 0, 1) := by decide +kernel
theorem dX5_init_39 : decode cX5_init 39 = .ok (.sipush 512, 3) := by decide +kernel
theorem dX5_init_42 : decode cX5_init 42 = .ok (.newarray .int, 2) := by decide +kernel
theorem dX5_init_44 : decode cX5_init 44 = .ok (.putfield 26, 3) := by decide +kernel
theorem dX5_init_47 : decode cX5_init 47 = .ok (.aload_n 0, 1) := by decide +kernel
theorem dX5_init_48 : decode cX5_init 48 = .ok (.sipush 461, 3) := by decide +kernel
theorem dX5_init_51 : decode cX5_init 51 = .ok (.newarray .int, 2) := by decide +kernel
theorem dX5_init_53 : decode cX5_init 53 = .ok (.putfield 29, 3) := by decide +kernel
theorem dX5_init_56 : decode cX5_init 56 = .ok (.aload_n 0, 1) := by decide +kernel
theorem dX5_init_57 : decode cX5_init 57 = .ok (.bipush 36, 2) := by decide +kernel
theorem dX5_init_59 : decode cX5_init 59 = .ok (.newarray .int, 2) := by decide +kernel
theorem dX5_init_61 : decode cX5_init 61 = .ok (.putfield 32, 3) := by decide +kernel
theorem dX5_init_64 : decode cX5_init 64 = .ok (.iconst 0, 1) := by decide +kernel
theorem dX5_init_65 : decode cX5_init 65 = .ok (.istore_n 1, 1) := by decide +kernel
theorem dX5_init_66 : decode cX5_init 66 = .ok (.iconst 0, 1) := by decide +kernel
theorem dX5_init_67 : decode cX5_init 67 = .ok (.istore_n 2, 1) := by decide +kernel
theorem dX5_init_68 : decode cX5_init 68 = .ok (.iload_n 2, 1) := by decide +kernel
theorem dX5_init_69 : decode cX5_init 69 = .ok (.sipush 460, 3) := by decide +kernel
theorem dX5_init_72 : decode cX5_init 72 = .ok (.if_icmp .ge 66, 3) := by decide +kernel
theorem dX5_init_75 : decode cX5_init 75 = .ok (.aload_n 0, 1) := by decide +kernel
theorem dX5_init_76 : decode cX5_init 76 = .ok (.getfield 29, 3) := by decide +kernel
theorem dX5_init_79 : decode cX5_init 79 = .ok (.iload_n 2, 1) := by decide +kernel
theorem dX5_init_80 : decode cX5_init 80 = .ok (.iload_n 1, 1) := by decide +kernel
theorem dX5_init_81 : decode cX5_init 81 = .ok (.iastore, 1) := by decide +kernel
theorem dX5_init_82 : decode cX5_init 82 = .ok (.iconst 0, 1) := by decide +kernel
theorem dX5_init_83 : decode cX5_init 83 = .ok (.istore_n 3, 1) := by decide +kernel
theorem dX5_init_84 : decode cX5_init 84 = .ok (.iload_n 3, 1) := by decide +kernel
theorem dX5_init_85 : decode cX5_init 85 = .ok (.sipush 1024, 3) := by decide +kernel
theorem dX5_init_88 : decode cX5_init 88 = .ok (.if_icmp .ge 44, 3) := by decide +kernel
theorem dX5_init_91 : decode cX5_init 91 = .ok (.iload_n 3, 1) := by decide +kernel
theorem dX5_init_92 : decode cX5_init 92 = .ok (.invokestatic 35, 3) := by decide +kernel
theorem dX5_init_95 : decode cX5_init 95 = .ok (.iload_n 2, 1) := by decide +kernel
theorem dX5_init_96 : decode cX5_init 96 = .ok (.bipush 46, 2) := by decide +kernel
theorem dX5_init_98 : decode cX5_init 98 = .ok (.idiv, 1) := by decide +kernel
theorem dX5_init_99 : decode cX5_init 99 = .ok (.if_icmp .ne 27, 3) := by decide +kernel
theorem dX5_init_102 : decode cX5_init 102 = .ok (.iload_n 3, 1) := by decide +kernel
theorem dX5_init_103 : decode cX5_init 103 = .ok (.invokestatic 41, 3) := by decide +kernel
theorem dX5_init_106 : decode cX5_init 106 = .ok (.iload_n 2, 1) := by decide +kernel
theorem dX5_init_107 : decode cX5_init 107 = .ok (.bipush 46, 2) := by decide +kernel
theorem dX5_init_109 : decode cX5_init 109 = .ok (.irem, 1) := by decide +kernel
theorem dX5_init_110 : decode cX5_init 110 = .ok (.if_icmp .eq 6, 3) := by decide +kernel
theorem dX5_init_113 : decode cX5_init 113 = .ok (.goto 13, 3) := by decide +kernel
theorem dX5_init_116 : decode cX5_init 116 = .ok (.aload_n 0, 1) := by decide +kernel
theorem dX5_init_117 : decode cX5_init 117 = .ok (.getfield 26, 3) := by decide +kernel
theorem dX5_init_120 : decode cX5_init 120 = .ok (.iload_n 1, 1) := by decide +kernel
theorem dX5_init_121 : decode cX5_init 121 = .ok (.iload_n 3, 1) := by decide +kernel
theorem dX5_init_122 : decode cX5_init 122 = .ok (.iastore, 1) := by decide +kernel
theorem dX5_init_123 : decode cX5_init 123 = .ok (.iinc 1 1, 3) := by decide +kernel
theorem dX5_init_126 : decode cX5_init 126 = .ok (.iinc 3 2, 3) := by decide +kernel
theorem dX5_init_129 : decode cX5_init 129 = .ok (.goto (-45), 3) := by decide +kernel
theorem dX5_init_132 : decode cX5_init 132 = .ok (.iinc 2 1, 3) := by decide +kernel
theorem dX5_init_135 : decode cX5_init 135 = .ok (.goto (-67), 3) := by decide +kernel
theorem dX5_init_138 : decode cX5_init 138 = .ok (.aload_n 0, 1) := by decide +kernel
theorem dX5_init_139 : decode cX5_init 139 = .ok (.getfield 29, 3) := by decide +kernel
theorem dX5_init_142 : decode cX5_init 142 = .ok (.sipush 460, 3) := by decide +kernel
theorem dX5_init_145 : decode cX5_init 145 = .ok (.iload_n 1, 1) := by decide +kernel
theorem dX5_init_146 : decode cX5_init 146 = .ok (.iastore, 1) := by decide +kernel
theorem dX5_init_147 : decode cX5_init 147 = .ok (.aload_n 0, 1) := by decide +kernel
theorem dX5_init_148 : decode cX5_init 148 = .ok (.invokevirtual 44, 3) := by decide +kernel
theorem dX5_init_151 : decode cX5_init 151 = .ok (.return_, 1) := by decide +kernel
theorem dX5_thrown_0 : decode cX5_thrown 0 = .ok (.aload_n 0, 1) := by decide +kernel
theorem dX5_thrown_1 : decode cX5_thrown 1 = .ok (.getfield 47, 3) := by decide +kernel
theorem dX5_thrown_4 : decode cX5_thrown 4 = .ok (.ireturn, 1) := by decide +kernel
theorem dX5_no_0 : decode cX5_no 0 = .ok (.aload_n 0, 1) := by decide +kernel
theorem dX5_no_1 : decode cX5_no 1 = .ok (.iload_n 1, 1) := by decide +kernel
theorem dX5_no_2 : decode cX5_no 2 = .ok (.putfield 47, 3) := by decide +kernel
theorem dX5_no_5 : decode cX5_no 5 = .ok (.iconst 0, 1) := by decide +kernel
theorem dX5_no_6 : decode cX5_no 6 = .ok (.ireturn, 1) := by decide +kernel
theorem dX5_isIn_0 : decode cX5_isIn 0 = .ok (.iload_n 0, 1) := by decide +kernel
theorem dX5_isIn_1 : decode cX5_isIn 1 = .ok (.iload_n 1, 1) := by decide +kernel
theorem dX5_isIn_2 : decode cX5_isIn 2 = .ok (.if_icmp .lt 12, 3) := by decide +kernel
theorem dX5_isIn_5 : decode cX5_isIn 5 = .ok (.iload_n 0, 1) := by decide +kernel
theorem dX5_isIn_6 : decode cX5_isIn 6 = .ok (.iload_n 2, 1) := by decide +kernel
theorem dX5_isIn_7 : decode cX5_isIn 7 = .ok (.if_icmp .gt 7, 3) := by decide +kernel
theorem dX5_isIn_10 : decode cX5_isIn 10 = .ok (.iconst 1, 1) := by decide +kernel
theorem dX5_isIn_11 : decode cX5_isIn 11 = .ok (.goto 4, 3) := by decide +kernel
theorem dX5_isIn_14 : decode cX5_isIn 14 = .ok (.iconst 0, 1) := by decide +kernel
theorem dX5_isIn_15 : decode cX5_isIn 15 = .ok (.ireturn, 1) := by decide +kernel
set_option maxRecDepth 20000 in
theorem ggX5_isCell_X5_isIn : GoodIn wsX5_isCell wsX5_isIn := goodIn_r _ [6] (by decide +kernel) (by decide +kernel)
set_option maxRecDepth 20000 in
theorem gX5_isCell_X5_isIn : GoodIn wsX5_isCell (va_wsS RX5 50 yX5_isIn wsX5_isIn) := goodIn_app (goodIn_of _ (by decide +kernel)) ggX5_isCell_X5_isIn
theorem dX5_isCell_0 : decode cX5_isCell 0 = .ok (.iload_n 1, 1) := by decide +kernel
theorem dX5_isCell_1 : decode cX5_isCell 1 = .ok (.iconst 0, 1) := by decide +kernel
theorem dX5_isCell_2 : decode cX5_isCell 2 = .ok (.aload_n 0, 1) := by decide +kernel
theorem dX5_isCell_3 : decode cX5_isCell 3 = .ok (.getfield 7, 3) := by decide +kernel
theorem dX5_isCell_6 : decode cX5_isCell 6 = .ok (.aload_n 0, 1) := by decide +kernel
theorem dX5_isCell_7 : decode cX5_isCell 7 = .ok (.getfield 13, 3) := by decide +kernel
theorem dX5_isCell_10 : decode cX5_isCell 10 = .ok (.imul, 1) := by decide +kernel
theorem dX5_isCell_11 : decode cX5_isCell 11 = .ok (.iconst 1, 1) := by decide +kernel
theorem dX5_isCell_12 : decode cX5_isCell 12 = .ok (.isub, 1) := by decide +kernel
theorem dX5_isCell_13 : decode cX5_isCell 13 = .ok (.invokestatic 50, 3) := by decide +kernel
theorem dX5_isCell_16 : decode cX5_isCell 16 = .ok (.ireturn, 1) := by decide +kernel
theorem dX5_sumOf_0 : decode cX5_sumOf 0 = .ok (.iconst 0, 1) := by decide +kernel
theorem dX5_sumOf_1 : decode cX5_sumOf 1 = .ok (.istore_n 1, 1) := by decide +kernel
theorem dX5_sumOf_2 : decode cX5_sumOf 2 = .ok (.iconst 1, 1) := by decide +kernel
theorem dX5_sumOf_3 : decode cX5_sumOf 3 = .ok (.istore_n 2, 1) := by decide +kernel
theorem dX5_sumOf_4 : decode cX5_sumOf 4 = .ok (.iload_n 2, 1) := by decide +kernel
theorem dX5_sumOf_5 : decode cX5_sumOf 5 = .ok (.bipush 9, 2) := by decide +kernel
theorem dX5_sumOf_7 : decode cX5_sumOf 7 = .ok (.if_icmp .gt 19, 3) := by decide +kernel
theorem dX5_sumOf_10 : decode cX5_sumOf 10 = .ok (.iload_n 1, 1) := by decide +kernel
theorem dX5_sumOf_11 : decode cX5_sumOf 11 = .ok (.iload_n 0, 1) := by decide +kernel
theorem dX5_sumOf_12 : decode cX5_sumOf 12 = .ok (.iload_n 2, 1) := by decide +kernel
theorem dX5_sumOf_13 : decode cX5_sumOf 13 = .ok (.ishr, 1) := by decide +kernel
theorem dX5_sumOf_14 : decode cX5_sumOf 14 = .ok (.iconst 1, 1) := by decide +kernel
theorem dX5_sumOf_15 : decode cX5_sumOf 15 = .ok (.iand, 1) := by decide +kernel
theorem dX5_sumOf_16 : decode cX5_sumOf 16 = .ok (.iload_n 2, 1) := by decide +kernel
theorem dX5_sumOf_17 : decode cX5_sumOf 17 = .ok (.imul, 1) := by decide +kernel
theorem dX5_sumOf_18 : decode cX5_sumOf 18 = .ok (.iadd, 1) := by decide +kernel
theorem dX5_sumOf_19 : decode cX5_sumOf 19 = .ok (.istore_n 1, 1) := by decide +kernel
theorem dX5_sumOf_20 : decode cX5_sumOf 20 = .ok (.iinc 2 1, 3) := by decide +kernel
theorem dX5_sumOf_23 : decode cX5_sumOf 23 = .ok (.goto (-19), 3) := by decide +kernel
theorem dX5_sumOf_26 : decode cX5_sumOf 26 = .ok (.iload_n 1, 1) := by decide +kernel
theorem dX5_sumOf_27 : decode cX5_sumOf 27 = .ok (.ireturn, 1) := by decide +kernel
theorem dX5_behind_0 : decode cX5_behind 0 = .ok (.iload_n 2, 1) := by decide +kernel
theorem dX5_behind_1 : decode cX5_behind 1 = .ok (.iconst 1, 1) := by decide +kernel
theorem dX5_behind_2 : decode cX5_behind 2 = .ok (.if_icmp .ne 32, 3) := by decide +kernel
theorem dX5_behind_5 : decode cX5_behind 5 = .ok (.iload_n 1, 1) := by decide +kernel
theorem dX5_behind_6 : decode cX5_behind 6 = .ok (.aload_n 0, 1) := by decide +kernel
theorem dX5_behind_7 : decode cX5_behind 7 = .ok (.getfield 7, 3) := by decide +kernel
theorem dX5_behind_10 : decode cX5_behind 10 = .ok (.iadd, 1) := by decide +kernel
theorem dX5_behind_11 : decode cX5_behind 11 = .ok (.aload_n 0, 1) := by decide +kernel
theorem dX5_behind_12 : decode cX5_behind 12 = .ok (.getfield 7, 3) := by decide +kernel
theorem dX5_behind_15 : decode cX5_behind 15 = .ok (.aload_n 0, 1) := by decide +kernel
theorem dX5_behind_16 : decode cX5_behind 16 = .ok (.getfield 13, 3) := by decide +kernel
theorem dX5_behind_19 : decode cX5_behind 19 = .ok (.imul, 1) := by decide +kernel
theorem dX5_behind_20 : decode cX5_behind 20 = .ok (.if_icmp .ge 12, 3) := by decide +kernel
theorem dX5_behind_23 : decode cX5_behind 23 = .ok (.iload_n 1, 1) := by decide +kernel
theorem dX5_behind_24 : decode cX5_behind 24 = .ok (.aload_n 0, 1) := by decide +kernel
theorem dX5_behind_25 : decode cX5_behind 25 = .ok (.getfield 7, 3) := by decide +kernel
theorem dX5_behind_28 : decode cX5_behind 28 = .ok (.iadd, 1) := by decide +kernel
theorem dX5_behind_29 : decode cX5_behind 29 = .ok (.goto 4, 3) := by decide +kernel
theorem dX5_behind_32 : decode cX5_behind 32 = .ok (.iconst (-1), 1) := by decide +kernel
theorem dX5_behind_33 : decode cX5_behind 33 = .ok (.ireturn, 1) := by decide +kernel
theorem dX5_behind_34 : decode cX5_behind 34 = .ok (.iload_n 1, 1) := by decide +kernel
theorem dX5_behind_35 : decode cX5_behind 35 = .ok (.aload_n 0, 1) := by decide +kernel
theorem dX5_behind_36 : decode cX5_behind 36 = .ok (.getfield 7, 3) := by decide +kernel
theorem dX5_behind_39 : decode cX5_behind 39 = .ok (.irem, 1) := by decide +kernel
theorem dX5_behind_40 : decode cX5_behind 40 = .ok (.iconst 1, 1) := by decide +kernel
theorem dX5_behind_41 : decode cX5_behind 41 = .ok (.iadd, 1) := by decide +kernel
theorem dX5_behind_42 : decode cX5_behind 42 = .ok (.aload_n 0, 1) := by decide +kernel
theorem dX5_behind_43 : decode cX5_behind 43 = .ok (.getfield 7, 3) := by decide +kernel
theorem dX5_behind_46 : decode cX5_behind 46 = .ok (.if_icmp .ge 9, 3) := by decide +kernel
theorem dX5_behind_49 : decode cX5_behind 49 = .ok (.iload_n 1, 1) := by decide +kernel
theorem dX5_behind_50 : decode cX5_behind 50 = .ok (.iconst 1, 1) := by decide +kernel
theorem dX5_behind_51 : decode cX5_behind 51 = .ok (.iadd, 1) := by decide +kernel
theorem dX5_behind_52 : decode cX5_behind 52 = .ok (.goto 4, 3) := by decide +kernel
theorem dX5_behind_55 : decode cX5_behind 55 = .ok (.iconst (-1), 1) := by decide +kernel
theorem dX5_behind_56 : decode cX5_behind 56 = .ok (.ireturn, 1) := by decide +kernel
theorem dX5_link_0 : decode cX5_link 0 = .ok (.iconst 0, 1) := by decide +kernel
theorem dX5_link_1 : decode cX5_link 1 = .ok (.istore_n 1, 1) := by decide +kernel
theorem dX5_link_2 : decode cX5_link 2 = .ok (.iload_n 1, 1) := by decide +kernel
theorem dX5_link_3 : decode cX5_link 3 = .ok (.iconst 1, 1) := by decide +kernel
theorem dX5_link_4 : decode cX5_link 4 = .ok (.if_icmp .gt 101, 3) := by decide +kernel
theorem dX5_link_7 : decode cX5_link 7 = .ok (.iconst 0, 1) := by decide +kernel
theorem dX5_link_8 : decode cX5_link 8 = .ok (.istore_n 2, 1) := by decide +kernel
theorem dX5_link_9 : decode cX5_link 9 = .ok (.iload_n 2, 1) := by decide +kernel
theorem dX5_link_10 : decode cX5_link 10 = .ok (.aload_n 0, 1) := by decide +kernel
theorem dX5_link_11 : decode cX5_link 11 = .ok (.getfield 7, 3) := by decide +kernel
theorem dX5_link_14 : decode cX5_link 14 = .ok (.aload_n 0, 1) := by decide +kernel
theorem dX5_link_15 : decode cX5_link 15 = .ok (.getfield 13, 3) := by decide +kernel
theorem dX5_link_18 : decode cX5_link 18 = .ok (.imul, 1) := by decide +kernel
theorem dX5_link_19 : decode cX5_link 19 = .ok (.if_icmp .ge 80, 3) := by decide +kernel
theorem dX5_link_22 : decode cX5_link 22 = .ok (.iload_n 1, 1) := by decide +kernel
theorem dX5_link_23 : decode cX5_link 23 = .ok (.iconst 1, 1) := by decide +kernel
theorem dX5_link_24 : decode cX5_link 24 = .ok (.if_icmp .ne 12, 3) := by decide +kernel
theorem dX5_link_27 : decode cX5_link 27 = .ok (.iload_n 2, 1) := by decide +kernel
theorem dX5_link_28 : decode cX5_link 28 = .ok (.aload_n 0, 1) := by decide +kernel
theorem dX5_link_29 : decode cX5_link 29 = .ok (.getfield 7, 3) := by decide +kernel
theorem dX5_link_32 : decode cX5_link 32 = .ok (.isub, 1) := by decide +kernel
theorem dX5_link_33 : decode cX5_link 33 = .ok (.goto 19, 3) := by decide +kernel
theorem dX5_link_36 : decode cX5_link 36 = .ok (.iload_n 2, 1) := by decide +kernel
theorem dX5_link_37 : decode cX5_link 37 = .ok (.aload_n 0, 1) := by decide +kernel
theorem dX5_link_38 : decode cX5_link 38 = .ok (.getfield 7, 3) := by decide +kernel
theorem dX5_link_41 : decode cX5_link 41 = .ok (.irem, 1) := by decide +kernel
theorem dX5_link_42 : decode cX5_link 42 = .ok (.ifCond .ne 7, 3) := by decide +kernel
theorem dX5_link_45 : decode cX5_link 45 = .ok (.iconst (-1), 1) := by decide +kernel
theorem dX5_link_46 : decode cX5_link 46 = .ok (.goto 6, 3) := by decide +kernel
theorem dX5_link_49 : decode cX5_link 49 = .ok (.iload_n 2, 1) := by decide +kernel
theorem dX5_link_50 : decode cX5_link 50 = .ok (.iconst 1, 1) := by decide +kernel
theorem dX5_link_51 : decode cX5_link 51 = .ok (.isub, 1) := by decide +kernel
theorem dX5_link_52 : decode cX5_link 52 = .ok (.istore_n 3, 1) := by decide +kernel
theorem dX5_link_53 : decode cX5_link 53 = .ok (.aload_n 0, 1) := by decide +kernel
theorem dX5_link_54 : decode cX5_link 54 = .ok (.getfield 23, 3) := by decide +kernel
theorem dX5_link_57 : decode cX5_link 57 = .ok (.bipush 36, 2) := by decide +kernel
theorem dX5_link_59 : decode cX5_link 59 = .ok (.iload_n 1, 1) := by decide +kernel
theorem dX5_link_60 : decode cX5_link 60 = .ok (.imul, 1) := by decide +kernel
theorem dX5_link_61 : decode cX5_link 61 = .ok (.iload_n 2, 1) := by decide +kernel
theorem dX5_link_62 : decode cX5_link 62 = .ok (.iadd, 1) := by decide +kernel
theorem dX5_link_63 : decode cX5_link 63 = .ok (.iload_n 3, 1) := by decide +kernel
theorem dX5_link_64 : decode cX5_link 64 = .ok (.ifCond .lt 13, 3) := by decide +kernel
theorem dX5_link_67 : decode cX5_link 67 = .ok (.aload_n 0, 1) := by decide +kernel
theorem dX5_link_68 : decode cX5_link 68 = .ok (.getfield 16, 3) := by decide +kernel
theorem dX5_link_71 : decode cX5_link 71 = .ok (.iload_n 3, 1) := by decide +kernel
theorem dX5_link_72 : decode cX5_link 72 = .ok (.iaload, 1) := by decide +kernel
theorem dX5_link_73 : decode cX5_link 73 = .ok (.iconst (-1), 1) := by decide +kernel
theorem dX5_link_74 : decode cX5_link 74 = .ok (.if_icmp .ne 7, 3) := by decide +kernel
theorem dX5_link_77 : decode cX5_link 77 = .ok (.iload_n 2, 1) := by decide +kernel
theorem dX5_link_78 : decode cX5_link 78 = .ok (.goto 14, 3) := by decide +kernel
theorem dX5_link_81 : decode cX5_link 81 = .ok (.aload_n 0, 1) := by decide +kernel
theorem dX5_link_82 : decode cX5_link 82 = .ok (.getfield 23, 3) := by decide +kernel
theorem dX5_link_85 : decode cX5_link 85 = .ok (.bipush 36, 2) := by decide +kernel
theorem dX5_link_87 : decode cX5_link 87 = .ok (.iload_n 1, 1) := by decide +kernel
theorem dX5_link_88 : decode cX5_link 88 = .ok (.imul, 1) := by decide +kernel
theorem dX5_link_89 : decode cX5_link 89 = .ok (.iload_n 3, 1) := by decide +kernel
theorem dX5_link_90 : decode cX5_link 90 = .ok (.iadd, 1) := by decide +kernel
theorem dX5_link_91 : decode cX5_link 91 = .ok (.iaload, 1) := by decide +kernel
theorem dX5_link_92 : decode cX5_link 92 = .ok (.iastore, 1) := by decide +kernel
theorem dX5_link_93 : decode cX5_link 93 = .ok (.iinc 2 1, 3) := by decide +kernel
theorem dX5_link_96 : decode cX5_link 96 = .ok (.goto (-87), 3) := by decide +kernel
theorem dX5_link_99 : decode cX5_link 99 = .ok (.iinc 1 1, 3) := by decide +kernel
theorem dX5_link_102 : decode cX5_link 102 = .ok (.goto (-100), 3) := by decide +kernel
theorem dX5_link_105 : decode cX5_link 105 = .ok (.return_, 1) := by decide +kernel
theorem dX5_beginOf_0 : decode cX5_beginOf 0 = .ok (.aload_n 0, 1) := by decide +kernel
theorem dX5_beginOf_1 : decode cX5_beginOf 1 = .ok (.getfield 23, 3) := by decide +kernel
theorem dX5_beginOf_4 : decode cX5_beginOf 4 = .ok (.bipush 36, 2) := by decide +kernel
theorem dX5_beginOf_6 : decode cX5_beginOf 6 = .ok (.iload_n 2, 1) := by decide +kernel
theorem dX5_beginOf_7 : decode cX5_beginOf 7 = .ok (.imul, 1) := by decide +kernel
theorem dX5_beginOf_8 : decode cX5_beginOf 8 = .ok (.iload_n 1, 1) := by decide +kernel
theorem dX5_beginOf_9 : decode cX5_beginOf 9 = .ok (.iadd, 1) := by decide +kernel
theorem dX5_beginOf_10 : decode cX5_beginOf 10 = .ok (.iaload, 1) := by decide +kernel
theorem dX5_beginOf_11 : decode cX5_beginOf 11 = .ok (.ireturn, 1) := by decide +kernel
theorem dX5_isOpen_0 : decode cX5_isOpen 0 = .ok (.iload_n 1, 1) := by decide +kernel
theorem dX5_isOpen_1 : decode cX5_isOpen 1 = .ok (.iconst (-1), 1) := by decide +kernel
theorem dX5_isOpen_2 : decode cX5_isOpen 2 = .ok (.if_icmp .eq 17, 3) := by decide +kernel
theorem dX5_isOpen_5 : decode cX5_isOpen 5 = .ok (.aload_n 0, 1) := by decide +kernel
theorem dX5_isOpen_6 : decode cX5_isOpen 6 = .ok (.getfield 16, 3) := by decide +kernel
theorem dX5_isOpen_9 : decode cX5_isOpen 9 = .ok (.iload_n 1, 1) := by decide +kernel
theorem dX5_isOpen_10 : decode cX5_isOpen 10 = .ok (.iaload, 1) := by decide +kernel
theorem dX5_isOpen_11 : decode cX5_isOpen 11 = .ok (.iconst (-1), 1) := by decide +kernel
theorem dX5_isOpen_12 : decode cX5_isOpen 12 = .ok (.if_icmp .eq 7, 3) := by decide +kernel
theorem dX5_isOpen_15 : decode cX5_isOpen 15 = .ok (.iconst 1, 1) := by decide +kernel
theorem dX5_isOpen_16 : decode cX5_isOpen 16 = .ok (.goto 4, 3) := by decide +kernel
theorem dX5_isOpen_19 : decode cX5_isOpen 19 = .ok (.iconst 0, 1) := by decide +kernel
theorem dX5_isOpen_20 : decode cX5_isOpen 20 = .ok (.ireturn, 1) := by decide +kernel
set_option maxRecDepth 20000 in
theorem ggX5_isWell_X5_beginOf : GoodIn wsX5_isWell wsX5_beginOf := goodIn_r _ [7, 8, 28, 29, 30, 31, 32, 33, 34, 35, 36, 37, 38, 39] (by decide +kernel) (by decide +kernel)
set_option maxRecDepth 20000 in
theorem gX5_isWell_X5_beginOf : GoodIn wsX5_isWell (wsV RX5 54 RX5 yX5_beginOf wsX5_beginOf) := goodIn_app (goodIn_of _ (by decide +kernel)) ggX5_isWell_X5_beginOf
set_option maxRecDepth 20000 in
theorem ggX5_isWell_X5_isOpen : GoodIn wsX5_isWell wsX5_isOpen := goodIn_r _ [12, 1, 28, 29, 30, 31, 32, 33, 34, 35, 36, 37, 38, 39] (by decide +kernel) (by decide +kernel)
set_option maxRecDepth 20000 in
theorem gX5_isWell_X5_isOpen : GoodIn wsX5_isWell (wsV RX5 58 RX5 yX5_isOpen wsX5_isOpen) := goodIn_app (goodIn_of _ (by decide +kernel)) ggX5_isWell_X5_isOpen
set_option maxRecDepth 20000 in
theorem ggX5_isWell_X5_behind : GoodIn wsX5_isWell wsX5_behind := goodIn_r _ [16, 17, 18, 28, 29, 30, 31, 32, 33, 34, 35, 36, 37, 38, 39] (by decide +kernel) (by decide +kernel)
set_option maxRecDepth 20000 in
theorem gX5_isWell_X5_behind : GoodIn wsX5_isWell (wsV RX5 62 RX5 yX5_behind wsX5_behind) := goodIn_app (goodIn_of _ (by decide +kernel)) ggX5_isWell_X5_behind
set_option maxRecDepth 20000 in
theorem ggX5_isWell_X5_sumOf : GoodIn wsX5_isWell wsX5_sumOf := goodIn_r _ [21] (by decide +kernel) (by decide +kernel)
set_option maxRecDepth 20000 in
theorem gX5_isWell_X5_sumOf : GoodIn wsX5_isWell (va_wsS RX5 41 yX5_sumOf wsX5_sumOf) := goodIn_app (goodIn_of _ (by decide +kernel)) ggX5_isWell_X5_sumOf
set_option maxRecDepth 20000 in
theorem ggX5_isWell_X5_isMade : GoodIn wsX5_isWell wsX5_isMade := goodIn_r _ [25, 26, 27, 28, 29, 30, 31, 32, 33, 34, 35, 36, 37, 38, 39] (by decide +kernel) (by decide +kernel)
set_option maxRecDepth 20000 in
theorem gX5_isWell_X5_isMade : GoodIn wsX5_isWell (wsV RX5 65 RX5 yX5_isMade wsX5_isMade) := goodIn_app (goodIn_of _ (by decide +kernel)) ggX5_isWell_X5_isMade
theorem dX5_isWell_0 : decode cX5_isWell 0 = .ok (.aload_n 0, 1) := by decide +kernel
theorem dX5_isWell_1 : decode cX5_isWell 1 = .ok (.iload_n 1, 1) := by decide +kernel
theorem dX5_isWell_2 : decode cX5_isWell 2 = .ok (.iload_n 2, 1) := by decide +kernel
theorem dX5_isWell_3 : decode cX5_isWell 3 = .ok (.invokevirtual 54, 3) := by decide +kernel
theorem dX5_isWell_6 : decode cX5_isWell 6 = .ok (.istore_n 3, 1) := by decide +kernel
theorem dX5_isWell_7 : decode cX5_isWell 7 = .ok (.iconst 0, 1) := by decide +kernel
theorem dX5_isWell_8 : decode cX5_isWell 8 = .ok (.istore 4, 2) := by decide +kernel
theorem dX5_isWell_10 : decode cX5_isWell 10 = .ok (.iconst 0, 1) := by decide +kernel
theorem dX5_isWell_11 : decode cX5_isWell 11 = .ok (.istore 5, 2) := by decide +kernel
theorem dX5_isWell_13 : decode cX5_isWell 13 = .ok (.iload_n 3, 1) := by decide +kernel
theorem dX5_isWell_14 : decode cX5_isWell 14 = .ok (.istore 6, 2) := by decide +kernel
theorem dX5_isWell_16 : decode cX5_isWell 16 = .ok (.aload_n 0, 1) := by decide +kernel
theorem dX5_isWell_17 : decode cX5_isWell 17 = .ok (.iload 6, 2) := by decide +kernel
theorem dX5_isWell_19 : decode cX5_isWell 19 = .ok (.invokevirtual 58, 3) := by decide +kernel
theorem dX5_isWell_22 : decode cX5_isWell 22 = .ok (.ifCond .eq 72, 3) := by decide +kernel
theorem dX5_isWell_25 : decode cX5_isWell 25 = .ok (.aload_n 0, 1) := by decide +kernel
theorem dX5_isWell_26 : decode cX5_isWell 26 = .ok (.getfield 16, 3) := by decide +kernel
theorem dX5_isWell_29 : decode cX5_isWell 29 = .ok (.iload 6, 2) := by decide +kernel
theorem dX5_isWell_31 : decode cX5_isWell 31 = .ok (.iaload, 1) := by decide +kernel
theorem dX5_isWell_32 : decode cX5_isWell 32 = .ok (.ifCond .ne 7, 3) := by decide +kernel
theorem dX5_isWell_35 : decode cX5_isWell 35 = .ok (.iconst 0, 1) := by decide +kernel
theorem dX5_isWell_36 : decode cX5_isWell 36 = .ok (.goto 12, 3) := by decide +kernel
theorem dX5_isWell_39 : decode cX5_isWell 39 = .ok (.iconst 1, 1) := by decide +kernel
theorem dX5_isWell_40 : decode cX5_isWell 40 = .ok (.aload_n 0, 1) := by decide +kernel
theorem dX5_isWell_41 : decode cX5_isWell 41 = .ok (.getfield 16, 3) := by decide +kernel
theorem dX5_isWell_44 : decode cX5_isWell 44 = .ok (.iload 6, 2) := by decide +kernel
theorem dX5_isWell_46 : decode cX5_isWell 46 = .ok (.iaload, 1) := by decide +kernel
theorem dX5_isWell_47 : decode cX5_isWell 47 = .ok (.ishl, 1) := by decide +kernel
theorem dX5_isWell_48 : decode cX5_isWell 48 = .ok (.istore 7, 2) := by decide +kernel
theorem dX5_isWell_50 : decode cX5_isWell 50 = .ok (.iload 4, 2) := by decide +kernel
theorem dX5_isWell_52 : decode cX5_isWell 52 = .ok (.iload 7, 2) := by decide +kernel
theorem dX5_isWell_54 : decode cX5_isWell 54 = .ok (.iand, 1) := by decide +kernel
theorem dX5_isWell_55 : decode cX5_isWell 55 = .ok (.ifCond .eq 5, 3) := by decide +kernel
theorem dX5_isWell_58 : decode cX5_isWell 58 = .ok (.iconst 0, 1) := by decide +kernel
theorem dX5_isWell_59 : decode cX5_isWell 59 = .ok (.ireturn, 1) := by decide +kernel
theorem dX5_isWell_60 : decode cX5_isWell 60 = .ok (.iload 4, 2) := by decide +kernel
theorem dX5_isWell_62 : decode cX5_isWell 62 = .ok (.iload 7, 2) := by decide +kernel
theorem dX5_isWell_64 : decode cX5_isWell 64 = .ok (.ior, 1) := by decide +kernel
theorem dX5_isWell_65 : decode cX5_isWell 65 = .ok (.istore 4, 2) := by decide +kernel
theorem dX5_isWell_67 : decode cX5_isWell 67 = .ok (.iload 5, 2) := by decide +kernel
theorem dX5_isWell_69 : decode cX5_isWell 69 = .ok (.iload 7, 2) := by decide +kernel
theorem dX5_isWell_71 : decode cX5_isWell 71 = .ok (.ifCond .ne 7, 3) := by decide +kernel
theorem dX5_isWell_74 : decode cX5_isWell 74 = .ok (.iconst 1, 1) := by decide +kernel
theorem dX5_isWell_75 : decode cX5_isWell 75 = .ok (.goto 4, 3) := by decide +kernel
theorem dX5_isWell_78 : decode cX5_isWell 78 = .ok (.iconst 0, 1) := by decide +kernel
theorem dX5_isWell_79 : decode cX5_isWell 79 = .ok (.iadd, 1) := by decide +kernel
theorem dX5_isWell_80 : decode cX5_isWell 80 = .ok (.istore 5, 2) := by decide +kernel
theorem dX5_isWell_82 : decode cX5_isWell 82 = .ok (.aload_n 0, 1) := by decide +kernel
theorem dX5_isWell_83 : decode cX5_isWell 83 = .ok (.iload 6, 2) := by decide +kernel
theorem dX5_isWell_85 : decode cX5_isWell 85 = .ok (.iload_n 2, 1) := by decide +kernel
theorem dX5_isWell_86 : decode cX5_isWell 86 = .ok (.invokevirtual 62, 3) := by decide +kernel
theorem dX5_isWell_89 : decode cX5_isWell 89 = .ok (.istore 6, 2) := by decide +kernel
theorem dX5_isWell_91 : decode cX5_isWell 91 = .ok (.goto (-75), 3) := by decide +kernel
theorem dX5_isWell_94 : decode cX5_isWell 94 = .ok (.aload_n 0, 1) := by decide +kernel
theorem dX5_isWell_95 : decode cX5_isWell 95 = .ok (.getfield 20, 3) := by decide +kernel
theorem dX5_isWell_98 : decode cX5_isWell 98 = .ok (.bipush 36, 2) := by decide +kernel
theorem dX5_isWell_100 : decode cX5_isWell 100 = .ok (.iload_n 2, 1) := by decide +kernel
theorem dX5_isWell_101 : decode cX5_isWell 101 = .ok (.imul, 1) := by decide +kernel
theorem dX5_isWell_102 : decode cX5_isWell 102 = .ok (.iload_n 3, 1) := by decide +kernel
theorem dX5_isWell_103 : decode cX5_isWell 103 = .ok (.iadd, 1) := by decide +kernel
theorem dX5_isWell_104 : decode cX5_isWell 104 = .ok (.iaload, 1) := by decide +kernel
theorem dX5_isWell_105 : decode cX5_isWell 105 = .ok (.iload 4, 2) := by decide +kernel
theorem dX5_isWell_107 : decode cX5_isWell 107 = .ok (.invokestatic 41, 3) := by decide +kernel
theorem dX5_isWell_110 : decode cX5_isWell 110 = .ok (.isub, 1) := by decide +kernel
theorem dX5_isWell_111 : decode cX5_isWell 111 = .ok (.istore 6, 2) := by decide +kernel
theorem dX5_isWell_113 : decode cX5_isWell 113 = .ok (.aload_n 0, 1) := by decide +kernel
theorem dX5_isWell_114 : decode cX5_isWell 114 = .ok (.getfield 20, 3) := by decide +kernel
theorem dX5_isWell_117 : decode cX5_isWell 117 = .ok (.bipush 36, 2) := by decide +kernel
theorem dX5_isWell_119 : decode cX5_isWell 119 = .ok (.iload_n 2, 1) := by decide +kernel
theorem dX5_isWell_120 : decode cX5_isWell 120 = .ok (.imul, 1) := by decide +kernel
theorem dX5_isWell_121 : decode cX5_isWell 121 = .ok (.iload_n 3, 1) := by decide +kernel
theorem dX5_isWell_122 : decode cX5_isWell 122 = .ok (.iadd, 1) := by decide +kernel
theorem dX5_isWell_123 : decode cX5_isWell 123 = .ok (.iaload, 1) := by decide +kernel
theorem dX5_isWell_124 : decode cX5_isWell 124 = .ok (.ifCond .ne 5, 3) := by decide +kernel
theorem dX5_isWell_127 : decode cX5_isWell 127 = .ok (.iconst 1, 1) := by decide +kernel
theorem dX5_isWell_128 : decode cX5_isWell 128 = .ok (.ireturn, 1) := by decide +kernel
theorem dX5_isWell_129 : decode cX5_isWell 129 = .ok (.iload 6, 2) := by decide +kernel
theorem dX5_isWell_131 : decode cX5_isWell 131 = .ok (.ifCond .lt 20, 3) := by decide +kernel
theorem dX5_isWell_134 : decode cX5_isWell 134 = .ok (.aload_n 0, 1) := by decide +kernel
theorem dX5_isWell_135 : decode cX5_isWell 135 = .ok (.iload 5, 2) := by decide +kernel
theorem dX5_isWell_137 : decode cX5_isWell 137 = .ok (.iload 6, 2) := by decide +kernel
theorem dX5_isWell_139 : decode cX5_isWell 139 = .ok (.iload 4, 2) := by decide +kernel
theorem dX5_isWell_141 : decode cX5_isWell 141 = .ok (.invokevirtual 65, 3) := by decide +kernel
theorem dX5_isWell_144 : decode cX5_isWell 144 = .ok (.ifCond .eq 7, 3) := by decide +kernel
theorem dX5_isWell_147 : decode cX5_isWell 147 = .ok (.iconst 1, 1) := by decide +kernel
theorem dX5_isWell_148 : decode cX5_isWell 148 = .ok (.goto 4, 3) := by decide +kernel
theorem dX5_isWell_151 : decode cX5_isWell 151 = .ok (.iconst 0, 1) := by decide +kernel
theorem dX5_isWell_152 : decode cX5_isWell 152 = .ok (.ireturn, 1) := by decide +kernel
theorem dX5_isMade_0 : decode cX5_isMade 0 = .ok (.bipush 46, 2) := by decide +kernel
theorem dX5_isMade_2 : decode cX5_isMade 2 = .ok (.iload_n 1, 1) := by decide +kernel
theorem dX5_isMade_3 : decode cX5_isMade 3 = .ok (.imul, 1) := by decide +kernel
theorem dX5_isMade_4 : decode cX5_isMade 4 = .ok (.iload_n 2, 1) := by decide +kernel
theorem dX5_isMade_5 : decode cX5_isMade 5 = .ok (.iadd, 1) := by decide +kernel
theorem dX5_isMade_6 : decode cX5_isMade 6 = .ok (.istore 4, 2) := by decide +kernel
theorem dX5_isMade_8 : decode cX5_isMade 8 = .ok (.aload_n 0, 1) := by decide +kernel
theorem dX5_isMade_9 : decode cX5_isMade 9 = .ok (.getfield 29, 3) := by decide +kernel
theorem dX5_isMade_12 : decode cX5_isMade 12 = .ok (.iload 4, 2) := by decide +kernel
theorem dX5_isMade_14 : decode cX5_isMade 14 = .ok (.iaload, 1) := by decide +kernel
theorem dX5_isMade_15 : decode cX5_isMade 15 = .ok (.istore 5, 2) := by decide +kernel
theorem dX5_isMade_17 : decode cX5_isMade 17 = .ok (.iload 5, 2) := by decide +kernel
theorem dX5_isMade_19 : decode cX5_isMade 19 = .ok (.aload_n 0, 1) := by decide +kernel
theorem dX5_isMade_20 : decode cX5_isMade 20 = .ok (.getfield 29, 3) := by decide +kernel
theorem dX5_isMade_23 : decode cX5_isMade 23 = .ok (.iload 4, 2) := by decide +kernel
theorem dX5_isMade_25 : decode cX5_isMade 25 = .ok (.iconst 1, 1) := by decide +kernel
theorem dX5_isMade_26 : decode cX5_isMade 26 = .ok (.iadd, 1) := by decide +kernel
theorem dX5_isMade_27 : decode cX5_isMade 27 = .ok (.iaload, 1) := by decide +kernel
theorem dX5_isMade_28 : decode cX5_isMade 28 = .ok (.if_icmp .ge 23, 3) := by decide +kernel
theorem dX5_isMade_31 : decode cX5_isMade 31 = .ok (.aload_n 0, 1) := by decide +kernel
theorem dX5_isMade_32 : decode cX5_isMade 32 = .ok (.getfield 26, 3) := by decide +kernel
theorem dX5_isMade_35 : decode cX5_isMade 35 = .ok (.iload 5, 2) := by decide +kernel
theorem dX5_isMade_37 : decode cX5_isMade 37 = .ok (.iaload, 1) := by decide +kernel
theorem dX5_isMade_38 : decode cX5_isMade 38 = .ok (.iload_n 3, 1) := by decide +kernel
theorem dX5_isMade_39 : decode cX5_isMade 39 = .ok (.iand, 1) := by decide +kernel
theorem dX5_isMade_40 : decode cX5_isMade 40 = .ok (.ifCond .ne 5, 3) := by decide +kernel
theorem dX5_isMade_43 : decode cX5_isMade 43 = .ok (.iconst 1, 1) := by decide +kernel
theorem dX5_isMade_44 : decode cX5_isMade 44 = .ok (.ireturn, 1) := by decide +kernel
theorem dX5_isMade_45 : decode cX5_isMade 45 = .ok (.iinc 5 1, 3) := by decide +kernel
theorem dX5_isMade_48 : decode cX5_isMade 48 = .ok (.goto (-31), 3) := by decide +kernel
theorem dX5_isMade_51 : decode cX5_isMade 51 = .ok (.iconst 0, 1) := by decide +kernel
theorem dX5_isMade_52 : decode cX5_isMade 52 = .ok (.ireturn, 1) := by decide +kernel
set_option maxRecDepth 20000 in
theorem ggX5_stands_X5_isWell : GoodIn wsX5_stands wsX5_isWell := goodIn_r _ [6, 1, 7, 8, 9, 10, 5, 11, 12, 13, 14, 15, 16, 17, 18, 19, 20, 21, 22, 23, 24, 25, 26, 27, 28, 29, 30, 31, 32, 33, 34, 35, 36, 37, 38, 39, 40, 41, 42, 43] (by decide +kernel) (by decide +kernel)
set_option maxRecDepth 20000 in
theorem gX5_stands_X5_isWell : GoodIn wsX5_stands (wsV RX5 68 RX5 yX5_isWell wsX5_isWell) := goodIn_app (goodIn_of _ (by decide +kernel)) ggX5_stands_X5_isWell
theorem dX5_stands_0 : decode cX5_stands 0 = .ok (.aload_n 0, 1) := by decide +kernel
theorem dX5_stands_1 : decode cX5_stands 1 = .ok (.getfield 16, 3) := by decide +kernel
theorem dX5_stands_4 : decode cX5_stands 4 = .ok (.iload_n 1, 1) := by decide +kernel
theorem dX5_stands_5 : decode cX5_stands 5 = .ok (.iload_n 2, 1) := by decide +kernel
theorem dX5_stands_6 : decode cX5_stands 6 = .ok (.iastore, 1) := by decide +kernel
theorem dX5_stands_7 : decode cX5_stands 7 = .ok (.aload_n 0, 1) := by decide +kernel
theorem dX5_stands_8 : decode cX5_stands 8 = .ok (.iload_n 1, 1) := by decide +kernel
theorem dX5_stands_9 : decode cX5_stands 9 = .ok (.iconst 0, 1) := by decide +kernel
theorem dX5_stands_10 : decode cX5_stands 10 = .ok (.invokevirtual 68, 3) := by decide +kernel
theorem dX5_stands_13 : decode cX5_stands 13 = .ok (.ifCond .eq 16, 3) := by decide +kernel
theorem dX5_stands_16 : decode cX5_stands 16 = .ok (.aload_n 0, 1) := by decide +kernel
theorem dX5_stands_17 : decode cX5_stands 17 = .ok (.iload_n 1, 1) := by decide +kernel
theorem dX5_stands_18 : decode cX5_stands 18 = .ok (.iconst 1, 1) := by decide +kernel
theorem dX5_stands_19 : decode cX5_stands 19 = .ok (.invokevirtual 68, 3) := by decide +kernel
theorem dX5_stands_22 : decode cX5_stands 22 = .ok (.ifCond .eq 7, 3) := by decide +kernel
theorem dX5_stands_25 : decode cX5_stands 25 = .ok (.iconst 1, 1) := by decide +kernel
theorem dX5_stands_26 : decode cX5_stands 26 = .ok (.goto 4, 3) := by decide +kernel
theorem dX5_stands_29 : decode cX5_stands 29 = .ok (.iconst 0, 1) := by decide +kernel
theorem dX5_stands_30 : decode cX5_stands 30 = .ok (.istore_n 3, 1) := by decide +kernel
theorem dX5_stands_31 : decode cX5_stands 31 = .ok (.aload_n 0, 1) := by decide +kernel
theorem dX5_stands_32 : decode cX5_stands 32 = .ok (.getfield 16, 3) := by decide +kernel
theorem dX5_stands_35 : decode cX5_stands 35 = .ok (.iload_n 1, 1) := by decide +kernel
theorem dX5_stands_36 : decode cX5_stands 36 = .ok (.iconst 0, 1) := by decide +kernel
theorem dX5_stands_37 : decode cX5_stands 37 = .ok (.iastore, 1) := by decide +kernel
theorem dX5_stands_38 : decode cX5_stands 38 = .ok (.iload_n 3, 1) := by decide +kernel
theorem dX5_stands_39 : decode cX5_stands 39 = .ok (.ireturn, 1) := by decide +kernel
set_option maxRecDepth 20000 in
theorem ggX5_canOf_X5_stands : GoodIn wsX5_canOf wsX5_stands := goodIn_r _ [6, 1, 7, 8, 9, 5, 10, 11, 12, 13, 14, 15, 16, 17, 18, 19, 20, 21, 22, 23, 24, 25, 26, 27, 28, 29, 30, 31, 32, 33, 34, 35, 36, 37, 38, 39, 40, 41, 42, 43, 44, 45, 46, 47] (by decide +kernel) (by decide +kernel)
set_option maxRecDepth 20000 in
theorem gX5_canOf_X5_stands : GoodIn wsX5_canOf (wsV RX5 72 RX5 yX5_stands wsX5_stands) := goodIn_app (goodIn_of _ (by decide +kernel)) ggX5_canOf_X5_stands
theorem dX5_canOf_0 : decode cX5_canOf 0 = .ok (.iconst 0, 1) := by decide +kernel
theorem dX5_canOf_1 : decode cX5_canOf 1 = .ok (.istore_n 2, 1) := by decide +kernel
theorem dX5_canOf_2 : decode cX5_canOf 2 = .ok (.aload_n 0, 1) := by decide +kernel
theorem dX5_canOf_3 : decode cX5_canOf 3 = .ok (.getfield 16, 3) := by decide +kernel
theorem dX5_canOf_6 : decode cX5_canOf 6 = .ok (.iload_n 1, 1) := by decide +kernel
theorem dX5_canOf_7 : decode cX5_canOf 7 = .ok (.iaload, 1) := by decide +kernel
theorem dX5_canOf_8 : decode cX5_canOf 8 = .ok (.ifCond .eq 5, 3) := by decide +kernel
theorem dX5_canOf_11 : decode cX5_canOf 11 = .ok (.iconst 0, 1) := by decide +kernel
theorem dX5_canOf_12 : decode cX5_canOf 12 = .ok (.ireturn, 1) := by decide +kernel
theorem dX5_canOf_13 : decode cX5_canOf 13 = .ok (.iconst 1, 1) := by decide +kernel
theorem dX5_canOf_14 : decode cX5_canOf 14 = .ok (.istore_n 3, 1) := by decide +kernel
theorem dX5_canOf_15 : decode cX5_canOf 15 = .ok (.iload_n 3, 1) := by decide +kernel
theorem dX5_canOf_16 : decode cX5_canOf 16 = .ok (.bipush 9, 2) := by decide +kernel
theorem dX5_canOf_18 : decode cX5_canOf 18 = .ok (.if_icmp .gt 24, 3) := by decide +kernel
theorem dX5_canOf_21 : decode cX5_canOf 21 = .ok (.aload_n 0, 1) := by decide +kernel
theorem dX5_canOf_22 : decode cX5_canOf 22 = .ok (.iload_n 1, 1) := by decide +kernel
theorem dX5_canOf_23 : decode cX5_canOf 23 = .ok (.iload_n 3, 1) := by decide +kernel
theorem dX5_canOf_24 : decode cX5_canOf 24 = .ok (.invokevirtual 72, 3) := by decide +kernel
theorem dX5_canOf_27 : decode cX5_canOf 27 = .ok (.ifCond .eq 9, 3) := by decide +kernel
theorem dX5_canOf_30 : decode cX5_canOf 30 = .ok (.iload_n 2, 1) := by decide +kernel
theorem dX5_canOf_31 : decode cX5_canOf 31 = .ok (.iconst 1, 1) := by decide +kernel
theorem dX5_canOf_32 : decode cX5_canOf 32 = .ok (.iload_n 3, 1) := by decide +kernel
theorem dX5_canOf_33 : decode cX5_canOf 33 = .ok (.ishl, 1) := by decide +kernel
theorem dX5_canOf_34 : decode cX5_canOf 34 = .ok (.ior, 1) := by decide +kernel
theorem dX5_canOf_35 : decode cX5_canOf 35 = .ok (.istore_n 2, 1) := by decide +kernel
theorem dX5_canOf_36 : decode cX5_canOf 36 = .ok (.iinc 3 1, 3) := by decide +kernel
theorem dX5_canOf_39 : decode cX5_canOf 39 = .ok (.goto (-24), 3) := by decide +kernel
theorem dX5_canOf_42 : decode cX5_canOf 42 = .ok (.iload_n 2, 1) := by decide +kernel
theorem dX5_canOf_43 : decode cX5_canOf 43 = .ok (.ireturn, 1) := by decide +kernel
set_option maxRecDepth 20000 in
theorem ggX5_isAllWell_X5_isWell : GoodIn wsX5_isAllWell wsX5_isWell := goodIn_r _ [8, 3, 9, 10, 11, 12, 7, 13, 14, 15, 16, 17, 18, 19, 20, 21, 22, 1, 2, 23, 24, 25, 26, 27, 28, 29, 30, 31, 32, 33, 34, 35, 36, 37, 38, 39, 40, 41, 42, 43] (by decide +kernel) (by decide +kernel)
set_option maxRecDepth 20000 in
theorem gX5_isAllWell_X5_isWell : GoodIn wsX5_isAllWell (wsV RX5 68 RX5 yX5_isWell wsX5_isWell) := goodIn_app (goodIn_of _ (by decide +kernel)) ggX5_isAllWell_X5_isWell
theorem dX5_isAllWell_0 : decode cX5_isAllWell 0 = .ok (.iconst 0, 1) := by decide +kernel
theorem dX5_isAllWell_1 : decode cX5_isAllWell 1 = .ok (.istore_n 1, 1) := by decide +kernel
theorem dX5_isAllWell_2 : decode cX5_isAllWell 2 = .ok (.iload_n 1, 1) := by decide +kernel
theorem dX5_isAllWell_3 : decode cX5_isAllWell 3 = .ok (.aload_n 0, 1) := by decide +kernel
theorem dX5_isAllWell_4 : decode cX5_isAllWell 4 = .ok (.getfield 7, 3) := by decide +kernel
theorem dX5_isAllWell_7 : decode cX5_isAllWell 7 = .ok (.aload_n 0, 1) := by decide +kernel
theorem dX5_isAllWell_8 : decode cX5_isAllWell 8 = .ok (.getfield 13, 3) := by decide +kernel
theorem dX5_isAllWell_11 : decode cX5_isAllWell 11 = .ok (.imul, 1) := by decide +kernel
theorem dX5_isAllWell_12 : decode cX5_isAllWell 12 = .ok (.if_icmp .ge 39, 3) := by decide +kernel
theorem dX5_isAllWell_15 : decode cX5_isAllWell 15 = .ok (.aload_n 0, 1) := by decide +kernel
theorem dX5_isAllWell_16 : decode cX5_isAllWell 16 = .ok (.getfield 16, 3) := by decide +kernel
theorem dX5_isAllWell_19 : decode cX5_isAllWell 19 = .ok (.iload_n 1, 1) := by decide +kernel
theorem dX5_isAllWell_20 : decode cX5_isAllWell 20 = .ok (.iaload, 1) := by decide +kernel
theorem dX5_isAllWell_21 : decode cX5_isAllWell 21 = .ok (.iconst (-1), 1) := by decide +kernel
theorem dX5_isAllWell_22 : decode cX5_isAllWell 22 = .ok (.if_icmp .eq 23, 3) := by decide +kernel
theorem dX5_isAllWell_25 : decode cX5_isAllWell 25 = .ok (.aload_n 0, 1) := by decide +kernel
theorem dX5_isAllWell_26 : decode cX5_isAllWell 26 = .ok (.iload_n 1, 1) := by decide +kernel
theorem dX5_isAllWell_27 : decode cX5_isAllWell 27 = .ok (.iconst 0, 1) := by decide +kernel
theorem dX5_isAllWell_28 : decode cX5_isAllWell 28 = .ok (.invokevirtual 68, 3) := by decide +kernel
theorem dX5_isAllWell_31 : decode cX5_isAllWell 31 = .ok (.ifCond .eq 12, 3) := by decide +kernel
theorem dX5_isAllWell_34 : decode cX5_isAllWell 34 = .ok (.aload_n 0, 1) := by decide +kernel
theorem dX5_isAllWell_35 : decode cX5_isAllWell 35 = .ok (.iload_n 1, 1) := by decide +kernel
theorem dX5_isAllWell_36 : decode cX5_isAllWell 36 = .ok (.iconst 1, 1) := by decide +kernel
theorem dX5_isAllWell_37 : decode cX5_isAllWell 37 = .ok (.invokevirtual 68, 3) := by decide +kernel
theorem dX5_isAllWell_40 : decode cX5_isAllWell 40 = .ok (.ifCond .ne 5, 3) := by decide +kernel
theorem dX5_isAllWell_43 : decode cX5_isAllWell 43 = .ok (.iconst 0, 1) := by decide +kernel
theorem dX5_isAllWell_44 : decode cX5_isAllWell 44 = .ok (.ireturn, 1) := by decide +kernel
theorem dX5_isAllWell_45 : decode cX5_isAllWell 45 = .ok (.iinc 1 1, 3) := by decide +kernel
theorem dX5_isAllWell_48 : decode cX5_isAllWell 48 = .ok (.goto (-46), 3) := by decide +kernel
theorem dX5_isAllWell_51 : decode cX5_isAllWell 51 = .ok (.iconst 1, 1) := by decide +kernel
theorem dX5_isAllWell_52 : decode cX5_isAllWell 52 = .ok (.ireturn, 1) := by decide +kernel
theorem dX5_isOver_0 : decode cX5_isOver 0 = .ok (.aload_n 0, 1) := by decide +kernel
theorem dX5_isOver_1 : decode cX5_isOver 1 = .ok (.getfield 75, 3) := by decide +kernel
theorem dX5_isOver_4 : decode cX5_isOver 4 = .ok (.ifCond .ne 12, 3) := by decide +kernel
theorem dX5_isOver_7 : decode cX5_isOver 7 = .ok (.aload_n 0, 1) := by decide +kernel
theorem dX5_isOver_8 : decode cX5_isOver 8 = .ok (.getfield 79, 3) := by decide +kernel
theorem dX5_isOver_11 : decode cX5_isOver 11 = .ok (.bipush 100, 2) := by decide +kernel
theorem dX5_isOver_13 : decode cX5_isOver 13 = .ok (.if_icmp .ne 7, 3) := by decide +kernel
theorem dX5_isOver_16 : decode cX5_isOver 16 = .ok (.iconst 1, 1) := by decide +kernel
theorem dX5_isOver_17 : decode cX5_isOver 17 = .ok (.goto 4, 3) := by decide +kernel
theorem dX5_isOver_20 : decode cX5_isOver 20 = .ok (.iconst 0, 1) := by decide +kernel
theorem dX5_isOver_21 : decode cX5_isOver 21 = .ok (.ireturn, 1) := by decide +kernel
set_option maxRecDepth 20000 in
theorem ggX5_fill_X5_isOver : GoodIn wsX5_fill wsX5_isOver := goodIn_r _ [16, 11, 4, 51, 52, 53, 54, 55, 56, 57, 58, 59, 60, 61, 62] (by decide +kernel) (by decide +kernel)
set_option maxRecDepth 20000 in
theorem gX5_fill_X5_isOver : GoodIn wsX5_fill (wsV RX5 88 RX5 yX5_isOver wsX5_isOver) := goodIn_app (goodIn_of _ (by decide +kernel)) ggX5_fill_X5_isOver
set_option maxRecDepth 20000 in
theorem ggX5_fill_X5_stands : GoodIn wsX5_fill wsX5_stands := goodIn_r _ [20, 3, 21, 22, 23, 15, 24, 25, 26, 27, 28, 29, 30, 31, 32, 33, 34, 35, 36, 37, 38, 1, 2, 39, 40, 41, 42, 43, 44, 45, 46, 47, 51, 52, 53, 54, 55, 56, 57, 58, 59, 60, 61, 62] (by decide +kernel) (by decide +kernel)
set_option maxRecDepth 20000 in
theorem gX5_fill_X5_stands : GoodIn wsX5_fill (wsV RX5 72 RX5 yX5_stands wsX5_stands) := goodIn_app (goodIn_of _ (by decide +kernel)) ggX5_fill_X5_stands
set_option maxRecDepth 20000 in
theorem ggX5_fill_X5_fill : GoodIn wsX5_fill wsX5_fill := goodIn_r _ [0, 1, 2, 3, 4, 5, 6, 7, 8, 9, 10, 11, 12, 13, 14, 15, 16, 17, 18, 19, 20, 21, 22, 23, 24, 25, 26, 27, 28, 29, 30, 31, 32, 33, 34, 35, 36, 37, 38, 39, 40, 41, 42, 43, 44, 45, 46, 47, 48, 49, 50, 51, 52, 53, 54, 55, 56, 57, 58, 59, 60, 61, 62] (by decide +kernel) (by decide +kernel)
set_option maxRecDepth 20000 in
theorem gX5_fill_X5_fill : GoodIn wsX5_fill (wsV RX5 95 RX5 yX5_fill wsX5_fill) := goodIn_app (goodIn_of _ (by decide +kernel)) ggX5_fill_X5_fill
theorem dX5_fill_0 : decode cX5_fill 0 = .ok (.iload_n 1, 1) := by decide +kernel
theorem dX5_fill_1 : decode cX5_fill 1 = .ok (.istore_n 2, 1) := by decide +kernel
theorem dX5_fill_2 : decode cX5_fill 2 = .ok (.iload_n 2, 1) := by decide +kernel
theorem dX5_fill_3 : decode cX5_fill 3 = .ok (.aload_n 0, 1) := by decide +kernel
theorem dX5_fill_4 : decode cX5_fill 4 = .ok (.getfield 7, 3) := by decide +kernel
theorem dX5_fill_7 : decode cX5_fill 7 = .ok (.aload_n 0, 1) := by decide +kernel
theorem dX5_fill_8 : decode cX5_fill 8 = .ok (.getfield 13, 3) := by decide +kernel
theorem dX5_fill_11 : decode cX5_fill 11 = .ok (.imul, 1) := by decide +kernel
theorem dX5_fill_12 : decode cX5_fill 12 = .ok (.if_icmp .ge 18, 3) := by decide +kernel
theorem dX5_fill_15 : decode cX5_fill 15 = .ok (.aload_n 0, 1) := by decide +kernel
theorem dX5_fill_16 : decode cX5_fill 16 = .ok (.getfield 16, 3) := by decide +kernel
theorem dX5_fill_19 : decode cX5_fill 19 = .ok (.iload_n 2, 1) := by decide +kernel
theorem dX5_fill_20 : decode cX5_fill 20 = .ok (.iaload, 1) := by decide +kernel
theorem dX5_fill_21 : decode cX5_fill 21 = .ok (.ifCond .eq 9, 3) := by decide +kernel
theorem dX5_fill_24 : decode cX5_fill 24 = .ok (.iinc 2 1, 3) := by decide +kernel
theorem dX5_fill_27 : decode cX5_fill 27 = .ok (.goto (-25), 3) := by decide +kernel
theorem dX5_fill_30 : decode cX5_fill 30 = .ok (.iload_n 2, 1) := by decide +kernel
theorem dX5_fill_31 : decode cX5_fill 31 = .ok (.aload_n 0, 1) := by decide +kernel
theorem dX5_fill_32 : decode cX5_fill 32 = .ok (.getfield 7, 3) := by decide +kernel
theorem dX5_fill_35 : decode cX5_fill 35 = .ok (.aload_n 0, 1) := by decide +kernel
theorem dX5_fill_36 : decode cX5_fill 36 = .ok (.getfield 13, 3) := by decide +kernel
theorem dX5_fill_39 : decode cX5_fill 39 = .ok (.imul, 1) := by decide +kernel
theorem dX5_fill_40 : decode cX5_fill 40 = .ok (.if_icmp .ne 36, 3) := by decide +kernel
theorem dX5_fill_43 : decode cX5_fill 43 = .ok (.aload_n 0, 1) := by decide +kernel
theorem dX5_fill_44 : decode cX5_fill 44 = .ok (.getfield 79, 3) := by decide +kernel
theorem dX5_fill_47 : decode cX5_fill 47 = .ok (.ifCond .ne 18, 3) := by decide +kernel
theorem dX5_fill_50 : decode cX5_fill 50 = .ok (.aload_n 0, 1) := by decide +kernel
theorem dX5_fill_51 : decode cX5_fill 51 = .ok (.getfield 16, 3) := by decide +kernel
theorem dX5_fill_54 : decode cX5_fill 54 = .ok (.iconst 0, 1) := by decide +kernel
theorem dX5_fill_55 : decode cX5_fill 55 = .ok (.aload_n 0, 1) := by decide +kernel
theorem dX5_fill_56 : decode cX5_fill 56 = .ok (.getfield 32, 3) := by decide +kernel
theorem dX5_fill_59 : decode cX5_fill 59 = .ok (.iconst 0, 1) := by decide +kernel
theorem dX5_fill_60 : decode cX5_fill 60 = .ok (.bipush 36, 2) := by decide +kernel
theorem dX5_fill_62 : decode cX5_fill 62 = .ok (.invokestatic 82, 3) := by decide +kernel
theorem dX5_fill_65 : decode cX5_fill 65 = .ok (.aload_n 0, 1) := by decide +kernel
theorem dX5_fill_66 : decode cX5_fill 66 = .ok (.dup, 1) := by decide +kernel
theorem dX5_fill_67 : decode cX5_fill 67 = .ok (.getfield 79, 3) := by decide +kernel
theorem dX5_fill_70 : decode cX5_fill 70 = .ok (.iconst 1, 1) := by decide +kernel
theorem dX5_fill_71 : decode cX5_fill 71 = .ok (.iadd, 1) := by decide +kernel
theorem dX5_fill_72 : decode cX5_fill 72 = .ok (.putfield 79, 3) := by decide +kernel
theorem dX5_fill_75 : decode cX5_fill 75 = .ok (.return_, 1) := by decide +kernel
theorem dX5_fill_76 : decode cX5_fill 76 = .ok (.iconst 1, 1) := by decide +kernel
theorem dX5_fill_77 : decode cX5_fill 77 = .ok (.istore_n 3, 1) := by decide +kernel
theorem dX5_fill_78 : decode cX5_fill 78 = .ok (.iload_n 3, 1) := by decide +kernel
theorem dX5_fill_79 : decode cX5_fill 79 = .ok (.bipush 9, 2) := by decide +kernel
theorem dX5_fill_81 : decode cX5_fill 81 = .ok (.if_icmp .gt 85, 3) := by decide +kernel
theorem dX5_fill_84 : decode cX5_fill 84 = .ok (.aload_n 0, 1) := by decide +kernel
theorem dX5_fill_85 : decode cX5_fill 85 = .ok (.invokevirtual 88, 3) := by decide +kernel
theorem dX5_fill_88 : decode cX5_fill 88 = .ok (.ifCond .ne 78, 3) := by decide +kernel
theorem dX5_fill_91 : decode cX5_fill 91 = .ok (.aload_n 0, 1) := by decide +kernel
theorem dX5_fill_92 : decode cX5_fill 92 = .ok (.dup, 1) := by decide +kernel
theorem dX5_fill_93 : decode cX5_fill 93 = .ok (.getfield 92, 3) := by decide +kernel
theorem dX5_fill_96 : decode cX5_fill 96 = .ok (.iconst 1, 1) := by decide +kernel
theorem dX5_fill_97 : decode cX5_fill 97 = .ok (.iadd, 1) := by decide +kernel
theorem dX5_fill_98 : decode cX5_fill 98 = .ok (.putfield 92, 3) := by decide +kernel
theorem dX5_fill_101 : decode cX5_fill 101 = .ok (.aload_n 0, 1) := by decide +kernel
theorem dX5_fill_102 : decode cX5_fill 102 = .ok (.aload_n 0, 1) := by decide +kernel
theorem dX5_fill_103 : decode cX5_fill 103 = .ok (.getfield 92, 3) := by decide +kernel
theorem dX5_fill_106 : decode cX5_fill 106 = .ok (.sipush 4000, 3) := by decide +kernel
theorem dX5_fill_109 : decode cX5_fill 109 = .ok (.if_icmp .le 7, 3) := by decide +kernel
theorem dX5_fill_112 : decode cX5_fill 112 = .ok (.iconst 1, 1) := by decide +kernel
theorem dX5_fill_113 : decode cX5_fill 113 = .ok (.goto 4, 3) := by decide +kernel
theorem dX5_fill_116 : decode cX5_fill 116 = .ok (.iconst 0, 1) := by decide +kernel
theorem dX5_fill_117 : decode cX5_fill 117 = .ok (.putfield 75, 3) := by decide +kernel
theorem dX5_fill_120 : decode cX5_fill 120 = .ok (.aload_n 0, 1) := by decide +kernel
theorem dX5_fill_121 : decode cX5_fill 121 = .ok (.getfield 75, 3) := by decide +kernel
theorem dX5_fill_124 : decode cX5_fill 124 = .ok (.ifCond .ne 36, 3) := by decide +kernel
theorem dX5_fill_127 : decode cX5_fill 127 = .ok (.aload_n 0, 1) := by decide +kernel
theorem dX5_fill_128 : decode cX5_fill 128 = .ok (.iload_n 2, 1) := by decide +kernel
theorem dX5_fill_129 : decode cX5_fill 129 = .ok (.iload_n 3, 1) := by decide +kernel
theorem dX5_fill_130 : decode cX5_fill 130 = .ok (.invokevirtual 72, 3) := by decide +kernel
theorem dX5_fill_133 : decode cX5_fill 133 = .ok (.ifCond .ne 6, 3) := by decide +kernel
theorem dX5_fill_136 : decode cX5_fill 136 = .ok (.goto 24, 3) := by decide +kernel
theorem dX5_fill_139 : decode cX5_fill 139 = .ok (.aload_n 0, 1) := by decide +kernel
theorem dX5_fill_140 : decode cX5_fill 140 = .ok (.getfield 16, 3) := by decide +kernel
theorem dX5_fill_143 : decode cX5_fill 143 = .ok (.iload_n 2, 1) := by decide +kernel
theorem dX5_fill_144 : decode cX5_fill 144 = .ok (.iload_n 3, 1) := by decide +kernel
theorem dX5_fill_145 : decode cX5_fill 145 = .ok (.iastore, 1) := by decide +kernel
theorem dX5_fill_146 : decode cX5_fill 146 = .ok (.aload_n 0, 1) := by decide +kernel
theorem dX5_fill_147 : decode cX5_fill 147 = .ok (.iload_n 2, 1) := by decide +kernel
theorem dX5_fill_148 : decode cX5_fill 148 = .ok (.iconst 1, 1) := by decide +kernel
theorem dX5_fill_149 : decode cX5_fill 149 = .ok (.iadd, 1) := by decide +kernel
theorem dX5_fill_150 : decode cX5_fill 150 = .ok (.invokevirtual 95, 3) := by decide +kernel
theorem dX5_fill_153 : decode cX5_fill 153 = .ok (.aload_n 0, 1) := by decide +kernel
theorem dX5_fill_154 : decode cX5_fill 154 = .ok (.getfield 16, 3) := by decide +kernel
theorem dX5_fill_157 : decode cX5_fill 157 = .ok (.iload_n 2, 1) := by decide +kernel
theorem dX5_fill_158 : decode cX5_fill 158 = .ok (.iconst 0, 1) := by decide +kernel
theorem dX5_fill_159 : decode cX5_fill 159 = .ok (.iastore, 1) := by decide +kernel
theorem dX5_fill_160 : decode cX5_fill 160 = .ok (.iinc 3 1, 3) := by decide +kernel
theorem dX5_fill_163 : decode cX5_fill 163 = .ok (.goto (-85), 3) := by decide +kernel
theorem dX5_fill_166 : decode cX5_fill 166 = .ok (.return_, 1) := by decide +kernel
set_option maxRecDepth 20000 in
theorem ggX5_look_X5_isAllWell : GoodIn wsX5_look wsX5_isAllWell := goodIn_r _ [9, 10, 11, 12, 13, 14, 15, 8, 16, 17, 18, 19, 20, 21, 22, 23, 24, 25, 26, 27, 28, 29, 30, 31, 32, 33, 34, 35, 36, 37, 38, 39, 56, 57, 58, 59, 60, 61, 62, 63, 64, 65, 66, 67] (by decide +kernel) (by decide +kernel)
set_option maxRecDepth 20000 in
theorem gX5_look_X5_isAllWell : GoodIn wsX5_look (wsV RX5 99 RX5 yX5_isAllWell wsX5_isAllWell) := goodIn_app (goodIn_of _ (by decide +kernel)) ggX5_look_X5_isAllWell
set_option maxRecDepth 20000 in
theorem ggX5_look_X5_fill : GoodIn wsX5_look wsX5_fill := goodIn_r _ [43, 10, 11, 12, 2, 4, 44, 45, 46, 47, 1, 3, 48, 49, 50, 8, 51, 52, 53, 54, 55, 13, 14, 15, 16, 17, 18, 19, 20, 21, 22, 23, 24, 25, 26, 27, 28, 29, 30, 31, 32, 33, 34, 35, 36, 37, 38, 39, 40, 41, 42, 56, 57, 58, 59, 60, 61, 62, 63, 64, 65, 66, 67] (by decide +kernel) (by decide +kernel)
set_option maxRecDepth 20000 in
theorem gX5_look_X5_fill : GoodIn wsX5_look (wsV RX5 95 RX5 yX5_fill wsX5_fill) := goodIn_app (goodIn_of _ (by decide +kernel)) ggX5_look_X5_fill
theorem dX5_look_0 : decode cX5_look 0 = .ok (.aload_n 0, 1) := by decide +kernel
theorem dX5_look_1 : decode cX5_look 1 = .ok (.iconst 0, 1) := by decide +kernel
theorem dX5_look_2 : decode cX5_look 2 = .ok (.putfield 92, 3) := by decide +kernel
theorem dX5_look_5 : decode cX5_look 5 = .ok (.aload_n 0, 1) := by decide +kernel
theorem dX5_look_6 : decode cX5_look 6 = .ok (.iconst 0, 1) := by decide +kernel
theorem dX5_look_7 : decode cX5_look 7 = .ok (.putfield 79, 3) := by decide +kernel
theorem dX5_look_10 : decode cX5_look 10 = .ok (.aload_n 0, 1) := by decide +kernel
theorem dX5_look_11 : decode cX5_look 11 = .ok (.iconst 0, 1) := by decide +kernel
theorem dX5_look_12 : decode cX5_look 12 = .ok (.putfield 75, 3) := by decide +kernel
theorem dX5_look_15 : decode cX5_look 15 = .ok (.iconst 0, 1) := by decide +kernel
theorem dX5_look_16 : decode cX5_look 16 = .ok (.istore_n 1, 1) := by decide +kernel
theorem dX5_look_17 : decode cX5_look 17 = .ok (.iload_n 1, 1) := by decide +kernel
theorem dX5_look_18 : decode cX5_look 18 = .ok (.bipush 36, 2) := by decide +kernel
theorem dX5_look_20 : decode cX5_look 20 = .ok (.if_icmp .ge 16, 3) := by decide +kernel
theorem dX5_look_23 : decode cX5_look 23 = .ok (.aload_n 0, 1) := by decide +kernel
theorem dX5_look_24 : decode cX5_look 24 = .ok (.getfield 32, 3) := by decide +kernel
theorem dX5_look_27 : decode cX5_look 27 = .ok (.iload_n 1, 1) := by decide +kernel
theorem dX5_look_28 : decode cX5_look 28 = .ok (.iconst 0, 1) := by decide +kernel
theorem dX5_look_29 : decode cX5_look 29 = .ok (.iastore, 1) := by decide +kernel
theorem dX5_look_30 : decode cX5_look 30 = .ok (.iinc 1 1, 3) := by decide +kernel
theorem dX5_look_33 : decode cX5_look 33 = .ok (.goto (-16), 3) := by decide +kernel
theorem dX5_look_36 : decode cX5_look 36 = .ok (.aload_n 0, 1) := by decide +kernel
theorem dX5_look_37 : decode cX5_look 37 = .ok (.invokevirtual 99, 3) := by decide +kernel
theorem dX5_look_40 : decode cX5_look 40 = .ok (.ifCond .eq 8, 3) := by decide +kernel
theorem dX5_look_43 : decode cX5_look 43 = .ok (.aload_n 0, 1) := by decide +kernel
theorem dX5_look_44 : decode cX5_look 44 = .ok (.iconst 0, 1) := by decide +kernel
theorem dX5_look_45 : decode cX5_look 45 = .ok (.invokevirtual 95, 3) := by decide +kernel
theorem dX5_look_48 : decode cX5_look 48 = .ok (.return_, 1) := by decide +kernel
theorem dX5_told_0 : decode cX5_told 0 = .ok (.aload_n 0, 1) := by decide +kernel
theorem dX5_told_1 : decode cX5_told 1 = .ok (.getfield 75, 3) := by decide +kernel
theorem dX5_told_4 : decode cX5_told 4 = .ok (.ifCond .eq 7, 3) := by decide +kernel
theorem dX5_told_7 : decode cX5_told 7 = .ok (.iconst (-1), 1) := by decide +kernel
theorem dX5_told_8 : decode cX5_told 8 = .ok (.goto 7, 3) := by decide +kernel
theorem dX5_told_11 : decode cX5_told 11 = .ok (.aload_n 0, 1) := by decide +kernel
theorem dX5_told_12 : decode cX5_told 12 = .ok (.getfield 79, 3) := by decide +kernel
theorem dX5_told_15 : decode cX5_told 15 = .ok (.ireturn, 1) := by decide +kernel
set_option maxRecDepth 20000 in
theorem ggX5_setFloor_X5_isIn : GoodIn wsX5_setFloor wsX5_isIn := goodIn_r _ [9] (by decide +kernel) (by decide +kernel)
set_option maxRecDepth 20000 in
theorem gX5_setFloor_X5_isIn : GoodIn wsX5_setFloor (va_wsS RX5 50 yX5_isIn wsX5_isIn) := goodIn_app (goodIn_of _ (by decide +kernel)) ggX5_setFloor_X5_isIn
set_option maxRecDepth 20000 in
theorem ggX5_setFloor_X5_no : GoodIn wsX5_setFloor wsX5_no := goodIn_r _ [13, 1, 19, 20, 21, 22, 23, 24, 25, 26, 27, 28, 29, 30] (by decide +kernel) (by decide +kernel)
set_option maxRecDepth 20000 in
theorem gX5_setFloor_X5_no : GoodIn wsX5_setFloor (wsV RX5 102 RX5 yX5_no wsX5_no) := goodIn_app (goodIn_of _ (by decide +kernel)) ggX5_setFloor_X5_no
set_option maxRecDepth 20000 in
theorem ggX5_setFloor_X5_link : GoodIn wsX5_setFloor wsX5_link := goodIn_r _ [17, 2, 3, 18, 4, 19, 20, 21, 22, 23, 24, 25, 26, 27, 28, 29, 30] (by decide +kernel) (by decide +kernel)
set_option maxRecDepth 20000 in
theorem gX5_setFloor_X5_link : GoodIn wsX5_setFloor (wsV RX5 44 RX5 yX5_link wsX5_link) := goodIn_app (goodIn_of _ (by decide +kernel)) ggX5_setFloor_X5_link
theorem dX5_setFloor_0 : decode cX5_setFloor 0 = .ok (.aload_n 0, 1) := by decide +kernel
theorem dX5_setFloor_1 : decode cX5_setFloor 1 = .ok (.iconst 0, 1) := by decide +kernel
theorem dX5_setFloor_2 : decode cX5_setFloor 2 = .ok (.putfield 47, 3) := by decide +kernel
theorem dX5_setFloor_5 : decode cX5_setFloor 5 = .ok (.iload_n 1, 1) := by decide +kernel
theorem dX5_setFloor_6 : decode cX5_setFloor 6 = .ok (.iconst 2, 1) := by decide +kernel
theorem dX5_setFloor_7 : decode cX5_setFloor 7 = .ok (.bipush 6, 2) := by decide +kernel
theorem dX5_setFloor_9 : decode cX5_setFloor 9 = .ok (.invokestatic 50, 3) := by decide +kernel
theorem dX5_setFloor_12 : decode cX5_setFloor 12 = .ok (.ifCond .eq 13, 3) := by decide +kernel
theorem dX5_setFloor_15 : decode cX5_setFloor 15 = .ok (.iload_n 2, 1) := by decide +kernel
theorem dX5_setFloor_16 : decode cX5_setFloor 16 = .ok (.iconst 2, 1) := by decide +kernel
theorem dX5_setFloor_17 : decode cX5_setFloor 17 = .ok (.bipush 6, 2) := by decide +kernel
theorem dX5_setFloor_19 : decode cX5_setFloor 19 = .ok (.invokestatic 50, 3) := by decide +kernel
theorem dX5_setFloor_22 : decode cX5_setFloor 22 = .ok (.ifCond .ne 9, 3) := by decide +kernel
theorem dX5_setFloor_25 : decode cX5_setFloor 25 = .ok (.aload_n 0, 1) := by decide +kernel
theorem dX5_setFloor_26 : decode cX5_setFloor 26 = .ok (.iconst 1, 1) := by decide +kernel
theorem dX5_setFloor_27 : decode cX5_setFloor 27 = .ok (.invokevirtual 102, 3) := by decide +kernel
theorem dX5_setFloor_30 : decode cX5_setFloor 30 = .ok (.ireturn, 1) := by decide +kernel
theorem dX5_setFloor_31 : decode cX5_setFloor 31 = .ok (.aload_n 0, 1) := by decide +kernel
theorem dX5_setFloor_32 : decode cX5_setFloor 32 = .ok (.iload_n 1, 1) := by decide +kernel
theorem dX5_setFloor_33 : decode cX5_setFloor 33 = .ok (.putfield 7, 3) := by decide +kernel
theorem dX5_setFloor_36 : decode cX5_setFloor 36 = .ok (.aload_n 0, 1) := by decide +kernel
theorem dX5_setFloor_37 : decode cX5_setFloor 37 = .ok (.iload_n 2, 1) := by decide +kernel
theorem dX5_setFloor_38 : decode cX5_setFloor 38 = .ok (.putfield 13, 3) := by decide +kernel
theorem dX5_setFloor_41 : decode cX5_setFloor 41 = .ok (.iconst 0, 1) := by decide +kernel
theorem dX5_setFloor_42 : decode cX5_setFloor 42 = .ok (.istore_n 3, 1) := by decide +kernel
theorem dX5_setFloor_43 : decode cX5_setFloor 43 = .ok (.iload_n 3, 1) := by decide +kernel
theorem dX5_setFloor_44 : decode cX5_setFloor 44 = .ok (.bipush 36, 2) := by decide +kernel
theorem dX5_setFloor_46 : decode cX5_setFloor 46 = .ok (.if_icmp .ge 16, 3) := by decide +kernel
theorem dX5_setFloor_49 : decode cX5_setFloor 49 = .ok (.aload_n 0, 1) := by decide +kernel
theorem dX5_setFloor_50 : decode cX5_setFloor 50 = .ok (.getfield 16, 3) := by decide +kernel
theorem dX5_setFloor_53 : decode cX5_setFloor 53 = .ok (.iload_n 3, 1) := by decide +kernel
theorem dX5_setFloor_54 : decode cX5_setFloor 54 = .ok (.iconst 0, 1) := by decide +kernel
theorem dX5_setFloor_55 : decode cX5_setFloor 55 = .ok (.iastore, 1) := by decide +kernel
theorem dX5_setFloor_56 : decode cX5_setFloor 56 = .ok (.iinc 3 1, 3) := by decide +kernel
theorem dX5_setFloor_59 : decode cX5_setFloor 59 = .ok (.goto (-16), 3) := by decide +kernel
theorem dX5_setFloor_62 : decode cX5_setFloor 62 = .ok (.iconst 0, 1) := by decide +kernel
theorem dX5_setFloor_63 : decode cX5_setFloor 63 = .ok (.istore_n 3, 1) := by decide +kernel
theorem dX5_setFloor_64 : decode cX5_setFloor 64 = .ok (.iload_n 3, 1) := by decide +kernel
theorem dX5_setFloor_65 : decode cX5_setFloor 65 = .ok (.bipush 72, 2) := by decide +kernel
theorem dX5_setFloor_67 : decode cX5_setFloor 67 = .ok (.if_icmp .ge 16, 3) := by decide +kernel
theorem dX5_setFloor_70 : decode cX5_setFloor 70 = .ok (.aload_n 0, 1) := by decide +kernel
theorem dX5_setFloor_71 : decode cX5_setFloor 71 = .ok (.getfield 20, 3) := by decide +kernel
theorem dX5_setFloor_74 : decode cX5_setFloor 74 = .ok (.iload_n 3, 1) := by decide +kernel
theorem dX5_setFloor_75 : decode cX5_setFloor 75 = .ok (.iconst 0, 1) := by decide +kernel
theorem dX5_setFloor_76 : decode cX5_setFloor 76 = .ok (.iastore, 1) := by decide +kernel
theorem dX5_setFloor_77 : decode cX5_setFloor 77 = .ok (.iinc 3 1, 3) := by decide +kernel
theorem dX5_setFloor_80 : decode cX5_setFloor 80 = .ok (.goto (-16), 3) := by decide +kernel
theorem dX5_setFloor_83 : decode cX5_setFloor 83 = .ok (.aload_n 0, 1) := by decide +kernel
theorem dX5_setFloor_84 : decode cX5_setFloor 84 = .ok (.invokevirtual 44, 3) := by decide +kernel
theorem dX5_setFloor_87 : decode cX5_setFloor 87 = .ok (.aload_n 0, 1) := by decide +kernel
theorem dX5_setFloor_88 : decode cX5_setFloor 88 = .ok (.getfield 7, 3) := by decide +kernel
theorem dX5_setFloor_91 : decode cX5_setFloor 91 = .ok (.aload_n 0, 1) := by decide +kernel
theorem dX5_setFloor_92 : decode cX5_setFloor 92 = .ok (.getfield 13, 3) := by decide +kernel
theorem dX5_setFloor_95 : decode cX5_setFloor 95 = .ok (.imul, 1) := by decide +kernel
theorem dX5_setFloor_96 : decode cX5_setFloor 96 = .ok (.ireturn, 1) := by decide +kernel
set_option maxRecDepth 20000 in
theorem ggX5_pillar_X5_isCell : GoodIn wsX5_pillar wsX5_isCell := goodIn_r _ [7, 8, 9, 10, 11, 6, 12, 18, 19, 20, 21, 22, 23, 24, 25, 26, 27, 28, 29] (by decide +kernel) (by decide +kernel)
set_option maxRecDepth 20000 in
theorem gX5_pillar_X5_isCell : GoodIn wsX5_pillar (wsV RX5 105 RX5 yX5_isCell wsX5_isCell) := goodIn_app (goodIn_of _ (by decide +kernel)) ggX5_pillar_X5_isCell
set_option maxRecDepth 20000 in
theorem ggX5_pillar_X5_link : GoodIn wsX5_pillar wsX5_link := goodIn_r _ [16, 8, 9, 17, 2, 18, 19, 20, 21, 22, 23, 24, 25, 26, 27, 28, 29] (by decide +kernel) (by decide +kernel)
set_option maxRecDepth 20000 in
theorem gX5_pillar_X5_link : GoodIn wsX5_pillar (wsV RX5 44 RX5 yX5_link wsX5_link) := goodIn_app (goodIn_of _ (by decide +kernel)) ggX5_pillar_X5_link
theorem dX5_pillar_0 : decode cX5_pillar 0 = .ok (.aload_n 0, 1) := by decide +kernel
theorem dX5_pillar_1 : decode cX5_pillar 1 = .ok (.aload_n 0, 1) := by decide +kernel
theorem dX5_pillar_2 : decode cX5_pillar 2 = .ok (.iload_n 1, 1) := by decide +kernel
theorem dX5_pillar_3 : decode cX5_pillar 3 = .ok (.invokevirtual 105, 3) := by decide +kernel
theorem dX5_pillar_6 : decode cX5_pillar 6 = .ok (.ifCond .eq 7, 3) := by decide +kernel
theorem dX5_pillar_9 : decode cX5_pillar 9 = .ok (.iconst 0, 1) := by decide +kernel
theorem dX5_pillar_10 : decode cX5_pillar 10 = .ok (.goto 4, 3) := by decide +kernel
theorem dX5_pillar_13 : decode cX5_pillar 13 = .ok (.iconst 1, 1) := by decide +kernel
theorem dX5_pillar_14 : decode cX5_pillar 14 = .ok (.putfield 47, 3) := by decide +kernel
theorem dX5_pillar_17 : decode cX5_pillar 17 = .ok (.aload_n 0, 1) := by decide +kernel
theorem dX5_pillar_18 : decode cX5_pillar 18 = .ok (.getfield 47, 3) := by decide +kernel
theorem dX5_pillar_21 : decode cX5_pillar 21 = .ok (.ifCond .eq 5, 3) := by decide +kernel
theorem dX5_pillar_24 : decode cX5_pillar 24 = .ok (.iconst 0, 1) := by decide +kernel
theorem dX5_pillar_25 : decode cX5_pillar 25 = .ok (.ireturn, 1) := by decide +kernel
theorem dX5_pillar_26 : decode cX5_pillar 26 = .ok (.aload_n 0, 1) := by decide +kernel
theorem dX5_pillar_27 : decode cX5_pillar 27 = .ok (.getfield 16, 3) := by decide +kernel
theorem dX5_pillar_30 : decode cX5_pillar 30 = .ok (.iload_n 1, 1) := by decide +kernel
theorem dX5_pillar_31 : decode cX5_pillar 31 = .ok (.aload_n 0, 1) := by decide +kernel
theorem dX5_pillar_32 : decode cX5_pillar 32 = .ok (.getfield 16, 3) := by decide +kernel
theorem dX5_pillar_35 : decode cX5_pillar 35 = .ok (.iload_n 1, 1) := by decide +kernel
theorem dX5_pillar_36 : decode cX5_pillar 36 = .ok (.iaload, 1) := by decide +kernel
theorem dX5_pillar_37 : decode cX5_pillar 37 = .ok (.iconst (-1), 1) := by decide +kernel
theorem dX5_pillar_38 : decode cX5_pillar 38 = .ok (.if_icmp .ne 7, 3) := by decide +kernel
theorem dX5_pillar_41 : decode cX5_pillar 41 = .ok (.iconst 0, 1) := by decide +kernel
theorem dX5_pillar_42 : decode cX5_pillar 42 = .ok (.goto 4, 3) := by decide +kernel
theorem dX5_pillar_45 : decode cX5_pillar 45 = .ok (.iconst (-1), 1) := by decide +kernel
theorem dX5_pillar_46 : decode cX5_pillar 46 = .ok (.iastore, 1) := by decide +kernel
theorem dX5_pillar_47 : decode cX5_pillar 47 = .ok (.aload_n 0, 1) := by decide +kernel
theorem dX5_pillar_48 : decode cX5_pillar 48 = .ok (.invokevirtual 44, 3) := by decide +kernel
theorem dX5_pillar_51 : decode cX5_pillar 51 = .ok (.aload_n 0, 1) := by decide +kernel
theorem dX5_pillar_52 : decode cX5_pillar 52 = .ok (.getfield 16, 3) := by decide +kernel
theorem dX5_pillar_55 : decode cX5_pillar 55 = .ok (.iload_n 1, 1) := by decide +kernel
theorem dX5_pillar_56 : decode cX5_pillar 56 = .ok (.iaload, 1) := by decide +kernel
theorem dX5_pillar_57 : decode cX5_pillar 57 = .ok (.iconst (-1), 1) := by decide +kernel
theorem dX5_pillar_58 : decode cX5_pillar 58 = .ok (.if_icmp .ne 7, 3) := by decide +kernel
theorem dX5_pillar_61 : decode cX5_pillar 61 = .ok (.iconst 1, 1) := by decide +kernel
theorem dX5_pillar_62 : decode cX5_pillar 62 = .ok (.goto 4, 3) := by decide +kernel
theorem dX5_pillar_65 : decode cX5_pillar 65 = .ok (.iconst 0, 1) := by decide +kernel
theorem dX5_pillar_66 : decode cX5_pillar 66 = .ok (.ireturn, 1) := by decide +kernel
set_option maxRecDepth 20000 in
theorem ggX5_setSum_X5_isCell : GoodIn wsX5_setSum wsX5_isCell := goodIn_r _ [7, 8, 9, 10, 11, 6, 12, 17, 18, 19, 20, 21, 22, 23, 24, 25, 26, 27, 28] (by decide +kernel) (by decide +kernel)
set_option maxRecDepth 20000 in
theorem gX5_setSum_X5_isCell : GoodIn wsX5_setSum (wsV RX5 105 RX5 yX5_isCell wsX5_isCell) := goodIn_app (goodIn_of _ (by decide +kernel)) ggX5_setSum_X5_isCell
set_option maxRecDepth 20000 in
theorem ggX5_setSum_X5_no : GoodIn wsX5_setSum wsX5_no := goodIn_r _ [16, 1, 17, 18, 19, 20, 21, 22, 23, 24, 25, 26, 27, 28] (by decide +kernel) (by decide +kernel)
set_option maxRecDepth 20000 in
theorem gX5_setSum_X5_no : GoodIn wsX5_setSum (wsV RX5 102 RX5 yX5_no wsX5_no) := goodIn_app (goodIn_of _ (by decide +kernel)) ggX5_setSum_X5_no
set_option maxRecDepth 20000 in
theorem ggX5_setSum_X5_isIn : GoodIn wsX5_setSum wsX5_isIn := goodIn_r _ [12] (by decide +kernel) (by decide +kernel)
set_option maxRecDepth 20000 in
theorem gX5_setSum_X5_isIn : GoodIn wsX5_setSum (va_wsS RX5 50 yX5_isIn wsX5_isIn) := goodIn_app (goodIn_of _ (by decide +kernel)) ggX5_setSum_X5_isIn
theorem dX5_setSum_0 : decode cX5_setSum 0 = .ok (.aload_n 0, 1) := by decide +kernel
theorem dX5_setSum_1 : decode cX5_setSum 1 = .ok (.iconst 0, 1) := by decide +kernel
theorem dX5_setSum_2 : decode cX5_setSum 2 = .ok (.putfield 47, 3) := by decide +kernel
theorem dX5_setSum_5 : decode cX5_setSum 5 = .ok (.aload_n 0, 1) := by decide +kernel
theorem dX5_setSum_6 : decode cX5_setSum 6 = .ok (.iload_n 1, 1) := by decide +kernel
theorem dX5_setSum_7 : decode cX5_setSum 7 = .ok (.invokevirtual 105, 3) := by decide +kernel
theorem dX5_setSum_10 : decode cX5_setSum 10 = .ok (.ifCond .ne 9, 3) := by decide +kernel
theorem dX5_setSum_13 : decode cX5_setSum 13 = .ok (.aload_n 0, 1) := by decide +kernel
theorem dX5_setSum_14 : decode cX5_setSum 14 = .ok (.iconst 1, 1) := by decide +kernel
theorem dX5_setSum_15 : decode cX5_setSum 15 = .ok (.invokevirtual 102, 3) := by decide +kernel
theorem dX5_setSum_18 : decode cX5_setSum 18 = .ok (.ireturn, 1) := by decide +kernel
theorem dX5_setSum_19 : decode cX5_setSum 19 = .ok (.iload_n 3, 1) := by decide +kernel
theorem dX5_setSum_20 : decode cX5_setSum 20 = .ok (.iconst 0, 1) := by decide +kernel
theorem dX5_setSum_21 : decode cX5_setSum 21 = .ok (.bipush 45, 2) := by decide +kernel
theorem dX5_setSum_23 : decode cX5_setSum 23 = .ok (.invokestatic 50, 3) := by decide +kernel
theorem dX5_setSum_26 : decode cX5_setSum 26 = .ok (.ifCond .ne 9, 3) := by decide +kernel
theorem dX5_setSum_29 : decode cX5_setSum 29 = .ok (.aload_n 0, 1) := by decide +kernel
theorem dX5_setSum_30 : decode cX5_setSum 30 = .ok (.iconst 2, 1) := by decide +kernel
theorem dX5_setSum_31 : decode cX5_setSum 31 = .ok (.invokevirtual 102, 3) := by decide +kernel
theorem dX5_setSum_34 : decode cX5_setSum 34 = .ok (.ireturn, 1) := by decide +kernel
theorem dX5_setSum_35 : decode cX5_setSum 35 = .ok (.bipush 36, 2) := by decide +kernel
theorem dX5_setSum_37 : decode cX5_setSum 37 = .ok (.iload_n 2, 1) := by decide +kernel
theorem dX5_setSum_38 : decode cX5_setSum 38 = .ok (.ifCond .eq 7, 3) := by decide +kernel
theorem dX5_setSum_41 : decode cX5_setSum 41 = .ok (.iconst 1, 1) := by decide +kernel
theorem dX5_setSum_42 : decode cX5_setSum 42 = .ok (.goto 4, 3) := by decide +kernel
theorem dX5_setSum_45 : decode cX5_setSum 45 = .ok (.iconst 0, 1) := by decide +kernel
theorem dX5_setSum_46 : decode cX5_setSum 46 = .ok (.imul, 1) := by decide +kernel
theorem dX5_setSum_47 : decode cX5_setSum 47 = .ok (.iload_n 1, 1) := by decide +kernel
theorem dX5_setSum_48 : decode cX5_setSum 48 = .ok (.iadd, 1) := by decide +kernel
theorem dX5_setSum_49 : decode cX5_setSum 49 = .ok (.istore 4, 2) := by decide +kernel
theorem dX5_setSum_51 : decode cX5_setSum 51 = .ok (.aload_n 0, 1) := by decide +kernel
theorem dX5_setSum_52 : decode cX5_setSum 52 = .ok (.getfield 20, 3) := by decide +kernel
theorem dX5_setSum_55 : decode cX5_setSum 55 = .ok (.iload 4, 2) := by decide +kernel
theorem dX5_setSum_57 : decode cX5_setSum 57 = .ok (.iaload, 1) := by decide +kernel
theorem dX5_setSum_58 : decode cX5_setSum 58 = .ok (.istore 5, 2) := by decide +kernel
theorem dX5_setSum_60 : decode cX5_setSum 60 = .ok (.aload_n 0, 1) := by decide +kernel
theorem dX5_setSum_61 : decode cX5_setSum 61 = .ok (.getfield 20, 3) := by decide +kernel
theorem dX5_setSum_64 : decode cX5_setSum 64 = .ok (.iload 4, 2) := by decide +kernel
theorem dX5_setSum_66 : decode cX5_setSum 66 = .ok (.iload_n 3, 1) := by decide +kernel
theorem dX5_setSum_67 : decode cX5_setSum 67 = .ok (.iastore, 1) := by decide +kernel
theorem dX5_setSum_68 : decode cX5_setSum 68 = .ok (.iload 5, 2) := by decide +kernel
theorem dX5_setSum_70 : decode cX5_setSum 70 = .ok (.ireturn, 1) := by decide +kernel
set_option maxRecDepth 20000 in
theorem ggX5_put_X5_isCell : GoodIn wsX5_put wsX5_isCell := goodIn_r _ [7, 8, 9, 10, 11, 6, 12, 17, 18, 19, 20, 21, 22, 23, 24, 25, 26, 27, 28] (by decide +kernel) (by decide +kernel)
set_option maxRecDepth 20000 in
theorem gX5_put_X5_isCell : GoodIn wsX5_put (wsV RX5 105 RX5 yX5_isCell wsX5_isCell) := goodIn_app (goodIn_of _ (by decide +kernel)) ggX5_put_X5_isCell
set_option maxRecDepth 20000 in
theorem ggX5_put_X5_no : GoodIn wsX5_put wsX5_no := goodIn_r _ [16, 1, 17, 18, 19, 20, 21, 22, 23, 24, 25, 26, 27, 28] (by decide +kernel) (by decide +kernel)
set_option maxRecDepth 20000 in
theorem gX5_put_X5_no : GoodIn wsX5_put (wsV RX5 102 RX5 yX5_no wsX5_no) := goodIn_app (goodIn_of _ (by decide +kernel)) ggX5_put_X5_no
set_option maxRecDepth 20000 in
theorem ggX5_put_X5_isIn : GoodIn wsX5_put wsX5_isIn := goodIn_r _ [12] (by decide +kernel) (by decide +kernel)
set_option maxRecDepth 20000 in
theorem gX5_put_X5_isIn : GoodIn wsX5_put (va_wsS RX5 50 yX5_isIn wsX5_isIn) := goodIn_app (goodIn_of _ (by decide +kernel)) ggX5_put_X5_isIn
theorem dX5_put_0 : decode cX5_put 0 = .ok (.aload_n 0, 1) := by decide +kernel
theorem dX5_put_1 : decode cX5_put 1 = .ok (.iconst 0, 1) := by decide +kernel
theorem dX5_put_2 : decode cX5_put 2 = .ok (.putfield 47, 3) := by decide +kernel
theorem dX5_put_5 : decode cX5_put 5 = .ok (.aload_n 0, 1) := by decide +kernel
theorem dX5_put_6 : decode cX5_put 6 = .ok (.iload_n 1, 1) := by decide +kernel
theorem dX5_put_7 : decode cX5_put 7 = .ok (.invokevirtual 105, 3) := by decide +kernel
theorem dX5_put_10 : decode cX5_put 10 = .ok (.ifCond .ne 9, 3) := by decide +kernel
theorem dX5_put_13 : decode cX5_put 13 = .ok (.aload_n 0, 1) := by decide +kernel
theorem dX5_put_14 : decode cX5_put 14 = .ok (.iconst 1, 1) := by decide +kernel
theorem dX5_put_15 : decode cX5_put 15 = .ok (.invokevirtual 102, 3) := by decide +kernel
theorem dX5_put_18 : decode cX5_put 18 = .ok (.ireturn, 1) := by decide +kernel
theorem dX5_put_19 : decode cX5_put 19 = .ok (.iload_n 2, 1) := by decide +kernel
theorem dX5_put_20 : decode cX5_put 20 = .ok (.iconst 0, 1) := by decide +kernel
theorem dX5_put_21 : decode cX5_put 21 = .ok (.bipush 9, 2) := by decide +kernel
theorem dX5_put_23 : decode cX5_put 23 = .ok (.invokestatic 50, 3) := by decide +kernel
theorem dX5_put_26 : decode cX5_put 26 = .ok (.ifCond .ne 9, 3) := by decide +kernel
theorem dX5_put_29 : decode cX5_put 29 = .ok (.aload_n 0, 1) := by decide +kernel
theorem dX5_put_30 : decode cX5_put 30 = .ok (.iconst 2, 1) := by decide +kernel
theorem dX5_put_31 : decode cX5_put 31 = .ok (.invokevirtual 102, 3) := by decide +kernel
theorem dX5_put_34 : decode cX5_put 34 = .ok (.ireturn, 1) := by decide +kernel
theorem dX5_put_35 : decode cX5_put 35 = .ok (.aload_n 0, 1) := by decide +kernel
theorem dX5_put_36 : decode cX5_put 36 = .ok (.getfield 16, 3) := by decide +kernel
theorem dX5_put_39 : decode cX5_put 39 = .ok (.iload_n 1, 1) := by decide +kernel
theorem dX5_put_40 : decode cX5_put 40 = .ok (.iaload, 1) := by decide +kernel
theorem dX5_put_41 : decode cX5_put 41 = .ok (.iconst (-1), 1) := by decide +kernel
theorem dX5_put_42 : decode cX5_put 42 = .ok (.if_icmp .ne 9, 3) := by decide +kernel
theorem dX5_put_45 : decode cX5_put 45 = .ok (.aload_n 0, 1) := by decide +kernel
theorem dX5_put_46 : decode cX5_put 46 = .ok (.iconst 3, 1) := by decide +kernel
theorem dX5_put_47 : decode cX5_put 47 = .ok (.invokevirtual 102, 3) := by decide +kernel
theorem dX5_put_50 : decode cX5_put 50 = .ok (.ireturn, 1) := by decide +kernel
theorem dX5_put_51 : decode cX5_put 51 = .ok (.aload_n 0, 1) := by decide +kernel
theorem dX5_put_52 : decode cX5_put 52 = .ok (.getfield 16, 3) := by decide +kernel
theorem dX5_put_55 : decode cX5_put 55 = .ok (.iload_n 1, 1) := by decide +kernel
theorem dX5_put_56 : decode cX5_put 56 = .ok (.iaload, 1) := by decide +kernel
theorem dX5_put_57 : decode cX5_put 57 = .ok (.istore_n 3, 1) := by decide +kernel
theorem dX5_put_58 : decode cX5_put 58 = .ok (.aload_n 0, 1) := by decide +kernel
theorem dX5_put_59 : decode cX5_put 59 = .ok (.getfield 16, 3) := by decide +kernel
theorem dX5_put_62 : decode cX5_put 62 = .ok (.iload_n 1, 1) := by decide +kernel
theorem dX5_put_63 : decode cX5_put 63 = .ok (.iload_n 2, 1) := by decide +kernel
theorem dX5_put_64 : decode cX5_put 64 = .ok (.iastore, 1) := by decide +kernel
theorem dX5_put_65 : decode cX5_put 65 = .ok (.iload_n 3, 1) := by decide +kernel
theorem dX5_put_66 : decode cX5_put 66 = .ok (.ireturn, 1) := by decide +kernel
set_option maxRecDepth 20000 in
theorem ggX5_single_X5_canOf : GoodIn wsX5_single wsX5_canOf := goodIn_r _ [7, 8, 9, 10, 11, 6, 12, 13, 14, 15, 16, 17, 18, 19, 20, 21, 22, 23, 24, 25, 26, 27, 28, 29, 30, 1, 2, 31, 32, 33, 34, 35, 36, 37, 38, 39, 47, 48, 49, 50, 51, 52, 53, 54, 55, 56, 57, 58] (by decide +kernel) (by decide +kernel)
set_option maxRecDepth 20000 in
theorem gX5_single_X5_canOf : GoodIn wsX5_single (wsV RX5 108 RX5 yX5_canOf wsX5_canOf) := goodIn_app (goodIn_of _ (by decide +kernel)) ggX5_single_X5_canOf
set_option maxRecDepth 20000 in
theorem ggX5_single_J6_bitCount_0f7a4 : GoodIn wsX5_single wsJ6_bitCount_0f7a4 := goodIn_r _ [43, 44, 45, 46] (by decide +kernel) (by decide +kernel)
set_option maxRecDepth 20000 in
theorem gX5_single_J6_bitCount_0f7a4 : GoodIn wsX5_single (va_wsS RX5 35 yJ6_bitCount_0f7a4 wsJ6_bitCount_0f7a4) := goodIn_app (goodIn_of _ (by decide +kernel)) ggX5_single_J6_bitCount_0f7a4
theorem dX5_single_0 : decode cX5_single 0 = .ok (.iconst 0, 1) := by decide +kernel
theorem dX5_single_1 : decode cX5_single 1 = .ok (.istore_n 1, 1) := by decide +kernel
theorem dX5_single_2 : decode cX5_single 2 = .ok (.iload_n 1, 1) := by decide +kernel
theorem dX5_single_3 : decode cX5_single 3 = .ok (.aload_n 0, 1) := by decide +kernel
theorem dX5_single_4 : decode cX5_single 4 = .ok (.getfield 7, 3) := by decide +kernel
theorem dX5_single_7 : decode cX5_single 7 = .ok (.aload_n 0, 1) := by decide +kernel
theorem dX5_single_8 : decode cX5_single 8 = .ok (.getfield 13, 3) := by decide +kernel
theorem dX5_single_11 : decode cX5_single 11 = .ok (.imul, 1) := by decide +kernel
theorem dX5_single_12 : decode cX5_single 12 = .ok (.if_icmp .ge 23, 3) := by decide +kernel
theorem dX5_single_15 : decode cX5_single 15 = .ok (.aload_n 0, 1) := by decide +kernel
theorem dX5_single_16 : decode cX5_single 16 = .ok (.iload_n 1, 1) := by decide +kernel
theorem dX5_single_17 : decode cX5_single 17 = .ok (.invokevirtual 108, 3) := by decide +kernel
theorem dX5_single_20 : decode cX5_single 20 = .ok (.invokestatic 35, 3) := by decide +kernel
theorem dX5_single_23 : decode cX5_single 23 = .ok (.iconst 1, 1) := by decide +kernel
theorem dX5_single_24 : decode cX5_single 24 = .ok (.if_icmp .ne 5, 3) := by decide +kernel
theorem dX5_single_27 : decode cX5_single 27 = .ok (.iload_n 1, 1) := by decide +kernel
theorem dX5_single_28 : decode cX5_single 28 = .ok (.ireturn, 1) := by decide +kernel
theorem dX5_single_29 : decode cX5_single 29 = .ok (.iinc 1 1, 3) := by decide +kernel
theorem dX5_single_32 : decode cX5_single 32 = .ok (.goto (-30), 3) := by decide +kernel
theorem dX5_single_35 : decode cX5_single 35 = .ok (.iconst (-1), 1) := by decide +kernel
theorem dX5_single_36 : decode cX5_single 36 = .ok (.ireturn, 1) := by decide +kernel
set_option maxRecDepth 20000 in
theorem ggX5_force_X5_single : GoodIn wsX5_force wsX5_single := goodIn_r _ [7, 8, 9, 10, 11, 12, 6, 13, 2, 14, 15, 16, 17, 18, 19, 20, 21, 22, 23, 24, 25, 26, 27, 28, 29, 30, 31, 32, 33, 34, 35, 36, 37, 38, 39, 40, 41, 42, 43, 44, 45, 46, 47, 48, 49, 50, 51, 56, 57, 58, 59, 60, 61, 62, 63, 64, 65, 66, 67] (by decide +kernel) (by decide +kernel)
set_option maxRecDepth 20000 in
theorem gX5_force_X5_single : GoodIn wsX5_force (wsV RX5 111 RX5 yX5_single wsX5_single) := goodIn_app (goodIn_of _ (by decide +kernel)) ggX5_force_X5_single
set_option maxRecDepth 20000 in
theorem ggX5_force_X5_canOf : GoodIn wsX5_force wsX5_canOf := goodIn_r _ [13, 2, 14, 15, 16, 6, 17, 18, 19, 20, 21, 22, 23, 24, 25, 26, 27, 28, 29, 30, 31, 32, 33, 34, 35, 8, 9, 36, 37, 38, 39, 40, 41, 42, 43, 44, 56, 57, 58, 59, 60, 61, 62, 63, 64, 65, 66, 67] (by decide +kernel) (by decide +kernel)
set_option maxRecDepth 20000 in
theorem gX5_force_X5_canOf : GoodIn wsX5_force (wsV RX5 108 RX5 yX5_canOf wsX5_canOf) := goodIn_app (goodIn_of _ (by decide +kernel)) ggX5_force_X5_canOf
set_option maxRecDepth 20000 in
theorem ggX5_force_J6_numberOfTrailingZeros_0f7a4 : GoodIn wsX5_force wsJ6_numberOfTrailingZeros_0f7a4 := goodIn_r _ [54, 55] (by decide +kernel) (by decide +kernel)
set_option maxRecDepth 20000 in
theorem gX5_force_J6_numberOfTrailingZeros_0f7a4 : GoodIn wsX5_force (va_wsS RX5 115 yJ6_numberOfTrailingZeros_0f7a4 wsJ6_numberOfTrailingZeros_0f7a4) := goodIn_app (goodIn_of _ (by decide +kernel)) ggX5_force_J6_numberOfTrailingZeros_0f7a4
theorem dX5_force_0 : decode cX5_force 0 = .ok (.aload_n 0, 1) := by decide +kernel
theorem dX5_force_1 : decode cX5_force 1 = .ok (.iconst 0, 1) := by decide +kernel
theorem dX5_force_2 : decode cX5_force 2 = .ok (.putfield 47, 3) := by decide +kernel
theorem dX5_force_5 : decode cX5_force 5 = .ok (.iconst 0, 1) := by decide +kernel
theorem dX5_force_6 : decode cX5_force 6 = .ok (.istore_n 1, 1) := by decide +kernel
theorem dX5_force_7 : decode cX5_force 7 = .ok (.aload_n 0, 1) := by decide +kernel
theorem dX5_force_8 : decode cX5_force 8 = .ok (.invokevirtual 111, 3) := by decide +kernel
theorem dX5_force_11 : decode cX5_force 11 = .ok (.istore_n 2, 1) := by decide +kernel
theorem dX5_force_12 : decode cX5_force 12 = .ok (.iload_n 2, 1) := by decide +kernel
theorem dX5_force_13 : decode cX5_force 13 = .ok (.iconst (-1), 1) := by decide +kernel
theorem dX5_force_14 : decode cX5_force 14 = .ok (.if_icmp .eq 28, 3) := by decide +kernel
theorem dX5_force_17 : decode cX5_force 17 = .ok (.aload_n 0, 1) := by decide +kernel
theorem dX5_force_18 : decode cX5_force 18 = .ok (.getfield 16, 3) := by decide +kernel
theorem dX5_force_21 : decode cX5_force 21 = .ok (.iload_n 2, 1) := by decide +kernel
theorem dX5_force_22 : decode cX5_force 22 = .ok (.aload_n 0, 1) := by decide +kernel
theorem dX5_force_23 : decode cX5_force 23 = .ok (.iload_n 2, 1) := by decide +kernel
theorem dX5_force_24 : decode cX5_force 24 = .ok (.invokevirtual 108, 3) := by decide +kernel
theorem dX5_force_27 : decode cX5_force 27 = .ok (.invokestatic 115, 3) := by decide +kernel
theorem dX5_force_30 : decode cX5_force 30 = .ok (.iastore, 1) := by decide +kernel
theorem dX5_force_31 : decode cX5_force 31 = .ok (.iinc 1 1, 3) := by decide +kernel
theorem dX5_force_34 : decode cX5_force 34 = .ok (.aload_n 0, 1) := by decide +kernel
theorem dX5_force_35 : decode cX5_force 35 = .ok (.invokevirtual 111, 3) := by decide +kernel
theorem dX5_force_38 : decode cX5_force 38 = .ok (.istore_n 2, 1) := by decide +kernel
theorem dX5_force_39 : decode cX5_force 39 = .ok (.goto (-27), 3) := by decide +kernel
theorem dX5_force_42 : decode cX5_force 42 = .ok (.iload_n 1, 1) := by decide +kernel
theorem dX5_force_43 : decode cX5_force 43 = .ok (.ireturn, 1) := by decide +kernel
set_option maxRecDepth 20000 in
theorem ggX5_stone_X5_isCell : GoodIn wsX5_stone wsX5_isCell := goodIn_r _ [7, 8, 9, 10, 11, 6, 12, 17, 18, 19, 20, 21, 22, 23, 24, 25, 26, 27, 28] (by decide +kernel) (by decide +kernel)
set_option maxRecDepth 20000 in
theorem gX5_stone_X5_isCell : GoodIn wsX5_stone (wsV RX5 105 RX5 yX5_isCell wsX5_isCell) := goodIn_app (goodIn_of _ (by decide +kernel)) ggX5_stone_X5_isCell
set_option maxRecDepth 20000 in
theorem ggX5_stone_X5_no : GoodIn wsX5_stone wsX5_no := goodIn_r _ [16, 1, 17, 18, 19, 20, 21, 22, 23, 24, 25, 26, 27, 28] (by decide +kernel) (by decide +kernel)
set_option maxRecDepth 20000 in
theorem gX5_stone_X5_no : GoodIn wsX5_stone (wsV RX5 102 RX5 yX5_no wsX5_no) := goodIn_app (goodIn_of _ (by decide +kernel)) ggX5_stone_X5_no
theorem dX5_stone_0 : decode cX5_stone 0 = .ok (.aload_n 0, 1) := by decide +kernel
theorem dX5_stone_1 : decode cX5_stone 1 = .ok (.iconst 0, 1) := by decide +kernel
theorem dX5_stone_2 : decode cX5_stone 2 = .ok (.putfield 47, 3) := by decide +kernel
theorem dX5_stone_5 : decode cX5_stone 5 = .ok (.aload_n 0, 1) := by decide +kernel
theorem dX5_stone_6 : decode cX5_stone 6 = .ok (.iload_n 1, 1) := by decide +kernel
theorem dX5_stone_7 : decode cX5_stone 7 = .ok (.invokevirtual 105, 3) := by decide +kernel
theorem dX5_stone_10 : decode cX5_stone 10 = .ok (.ifCond .eq 12, 3) := by decide +kernel
theorem dX5_stone_13 : decode cX5_stone 13 = .ok (.aload_n 0, 1) := by decide +kernel
theorem dX5_stone_14 : decode cX5_stone 14 = .ok (.getfield 16, 3) := by decide +kernel
theorem dX5_stone_17 : decode cX5_stone 17 = .ok (.iload_n 1, 1) := by decide +kernel
theorem dX5_stone_18 : decode cX5_stone 18 = .ok (.iaload, 1) := by decide +kernel
theorem dX5_stone_19 : decode cX5_stone 19 = .ok (.goto 8, 3) := by decide +kernel
theorem dX5_stone_22 : decode cX5_stone 22 = .ok (.aload_n 0, 1) := by decide +kernel
theorem dX5_stone_23 : decode cX5_stone 23 = .ok (.iconst 1, 1) := by decide +kernel
theorem dX5_stone_24 : decode cX5_stone 24 = .ok (.invokevirtual 102, 3) := by decide +kernel
theorem dX5_stone_27 : decode cX5_stone 27 = .ok (.ireturn, 1) := by decide +kernel
set_option maxRecDepth 20000 in
theorem ggX5_corridorTold_X5_beginOf : GoodIn wsX5_corridorTold wsX5_beginOf := goodIn_r _ [7, 8, 32, 33, 34, 35, 36, 37, 38, 39, 40, 41, 42, 43] (by decide +kernel) (by decide +kernel)
set_option maxRecDepth 20000 in
theorem gX5_corridorTold_X5_beginOf : GoodIn wsX5_corridorTold (wsV RX5 54 RX5 yX5_beginOf wsX5_beginOf) := goodIn_app (goodIn_of _ (by decide +kernel)) ggX5_corridorTold_X5_beginOf
set_option maxRecDepth 20000 in
theorem ggX5_corridorTold_X5_isOpen : GoodIn wsX5_corridorTold wsX5_isOpen := goodIn_r _ [12, 1, 32, 33, 34, 35, 36, 37, 38, 39, 40, 41, 42, 43] (by decide +kernel) (by decide +kernel)
set_option maxRecDepth 20000 in
theorem gX5_corridorTold_X5_isOpen : GoodIn wsX5_corridorTold (wsV RX5 58 RX5 yX5_isOpen wsX5_isOpen) := goodIn_app (goodIn_of _ (by decide +kernel)) ggX5_corridorTold_X5_isOpen
set_option maxRecDepth 20000 in
theorem ggX5_corridorTold_X5_behind : GoodIn wsX5_corridorTold wsX5_behind := goodIn_r _ [16, 17, 18, 32, 33, 34, 35, 36, 37, 38, 39, 40, 41, 42, 43] (by decide +kernel) (by decide +kernel)
set_option maxRecDepth 20000 in
theorem gX5_corridorTold_X5_behind : GoodIn wsX5_corridorTold (wsV RX5 62 RX5 yX5_behind wsX5_behind) := goodIn_app (goodIn_of _ (by decide +kernel)) ggX5_corridorTold_X5_behind
set_option maxRecDepth 20000 in
theorem ggX5_corridorTold_X5_isWell : GoodIn wsX5_corridorTold wsX5_isWell := goodIn_r _ [22, 1, 2, 3, 4, 5, 6, 7, 8, 9, 10, 11, 12, 13, 14, 15, 16, 17, 18, 23, 24, 25, 26, 27, 28, 29, 30, 31, 32, 33, 34, 35, 36, 37, 38, 39, 40, 41, 42, 43] (by decide +kernel) (by decide +kernel)
set_option maxRecDepth 20000 in
theorem gX5_corridorTold_X5_isWell : GoodIn wsX5_corridorTold (wsV RX5 68 RX5 yX5_isWell wsX5_isWell) := goodIn_app (goodIn_of _ (by decide +kernel)) ggX5_corridorTold_X5_isWell
theorem dX5_corridorTold_0 : decode cX5_corridorTold 0 = .ok (.aload_n 0, 1) := by decide +kernel
theorem dX5_corridorTold_1 : decode cX5_corridorTold 1 = .ok (.getfield 16, 3) := by decide +kernel
theorem dX5_corridorTold_4 : decode cX5_corridorTold 4 = .ok (.iload_n 1, 1) := by decide +kernel
theorem dX5_corridorTold_5 : decode cX5_corridorTold 5 = .ok (.iaload, 1) := by decide +kernel
theorem dX5_corridorTold_6 : decode cX5_corridorTold 6 = .ok (.iconst (-1), 1) := by decide +kernel
theorem dX5_corridorTold_7 : decode cX5_corridorTold 7 = .ok (.if_icmp .ne 5, 3) := by decide +kernel
theorem dX5_corridorTold_10 : decode cX5_corridorTold 10 = .ok (.iconst (-1), 1) := by decide +kernel
theorem dX5_corridorTold_11 : decode cX5_corridorTold 11 = .ok (.ireturn, 1) := by decide +kernel
theorem dX5_corridorTold_12 : decode cX5_corridorTold 12 = .ok (.aload_n 0, 1) := by decide +kernel
theorem dX5_corridorTold_13 : decode cX5_corridorTold 13 = .ok (.iload_n 1, 1) := by decide +kernel
theorem dX5_corridorTold_14 : decode cX5_corridorTold 14 = .ok (.iload_n 2, 1) := by decide +kernel
theorem dX5_corridorTold_15 : decode cX5_corridorTold 15 = .ok (.invokevirtual 54, 3) := by decide +kernel
theorem dX5_corridorTold_18 : decode cX5_corridorTold 18 = .ok (.istore 4, 2) := by decide +kernel
theorem dX5_corridorTold_20 : decode cX5_corridorTold 20 = .ok (.iconst 0, 1) := by decide +kernel
theorem dX5_corridorTold_21 : decode cX5_corridorTold 21 = .ok (.istore 5, 2) := by decide +kernel
theorem dX5_corridorTold_23 : decode cX5_corridorTold 23 = .ok (.iconst 0, 1) := by decide +kernel
theorem dX5_corridorTold_24 : decode cX5_corridorTold 24 = .ok (.istore 6, 2) := by decide +kernel
theorem dX5_corridorTold_26 : decode cX5_corridorTold 26 = .ok (.iconst 0, 1) := by decide +kernel
theorem dX5_corridorTold_27 : decode cX5_corridorTold 27 = .ok (.istore 7, 2) := by decide +kernel
theorem dX5_corridorTold_29 : decode cX5_corridorTold 29 = .ok (.iload 4, 2) := by decide +kernel
theorem dX5_corridorTold_31 : decode cX5_corridorTold 31 = .ok (.istore 8, 2) := by decide +kernel
theorem dX5_corridorTold_33 : decode cX5_corridorTold 33 = .ok (.aload_n 0, 1) := by decide +kernel
theorem dX5_corridorTold_34 : decode cX5_corridorTold 34 = .ok (.iload 8, 2) := by decide +kernel
theorem dX5_corridorTold_36 : decode cX5_corridorTold 36 = .ok (.invokevirtual 58, 3) := by decide +kernel
theorem dX5_corridorTold_39 : decode cX5_corridorTold 39 = .ok (.ifCond .eq 50, 3) := by decide +kernel
theorem dX5_corridorTold_42 : decode cX5_corridorTold 42 = .ok (.iinc 5 1, 3) := by decide +kernel
theorem dX5_corridorTold_45 : decode cX5_corridorTold 45 = .ok (.iload 6, 2) := by decide +kernel
theorem dX5_corridorTold_47 : decode cX5_corridorTold 47 = .ok (.aload_n 0, 1) := by decide +kernel
theorem dX5_corridorTold_48 : decode cX5_corridorTold 48 = .ok (.getfield 16, 3) := by decide +kernel
theorem dX5_corridorTold_51 : decode cX5_corridorTold 51 = .ok (.iload 8, 2) := by decide +kernel
theorem dX5_corridorTold_53 : decode cX5_corridorTold 53 = .ok (.iaload, 1) := by decide +kernel
theorem dX5_corridorTold_54 : decode cX5_corridorTold 54 = .ok (.ifCond .le 7, 3) := by decide +kernel
theorem dX5_corridorTold_57 : decode cX5_corridorTold 57 = .ok (.iconst 1, 1) := by decide +kernel
theorem dX5_corridorTold_58 : decode cX5_corridorTold 58 = .ok (.goto 4, 3) := by decide +kernel
theorem dX5_corridorTold_61 : decode cX5_corridorTold 61 = .ok (.iconst 0, 1) := by decide +kernel
theorem dX5_corridorTold_62 : decode cX5_corridorTold 62 = .ok (.iadd, 1) := by decide +kernel
theorem dX5_corridorTold_63 : decode cX5_corridorTold 63 = .ok (.istore 6, 2) := by decide +kernel
theorem dX5_corridorTold_65 : decode cX5_corridorTold 65 = .ok (.iload 7, 2) := by decide +kernel
theorem dX5_corridorTold_67 : decode cX5_corridorTold 67 = .ok (.aload_n 0, 1) := by decide +kernel
theorem dX5_corridorTold_68 : decode cX5_corridorTold 68 = .ok (.getfield 16, 3) := by decide +kernel
theorem dX5_corridorTold_71 : decode cX5_corridorTold 71 = .ok (.iload 8, 2) := by decide +kernel
theorem dX5_corridorTold_73 : decode cX5_corridorTold 73 = .ok (.iaload, 1) := by decide +kernel
theorem dX5_corridorTold_74 : decode cX5_corridorTold 74 = .ok (.iadd, 1) := by decide +kernel
theorem dX5_corridorTold_75 : decode cX5_corridorTold 75 = .ok (.istore 7, 2) := by decide +kernel
theorem dX5_corridorTold_77 : decode cX5_corridorTold 77 = .ok (.aload_n 0, 1) := by decide +kernel
theorem dX5_corridorTold_78 : decode cX5_corridorTold 78 = .ok (.iload 8, 2) := by decide +kernel
theorem dX5_corridorTold_80 : decode cX5_corridorTold 80 = .ok (.iload_n 2, 1) := by decide +kernel
theorem dX5_corridorTold_81 : decode cX5_corridorTold 81 = .ok (.invokevirtual 62, 3) := by decide +kernel
theorem dX5_corridorTold_84 : decode cX5_corridorTold 84 = .ok (.istore 8, 2) := by decide +kernel
theorem dX5_corridorTold_86 : decode cX5_corridorTold 86 = .ok (.goto (-53), 3) := by decide +kernel
theorem dX5_corridorTold_89 : decode cX5_corridorTold 89 = .ok (.iload_n 3, 1) := by decide +kernel
theorem dX5_corridorTold_90 : decode cX5_corridorTold 90 = .ok (.tableswitch 59 0 4 #[34, 37, 40, 53, 56], 34) := by decide +kernel
theorem dX5_corridorTold_124 : decode cX5_corridorTold 124 = .ok (.iload 4, 2) := by decide +kernel
theorem dX5_corridorTold_126 : decode cX5_corridorTold 126 = .ok (.ireturn, 1) := by decide +kernel
theorem dX5_corridorTold_127 : decode cX5_corridorTold 127 = .ok (.iload 5, 2) := by decide +kernel
theorem dX5_corridorTold_129 : decode cX5_corridorTold 129 = .ok (.ireturn, 1) := by decide +kernel
theorem dX5_corridorTold_130 : decode cX5_corridorTold 130 = .ok (.aload_n 0, 1) := by decide +kernel
theorem dX5_corridorTold_131 : decode cX5_corridorTold 131 = .ok (.getfield 20, 3) := by decide +kernel
theorem dX5_corridorTold_134 : decode cX5_corridorTold 134 = .ok (.bipush 36, 2) := by decide +kernel
theorem dX5_corridorTold_136 : decode cX5_corridorTold 136 = .ok (.iload_n 2, 1) := by decide +kernel
theorem dX5_corridorTold_137 : decode cX5_corridorTold 137 = .ok (.imul, 1) := by decide +kernel
theorem dX5_corridorTold_138 : decode cX5_corridorTold 138 = .ok (.iload 4, 2) := by decide +kernel
theorem dX5_corridorTold_140 : decode cX5_corridorTold 140 = .ok (.iadd, 1) := by decide +kernel
theorem dX5_corridorTold_141 : decode cX5_corridorTold 141 = .ok (.iaload, 1) := by decide +kernel
theorem dX5_corridorTold_142 : decode cX5_corridorTold 142 = .ok (.ireturn, 1) := by decide +kernel
theorem dX5_corridorTold_143 : decode cX5_corridorTold 143 = .ok (.iload 6, 2) := by decide +kernel
theorem dX5_corridorTold_145 : decode cX5_corridorTold 145 = .ok (.ireturn, 1) := by decide +kernel
theorem dX5_corridorTold_146 : decode cX5_corridorTold 146 = .ok (.iload 7, 2) := by decide +kernel
theorem dX5_corridorTold_148 : decode cX5_corridorTold 148 = .ok (.ireturn, 1) := by decide +kernel
theorem dX5_corridorTold_149 : decode cX5_corridorTold 149 = .ok (.aload_n 0, 1) := by decide +kernel
theorem dX5_corridorTold_150 : decode cX5_corridorTold 150 = .ok (.iload_n 1, 1) := by decide +kernel
theorem dX5_corridorTold_151 : decode cX5_corridorTold 151 = .ok (.iload_n 2, 1) := by decide +kernel
theorem dX5_corridorTold_152 : decode cX5_corridorTold 152 = .ok (.invokevirtual 68, 3) := by decide +kernel
theorem dX5_corridorTold_155 : decode cX5_corridorTold 155 = .ok (.ifCond .eq 7, 3) := by decide +kernel
theorem dX5_corridorTold_158 : decode cX5_corridorTold 158 = .ok (.iconst 1, 1) := by decide +kernel
theorem dX5_corridorTold_159 : decode cX5_corridorTold 159 = .ok (.goto 4, 3) := by decide +kernel
theorem dX5_corridorTold_162 : decode cX5_corridorTold 162 = .ok (.iconst 0, 1) := by decide +kernel
theorem dX5_corridorTold_163 : decode cX5_corridorTold 163 = .ok (.ireturn, 1) := by decide +kernel
set_option maxRecDepth 20000 in
theorem ggX5_corridor_X5_isCell : GoodIn wsX5_corridor wsX5_isCell := goodIn_r _ [6, 7, 8, 9, 10, 5, 11, 48, 49, 50, 51, 52, 53, 54, 55, 56, 57, 58, 59] (by decide +kernel) (by decide +kernel)
set_option maxRecDepth 20000 in
theorem gX5_corridor_X5_isCell : GoodIn wsX5_corridor (wsV RX5 105 RX5 yX5_isCell wsX5_isCell) := goodIn_app (goodIn_of _ (by decide +kernel)) ggX5_corridor_X5_isCell
set_option maxRecDepth 20000 in
theorem ggX5_corridor_X5_isIn : GoodIn wsX5_corridor wsX5_isIn := goodIn_r _ [11] (by decide +kernel) (by decide +kernel)
set_option maxRecDepth 20000 in
theorem gX5_corridor_X5_isIn : GoodIn wsX5_corridor (va_wsS RX5 50 yX5_isIn wsX5_isIn) := goodIn_app (goodIn_of _ (by decide +kernel)) ggX5_corridor_X5_isIn
set_option maxRecDepth 20000 in
theorem ggX5_corridor_X5_corridorTold : GoodIn wsX5_corridor wsX5_corridorTold := goodIn_r _ [15, 16, 17, 18, 19, 20, 5, 21, 22, 23, 24, 25, 26, 27, 28, 29, 30, 7, 8, 31, 32, 33, 34, 35, 36, 37, 38, 39, 40, 41, 42, 43, 48, 49, 50, 51, 52, 53, 54, 55, 56, 57, 58, 59] (by decide +kernel) (by decide +kernel)
set_option maxRecDepth 20000 in
theorem gX5_corridor_X5_corridorTold : GoodIn wsX5_corridor (wsV RX5 118 RX5 yX5_corridorTold wsX5_corridorTold) := goodIn_app (goodIn_of _ (by decide +kernel)) ggX5_corridor_X5_corridorTold
set_option maxRecDepth 20000 in
theorem ggX5_corridor_X5_no : GoodIn wsX5_corridor wsX5_no := goodIn_r _ [47, 1, 48, 49, 50, 51, 52, 53, 54, 55, 56, 57, 58, 59] (by decide +kernel) (by decide +kernel)
set_option maxRecDepth 20000 in
theorem gX5_corridor_X5_no : GoodIn wsX5_corridor (wsV RX5 102 RX5 yX5_no wsX5_no) := goodIn_app (goodIn_of _ (by decide +kernel)) ggX5_corridor_X5_no
theorem dX5_corridor_0 : decode cX5_corridor 0 = .ok (.aload_n 0, 1) := by decide +kernel
theorem dX5_corridor_1 : decode cX5_corridor 1 = .ok (.iconst 0, 1) := by decide +kernel
theorem dX5_corridor_2 : decode cX5_corridor 2 = .ok (.putfield 47, 3) := by decide +kernel
theorem dX5_corridor_5 : decode cX5_corridor 5 = .ok (.aload_n 0, 1) := by decide +kernel
theorem dX5_corridor_6 : decode cX5_corridor 6 = .ok (.iload_n 1, 1) := by decide +kernel
theorem dX5_corridor_7 : decode cX5_corridor 7 = .ok (.invokevirtual 105, 3) := by decide +kernel
theorem dX5_corridor_10 : decode cX5_corridor 10 = .ok (.ifCond .eq 30, 3) := by decide +kernel
theorem dX5_corridor_13 : decode cX5_corridor 13 = .ok (.iload_n 3, 1) := by decide +kernel
theorem dX5_corridor_14 : decode cX5_corridor 14 = .ok (.iconst 0, 1) := by decide +kernel
theorem dX5_corridor_15 : decode cX5_corridor 15 = .ok (.iconst 5, 1) := by decide +kernel
theorem dX5_corridor_16 : decode cX5_corridor 16 = .ok (.invokestatic 50, 3) := by decide +kernel
theorem dX5_corridor_19 : decode cX5_corridor 19 = .ok (.ifCond .eq 21, 3) := by decide +kernel
theorem dX5_corridor_22 : decode cX5_corridor 22 = .ok (.aload_n 0, 1) := by decide +kernel
theorem dX5_corridor_23 : decode cX5_corridor 23 = .ok (.iload_n 1, 1) := by decide +kernel
theorem dX5_corridor_24 : decode cX5_corridor 24 = .ok (.iload_n 2, 1) := by decide +kernel
theorem dX5_corridor_25 : decode cX5_corridor 25 = .ok (.ifCond .eq 7, 3) := by decide +kernel
theorem dX5_corridor_28 : decode cX5_corridor 28 = .ok (.iconst 1, 1) := by decide +kernel
theorem dX5_corridor_29 : decode cX5_corridor 29 = .ok (.goto 4, 3) := by decide +kernel
theorem dX5_corridor_32 : decode cX5_corridor 32 = .ok (.iconst 0, 1) := by decide +kernel
theorem dX5_corridor_33 : decode cX5_corridor 33 = .ok (.iload_n 3, 1) := by decide +kernel
theorem dX5_corridor_34 : decode cX5_corridor 34 = .ok (.invokevirtual 118, 3) := by decide +kernel
theorem dX5_corridor_37 : decode cX5_corridor 37 = .ok (.goto 8, 3) := by decide +kernel
theorem dX5_corridor_40 : decode cX5_corridor 40 = .ok (.aload_n 0, 1) := by decide +kernel
theorem dX5_corridor_41 : decode cX5_corridor 41 = .ok (.iconst 1, 1) := by decide +kernel
theorem dX5_corridor_42 : decode cX5_corridor 42 = .ok (.invokevirtual 102, 3) := by decide +kernel
theorem dX5_corridor_45 : decode cX5_corridor 45 = .ok (.ireturn, 1) := by decide +kernel
set_option maxRecDepth 20000 in
theorem ggX5_can_X5_isCell : GoodIn wsX5_can wsX5_isCell := goodIn_r _ [6, 7, 8, 9, 10, 5, 11, 52, 53, 54, 55, 56, 57, 58, 59, 60, 61, 62, 63] (by decide +kernel) (by decide +kernel)
set_option maxRecDepth 20000 in
theorem gX5_can_X5_isCell : GoodIn wsX5_can (wsV RX5 105 RX5 yX5_isCell wsX5_isCell) := goodIn_app (goodIn_of _ (by decide +kernel)) ggX5_can_X5_isCell
set_option maxRecDepth 20000 in
theorem ggX5_can_X5_canOf : GoodIn wsX5_can wsX5_canOf := goodIn_r _ [15, 16, 17, 18, 19, 5, 20, 21, 22, 23, 24, 25, 26, 27, 28, 29, 30, 31, 32, 33, 34, 35, 36, 37, 38, 7, 8, 39, 40, 41, 42, 43, 44, 45, 46, 47, 52, 53, 54, 55, 56, 57, 58, 59, 60, 61, 62, 63] (by decide +kernel) (by decide +kernel)
set_option maxRecDepth 20000 in
theorem gX5_can_X5_canOf : GoodIn wsX5_can (wsV RX5 108 RX5 yX5_canOf wsX5_canOf) := goodIn_app (goodIn_of _ (by decide +kernel)) ggX5_can_X5_canOf
set_option maxRecDepth 20000 in
theorem ggX5_can_X5_no : GoodIn wsX5_can wsX5_no := goodIn_r _ [51, 1, 52, 53, 54, 55, 56, 57, 58, 59, 60, 61, 62, 63] (by decide +kernel) (by decide +kernel)
set_option maxRecDepth 20000 in
theorem gX5_can_X5_no : GoodIn wsX5_can (wsV RX5 102 RX5 yX5_no wsX5_no) := goodIn_app (goodIn_of _ (by decide +kernel)) ggX5_can_X5_no
theorem dX5_can_0 : decode cX5_can 0 = .ok (.aload_n 0, 1) := by decide +kernel
theorem dX5_can_1 : decode cX5_can 1 = .ok (.iconst 0, 1) := by decide +kernel
theorem dX5_can_2 : decode cX5_can 2 = .ok (.putfield 47, 3) := by decide +kernel
theorem dX5_can_5 : decode cX5_can 5 = .ok (.aload_n 0, 1) := by decide +kernel
theorem dX5_can_6 : decode cX5_can 6 = .ok (.iload_n 1, 1) := by decide +kernel
theorem dX5_can_7 : decode cX5_can 7 = .ok (.invokevirtual 105, 3) := by decide +kernel
theorem dX5_can_10 : decode cX5_can 10 = .ok (.ifCond .eq 11, 3) := by decide +kernel
theorem dX5_can_13 : decode cX5_can 13 = .ok (.aload_n 0, 1) := by decide +kernel
theorem dX5_can_14 : decode cX5_can 14 = .ok (.iload_n 1, 1) := by decide +kernel
theorem dX5_can_15 : decode cX5_can 15 = .ok (.invokevirtual 108, 3) := by decide +kernel
theorem dX5_can_18 : decode cX5_can 18 = .ok (.goto 8, 3) := by decide +kernel
theorem dX5_can_21 : decode cX5_can 21 = .ok (.aload_n 0, 1) := by decide +kernel
theorem dX5_can_22 : decode cX5_can 22 = .ok (.iconst 1, 1) := by decide +kernel
theorem dX5_can_23 : decode cX5_can 23 = .ok (.invokevirtual 102, 3) := by decide +kernel
theorem dX5_can_26 : decode cX5_can 26 = .ok (.ireturn, 1) := by decide +kernel
set_option maxRecDepth 20000 in
theorem ggX5_corridors_X5_beginOf : GoodIn wsX5_corridors wsX5_beginOf := goodIn_r _ [9, 10, 32, 33, 34, 35, 36, 37, 38, 39, 40, 41, 42, 43] (by decide +kernel) (by decide +kernel)
set_option maxRecDepth 20000 in
theorem gX5_corridors_X5_beginOf : GoodIn wsX5_corridors (wsV RX5 54 RX5 yX5_beginOf wsX5_beginOf) := goodIn_app (goodIn_of _ (by decide +kernel)) ggX5_corridors_X5_beginOf
set_option maxRecDepth 20000 in
theorem ggX5_corridors_X5_isWell : GoodIn wsX5_corridors wsX5_isWell := goodIn_r _ [14, 3, 4, 5, 6, 7, 8, 9, 10, 15, 16, 17, 18, 19, 20, 21, 22, 1, 2, 23, 24, 25, 26, 27, 28, 29, 30, 31, 32, 33, 34, 35, 36, 37, 38, 39, 40, 41, 42, 43] (by decide +kernel) (by decide +kernel)
set_option maxRecDepth 20000 in
theorem gX5_corridors_X5_isWell : GoodIn wsX5_corridors (wsV RX5 68 RX5 yX5_isWell wsX5_isWell) := goodIn_app (goodIn_of _ (by decide +kernel)) ggX5_corridors_X5_isWell
theorem dX5_corridors_0 : decode cX5_corridors 0 = .ok (.iconst 0, 1) := by decide +kernel
theorem dX5_corridors_1 : decode cX5_corridors 1 = .ok (.istore_n 2, 1) := by decide +kernel
theorem dX5_corridors_2 : decode cX5_corridors 2 = .ok (.iconst 0, 1) := by decide +kernel
theorem dX5_corridors_3 : decode cX5_corridors 3 = .ok (.istore_n 3, 1) := by decide +kernel
theorem dX5_corridors_4 : decode cX5_corridors 4 = .ok (.iload_n 3, 1) := by decide +kernel
theorem dX5_corridors_5 : decode cX5_corridors 5 = .ok (.iconst 2, 1) := by decide +kernel
theorem dX5_corridors_6 : decode cX5_corridors 6 = .ok (.aload_n 0, 1) := by decide +kernel
theorem dX5_corridors_7 : decode cX5_corridors 7 = .ok (.getfield 7, 3) := by decide +kernel
theorem dX5_corridors_10 : decode cX5_corridors 10 = .ok (.imul, 1) := by decide +kernel
theorem dX5_corridors_11 : decode cX5_corridors 11 = .ok (.aload_n 0, 1) := by decide +kernel
theorem dX5_corridors_12 : decode cX5_corridors 12 = .ok (.getfield 13, 3) := by decide +kernel
theorem dX5_corridors_15 : decode cX5_corridors 15 = .ok (.imul, 1) := by decide +kernel
theorem dX5_corridors_16 : decode cX5_corridors 16 = .ok (.if_icmp .ge 97, 3) := by decide +kernel
theorem dX5_corridors_19 : decode cX5_corridors 19 = .ok (.iload_n 3, 1) := by decide +kernel
theorem dX5_corridors_20 : decode cX5_corridors 20 = .ok (.iconst 2, 1) := by decide +kernel
theorem dX5_corridors_21 : decode cX5_corridors 21 = .ok (.idiv, 1) := by decide +kernel
theorem dX5_corridors_22 : decode cX5_corridors 22 = .ok (.istore 4, 2) := by decide +kernel
theorem dX5_corridors_24 : decode cX5_corridors 24 = .ok (.iload_n 3, 1) := by decide +kernel
theorem dX5_corridors_25 : decode cX5_corridors 25 = .ok (.iconst 2, 1) := by decide +kernel
theorem dX5_corridors_26 : decode cX5_corridors 26 = .ok (.irem, 1) := by decide +kernel
theorem dX5_corridors_27 : decode cX5_corridors 27 = .ok (.istore 5, 2) := by decide +kernel
theorem dX5_corridors_29 : decode cX5_corridors 29 = .ok (.aload_n 0, 1) := by decide +kernel
theorem dX5_corridors_30 : decode cX5_corridors 30 = .ok (.getfield 16, 3) := by decide +kernel
theorem dX5_corridors_33 : decode cX5_corridors 33 = .ok (.iload 4, 2) := by decide +kernel
theorem dX5_corridors_35 : decode cX5_corridors 35 = .ok (.iaload, 1) := by decide +kernel
theorem dX5_corridors_36 : decode cX5_corridors 36 = .ok (.iconst (-1), 1) := by decide +kernel
theorem dX5_corridors_37 : decode cX5_corridors 37 = .ok (.if_icmp .eq 70, 3) := by decide +kernel
theorem dX5_corridors_40 : decode cX5_corridors 40 = .ok (.aload_n 0, 1) := by decide +kernel
theorem dX5_corridors_41 : decode cX5_corridors 41 = .ok (.iload 4, 2) := by decide +kernel
theorem dX5_corridors_43 : decode cX5_corridors 43 = .ok (.iload 5, 2) := by decide +kernel
theorem dX5_corridors_45 : decode cX5_corridors 45 = .ok (.invokevirtual 54, 3) := by decide +kernel
theorem dX5_corridors_48 : decode cX5_corridors 48 = .ok (.iload 4, 2) := by decide +kernel
theorem dX5_corridors_50 : decode cX5_corridors 50 = .ok (.if_icmp .eq 6, 3) := by decide +kernel
theorem dX5_corridors_53 : decode cX5_corridors 53 = .ok (.goto 54, 3) := by decide +kernel
theorem dX5_corridors_56 : decode cX5_corridors 56 = .ok (.iload_n 2, 1) := by decide +kernel
theorem dX5_corridors_57 : decode cX5_corridors 57 = .ok (.iload_n 1, 1) := by decide +kernel
theorem dX5_corridors_58 : decode cX5_corridors 58 = .ok (.iconst 4, 1) := by decide +kernel
theorem dX5_corridors_59 : decode cX5_corridors 59 = .ok (.if_icmp .eq 41, 3) := by decide +kernel
theorem dX5_corridors_62 : decode cX5_corridors 62 = .ok (.iload_n 1, 1) := by decide +kernel
theorem dX5_corridors_63 : decode cX5_corridors 63 = .ok (.iconst 5, 1) := by decide +kernel
theorem dX5_corridors_64 : decode cX5_corridors 64 = .ok (.if_icmp .ne 19, 3) := by decide +kernel
theorem dX5_corridors_67 : decode cX5_corridors 67 = .ok (.aload_n 0, 1) := by decide +kernel
theorem dX5_corridors_68 : decode cX5_corridors 68 = .ok (.getfield 20, 3) := by decide +kernel
theorem dX5_corridors_71 : decode cX5_corridors 71 = .ok (.bipush 36, 2) := by decide +kernel
theorem dX5_corridors_73 : decode cX5_corridors 73 = .ok (.iload 5, 2) := by decide +kernel
theorem dX5_corridors_75 : decode cX5_corridors 75 = .ok (.imul, 1) := by decide +kernel
theorem dX5_corridors_76 : decode cX5_corridors 76 = .ok (.iload 4, 2) := by decide +kernel
theorem dX5_corridors_78 : decode cX5_corridors 78 = .ok (.iadd, 1) := by decide +kernel
theorem dX5_corridors_79 : decode cX5_corridors 79 = .ok (.iaload, 1) := by decide +kernel
theorem dX5_corridors_80 : decode cX5_corridors 80 = .ok (.ifCond .gt 20, 3) := by decide +kernel
theorem dX5_corridors_83 : decode cX5_corridors 83 = .ok (.iload_n 1, 1) := by decide +kernel
theorem dX5_corridors_84 : decode cX5_corridors 84 = .ok (.bipush 6, 2) := by decide +kernel
theorem dX5_corridors_86 : decode cX5_corridors 86 = .ok (.if_icmp .ne 18, 3) := by decide +kernel
theorem dX5_corridors_89 : decode cX5_corridors 89 = .ok (.aload_n 0, 1) := by decide +kernel
theorem dX5_corridors_90 : decode cX5_corridors 90 = .ok (.iload 4, 2) := by decide +kernel
theorem dX5_corridors_92 : decode cX5_corridors 92 = .ok (.iload 5, 2) := by decide +kernel
theorem dX5_corridors_94 : decode cX5_corridors 94 = .ok (.invokevirtual 68, 3) := by decide +kernel
theorem dX5_corridors_97 : decode cX5_corridors 97 = .ok (.ifCond .eq 7, 3) := by decide +kernel
theorem dX5_corridors_100 : decode cX5_corridors 100 = .ok (.iconst 1, 1) := by decide +kernel
theorem dX5_corridors_101 : decode cX5_corridors 101 = .ok (.goto 4, 3) := by decide +kernel
theorem dX5_corridors_104 : decode cX5_corridors 104 = .ok (.iconst 0, 1) := by decide +kernel
theorem dX5_corridors_105 : decode cX5_corridors 105 = .ok (.iadd, 1) := by decide +kernel
theorem dX5_corridors_106 : decode cX5_corridors 106 = .ok (.istore_n 2, 1) := by decide +kernel
theorem dX5_corridors_107 : decode cX5_corridors 107 = .ok (.iinc 3 1, 3) := by decide +kernel
theorem dX5_corridors_110 : decode cX5_corridors 110 = .ok (.goto (-106), 3) := by decide +kernel
theorem dX5_corridors_113 : decode cX5_corridors 113 = .ok (.iload_n 2, 1) := by decide +kernel
theorem dX5_corridors_114 : decode cX5_corridors 114 = .ok (.ireturn, 1) := by decide +kernel
set_option maxRecDepth 20000 in
theorem ggX5_counted_X5_corridors : GoodIn wsX5_counted wsX5_corridors := goodIn_r _ [8, 1, 2, 3, 9, 10, 11, 12, 7, 13, 14, 15, 16, 17, 18, 19, 20, 21, 22, 23, 24, 25, 26, 27, 28, 29, 30, 31, 32, 33, 34, 35, 51, 52, 53, 54, 55, 56, 57, 58, 59, 60, 61, 62] (by decide +kernel) (by decide +kernel)
set_option maxRecDepth 20000 in
theorem gX5_counted_X5_corridors : GoodIn wsX5_counted (wsV RX5 122 RX5 yX5_corridors wsX5_corridors) := goodIn_app (goodIn_of _ (by decide +kernel)) ggX5_counted_X5_corridors
set_option maxRecDepth 20000 in
theorem ggX5_counted_X5_canOf : GoodIn wsX5_counted wsX5_canOf := goodIn_r _ [39, 3, 40, 41, 42, 7, 43, 15, 16, 17, 18, 9, 10, 11, 12, 13, 14, 19, 20, 21, 22, 23, 24, 25, 26, 1, 2, 27, 28, 29, 30, 31, 32, 33, 34, 35, 51, 52, 53, 54, 55, 56, 57, 58, 59, 60, 61, 62] (by decide +kernel) (by decide +kernel)
set_option maxRecDepth 20000 in
theorem gX5_counted_X5_canOf : GoodIn wsX5_counted (wsV RX5 108 RX5 yX5_canOf wsX5_canOf) := goodIn_app (goodIn_of _ (by decide +kernel)) ggX5_counted_X5_canOf
set_option maxRecDepth 20000 in
theorem ggX5_counted_J6_bitCount_0f7a4 : GoodIn wsX5_counted wsJ6_bitCount_0f7a4 := goodIn_r _ [47, 48, 49, 50] (by decide +kernel) (by decide +kernel)
set_option maxRecDepth 20000 in
theorem gX5_counted_J6_bitCount_0f7a4 : GoodIn wsX5_counted (va_wsS RX5 35 yJ6_bitCount_0f7a4 wsJ6_bitCount_0f7a4) := goodIn_app (goodIn_of _ (by decide +kernel)) ggX5_counted_J6_bitCount_0f7a4
theorem dX5_counted_0 : decode cX5_counted 0 = .ok (.iconst 0, 1) := by decide +kernel
theorem dX5_counted_1 : decode cX5_counted 1 = .ok (.istore_n 2, 1) := by decide +kernel
theorem dX5_counted_2 : decode cX5_counted 2 = .ok (.iload_n 1, 1) := by decide +kernel
theorem dX5_counted_3 : decode cX5_counted 3 = .ok (.tableswitch 143 0 6 #[41, 51, 56, 97, 137, 137, 137], 41) := by decide +kernel
theorem dX5_counted_44 : decode cX5_counted 44 = .ok (.aload_n 0, 1) := by decide +kernel
theorem dX5_counted_45 : decode cX5_counted 45 = .ok (.getfield 7, 3) := by decide +kernel
theorem dX5_counted_48 : decode cX5_counted 48 = .ok (.aload_n 0, 1) := by decide +kernel
theorem dX5_counted_49 : decode cX5_counted 49 = .ok (.getfield 13, 3) := by decide +kernel
theorem dX5_counted_52 : decode cX5_counted 52 = .ok (.imul, 1) := by decide +kernel
theorem dX5_counted_53 : decode cX5_counted 53 = .ok (.ireturn, 1) := by decide +kernel
theorem dX5_counted_54 : decode cX5_counted 54 = .ok (.aload_n 0, 1) := by decide +kernel
theorem dX5_counted_55 : decode cX5_counted 55 = .ok (.getfield 7, 3) := by decide +kernel
theorem dX5_counted_58 : decode cX5_counted 58 = .ok (.ireturn, 1) := by decide +kernel
theorem dX5_counted_59 : decode cX5_counted 59 = .ok (.iconst 0, 1) := by decide +kernel
theorem dX5_counted_60 : decode cX5_counted 60 = .ok (.istore_n 3, 1) := by decide +kernel
theorem dX5_counted_61 : decode cX5_counted 61 = .ok (.iload_n 3, 1) := by decide +kernel
theorem dX5_counted_62 : decode cX5_counted 62 = .ok (.aload_n 0, 1) := by decide +kernel
theorem dX5_counted_63 : decode cX5_counted 63 = .ok (.getfield 7, 3) := by decide +kernel
theorem dX5_counted_66 : decode cX5_counted 66 = .ok (.aload_n 0, 1) := by decide +kernel
theorem dX5_counted_67 : decode cX5_counted 67 = .ok (.getfield 13, 3) := by decide +kernel
theorem dX5_counted_70 : decode cX5_counted 70 = .ok (.imul, 1) := by decide +kernel
theorem dX5_counted_71 : decode cX5_counted 71 = .ok (.if_icmp .ge 27, 3) := by decide +kernel
theorem dX5_counted_74 : decode cX5_counted 74 = .ok (.iload_n 2, 1) := by decide +kernel
theorem dX5_counted_75 : decode cX5_counted 75 = .ok (.aload_n 0, 1) := by decide +kernel
theorem dX5_counted_76 : decode cX5_counted 76 = .ok (.getfield 16, 3) := by decide +kernel
theorem dX5_counted_79 : decode cX5_counted 79 = .ok (.iload_n 3, 1) := by decide +kernel
theorem dX5_counted_80 : decode cX5_counted 80 = .ok (.iaload, 1) := by decide +kernel
theorem dX5_counted_81 : decode cX5_counted 81 = .ok (.iconst (-1), 1) := by decide +kernel
theorem dX5_counted_82 : decode cX5_counted 82 = .ok (.if_icmp .ne 7, 3) := by decide +kernel
theorem dX5_counted_85 : decode cX5_counted 85 = .ok (.iconst 0, 1) := by decide +kernel
theorem dX5_counted_86 : decode cX5_counted 86 = .ok (.goto 4, 3) := by decide +kernel
theorem dX5_counted_89 : decode cX5_counted 89 = .ok (.iconst 1, 1) := by decide +kernel
theorem dX5_counted_90 : decode cX5_counted 90 = .ok (.iadd, 1) := by decide +kernel
theorem dX5_counted_91 : decode cX5_counted 91 = .ok (.istore_n 2, 1) := by decide +kernel
theorem dX5_counted_92 : decode cX5_counted 92 = .ok (.iinc 3 1, 3) := by decide +kernel
theorem dX5_counted_95 : decode cX5_counted 95 = .ok (.goto (-34), 3) := by decide +kernel
theorem dX5_counted_98 : decode cX5_counted 98 = .ok (.iload_n 2, 1) := by decide +kernel
theorem dX5_counted_99 : decode cX5_counted 99 = .ok (.ireturn, 1) := by decide +kernel
theorem dX5_counted_100 : decode cX5_counted 100 = .ok (.iconst 0, 1) := by decide +kernel
theorem dX5_counted_101 : decode cX5_counted 101 = .ok (.istore_n 3, 1) := by decide +kernel
theorem dX5_counted_102 : decode cX5_counted 102 = .ok (.iload_n 3, 1) := by decide +kernel
theorem dX5_counted_103 : decode cX5_counted 103 = .ok (.aload_n 0, 1) := by decide +kernel
theorem dX5_counted_104 : decode cX5_counted 104 = .ok (.getfield 7, 3) := by decide +kernel
theorem dX5_counted_107 : decode cX5_counted 107 = .ok (.aload_n 0, 1) := by decide +kernel
theorem dX5_counted_108 : decode cX5_counted 108 = .ok (.getfield 13, 3) := by decide +kernel
theorem dX5_counted_111 : decode cX5_counted 111 = .ok (.imul, 1) := by decide +kernel
theorem dX5_counted_112 : decode cX5_counted 112 = .ok (.if_icmp .ge 26, 3) := by decide +kernel
theorem dX5_counted_115 : decode cX5_counted 115 = .ok (.iload_n 2, 1) := by decide +kernel
theorem dX5_counted_116 : decode cX5_counted 116 = .ok (.aload_n 0, 1) := by decide +kernel
theorem dX5_counted_117 : decode cX5_counted 117 = .ok (.getfield 16, 3) := by decide +kernel
theorem dX5_counted_120 : decode cX5_counted 120 = .ok (.iload_n 3, 1) := by decide +kernel
theorem dX5_counted_121 : decode cX5_counted 121 = .ok (.iaload, 1) := by decide +kernel
theorem dX5_counted_122 : decode cX5_counted 122 = .ok (.ifCond .le 7, 3) := by decide +kernel
theorem dX5_counted_125 : decode cX5_counted 125 = .ok (.iconst 1, 1) := by decide +kernel
theorem dX5_counted_126 : decode cX5_counted 126 = .ok (.goto 4, 3) := by decide +kernel
theorem dX5_counted_129 : decode cX5_counted 129 = .ok (.iconst 0, 1) := by decide +kernel
theorem dX5_counted_130 : decode cX5_counted 130 = .ok (.iadd, 1) := by decide +kernel
theorem dX5_counted_131 : decode cX5_counted 131 = .ok (.istore_n 2, 1) := by decide +kernel
theorem dX5_counted_132 : decode cX5_counted 132 = .ok (.iinc 3 1, 3) := by decide +kernel
theorem dX5_counted_135 : decode cX5_counted 135 = .ok (.goto (-33), 3) := by decide +kernel
theorem dX5_counted_138 : decode cX5_counted 138 = .ok (.iload_n 2, 1) := by decide +kernel
theorem dX5_counted_139 : decode cX5_counted 139 = .ok (.ireturn, 1) := by decide +kernel
theorem dX5_counted_140 : decode cX5_counted 140 = .ok (.aload_n 0, 1) := by decide +kernel
theorem dX5_counted_141 : decode cX5_counted 141 = .ok (.iload_n 1, 1) := by decide +kernel
theorem dX5_counted_142 : decode cX5_counted 142 = .ok (.invokevirtual 122, 3) := by decide +kernel
theorem dX5_counted_145 : decode cX5_counted 145 = .ok (.ireturn, 1) := by decide +kernel
theorem dX5_counted_146 : decode cX5_counted 146 = .ok (.iconst 0, 1) := by decide +kernel
theorem dX5_counted_147 : decode cX5_counted 147 = .ok (.istore_n 3, 1) := by decide +kernel
theorem dX5_counted_148 : decode cX5_counted 148 = .ok (.iload_n 3, 1) := by decide +kernel
theorem dX5_counted_149 : decode cX5_counted 149 = .ok (.aload_n 0, 1) := by decide +kernel
theorem dX5_counted_150 : decode cX5_counted 150 = .ok (.getfield 7, 3) := by decide +kernel
theorem dX5_counted_153 : decode cX5_counted 153 = .ok (.aload_n 0, 1) := by decide +kernel
theorem dX5_counted_154 : decode cX5_counted 154 = .ok (.getfield 13, 3) := by decide +kernel
theorem dX5_counted_157 : decode cX5_counted 157 = .ok (.imul, 1) := by decide +kernel
theorem dX5_counted_158 : decode cX5_counted 158 = .ok (.if_icmp .ge 41, 3) := by decide +kernel
theorem dX5_counted_161 : decode cX5_counted 161 = .ok (.iload_n 2, 1) := by decide +kernel
theorem dX5_counted_162 : decode cX5_counted 162 = .ok (.aload_n 0, 1) := by decide +kernel
theorem dX5_counted_163 : decode cX5_counted 163 = .ok (.getfield 16, 3) := by decide +kernel
theorem dX5_counted_166 : decode cX5_counted 166 = .ok (.iload_n 3, 1) := by decide +kernel
theorem dX5_counted_167 : decode cX5_counted 167 = .ok (.iaload, 1) := by decide +kernel
theorem dX5_counted_168 : decode cX5_counted 168 = .ok (.ifCond .ne 22, 3) := by decide +kernel
theorem dX5_counted_171 : decode cX5_counted 171 = .ok (.aload_n 0, 1) := by decide +kernel
theorem dX5_counted_172 : decode cX5_counted 172 = .ok (.iload_n 3, 1) := by decide +kernel
theorem dX5_counted_173 : decode cX5_counted 173 = .ok (.invokevirtual 108, 3) := by decide +kernel
theorem dX5_counted_176 : decode cX5_counted 176 = .ok (.invokestatic 35, 3) := by decide +kernel
theorem dX5_counted_179 : decode cX5_counted 179 = .ok (.bipush 8, 2) := by decide +kernel
theorem dX5_counted_181 : decode cX5_counted 181 = .ok (.iload_n 1, 1) := by decide +kernel
theorem dX5_counted_182 : decode cX5_counted 182 = .ok (.isub, 1) := by decide +kernel
theorem dX5_counted_183 : decode cX5_counted 183 = .ok (.if_icmp .ne 7, 3) := by decide +kernel
theorem dX5_counted_186 : decode cX5_counted 186 = .ok (.iconst 1, 1) := by decide +kernel
theorem dX5_counted_187 : decode cX5_counted 187 = .ok (.goto 4, 3) := by decide +kernel
theorem dX5_counted_190 : decode cX5_counted 190 = .ok (.iconst 0, 1) := by decide +kernel
theorem dX5_counted_191 : decode cX5_counted 191 = .ok (.iadd, 1) := by decide +kernel
theorem dX5_counted_192 : decode cX5_counted 192 = .ok (.istore_n 2, 1) := by decide +kernel
theorem dX5_counted_193 : decode cX5_counted 193 = .ok (.iinc 3 1, 3) := by decide +kernel
theorem dX5_counted_196 : decode cX5_counted 196 = .ok (.goto (-48), 3) := by decide +kernel
theorem dX5_counted_199 : decode cX5_counted 199 = .ok (.iload_n 2, 1) := by decide +kernel
theorem dX5_counted_200 : decode cX5_counted 200 = .ok (.ireturn, 1) := by decide +kernel
set_option maxRecDepth 20000 in
theorem ggX5_count_X5_isIn : GoodIn wsX5_count wsX5_isIn := goodIn_r _ [5] (by decide +kernel) (by decide +kernel)
set_option maxRecDepth 20000 in
theorem gX5_count_X5_isIn : GoodIn wsX5_count (va_wsS RX5 50 yX5_isIn wsX5_isIn) := goodIn_app (goodIn_of _ (by decide +kernel)) ggX5_count_X5_isIn
set_option maxRecDepth 20000 in
theorem ggX5_count_X5_counted : GoodIn wsX5_count wsX5_counted := goodIn_r _ [9, 10, 11, 12, 13, 14, 15, 4, 16, 17, 18, 19, 20, 21, 22, 23, 24, 25, 26, 27, 28, 29, 30, 31, 32, 33, 34, 35, 36, 37, 38, 39, 40, 41, 42, 43, 44, 45, 46, 47, 48, 49, 50, 51, 52, 53, 54, 55, 56, 57, 58, 63, 64, 65, 66, 67, 68, 69, 70, 71, 72, 73, 74] (by decide +kernel) (by decide +kernel)
set_option maxRecDepth 20000 in
theorem gX5_count_X5_counted : GoodIn wsX5_count (wsV RX5 125 RX5 yX5_counted wsX5_counted) := goodIn_app (goodIn_of _ (by decide +kernel)) ggX5_count_X5_counted
set_option maxRecDepth 20000 in
theorem ggX5_count_X5_no : GoodIn wsX5_count wsX5_no := goodIn_r _ [62, 1, 63, 64, 65, 66, 67, 68, 69, 70, 71, 72, 73, 74] (by decide +kernel) (by decide +kernel)
set_option maxRecDepth 20000 in
theorem gX5_count_X5_no : GoodIn wsX5_count (wsV RX5 102 RX5 yX5_no wsX5_no) := goodIn_app (goodIn_of _ (by decide +kernel)) ggX5_count_X5_no
theorem dX5_count_0 : decode cX5_count 0 = .ok (.aload_n 0, 1) := by decide +kernel
theorem dX5_count_1 : decode cX5_count 1 = .ok (.iconst 0, 1) := by decide +kernel
theorem dX5_count_2 : decode cX5_count 2 = .ok (.putfield 47, 3) := by decide +kernel
theorem dX5_count_5 : decode cX5_count 5 = .ok (.iload_n 1, 1) := by decide +kernel
theorem dX5_count_6 : decode cX5_count 6 = .ok (.iconst 0, 1) := by decide +kernel
theorem dX5_count_7 : decode cX5_count 7 = .ok (.bipush 8, 2) := by decide +kernel
theorem dX5_count_9 : decode cX5_count 9 = .ok (.invokestatic 50, 3) := by decide +kernel
theorem dX5_count_12 : decode cX5_count 12 = .ok (.ifCond .eq 11, 3) := by decide +kernel
theorem dX5_count_15 : decode cX5_count 15 = .ok (.aload_n 0, 1) := by decide +kernel
theorem dX5_count_16 : decode cX5_count 16 = .ok (.iload_n 1, 1) := by decide +kernel
theorem dX5_count_17 : decode cX5_count 17 = .ok (.invokevirtual 125, 3) := by decide +kernel
theorem dX5_count_20 : decode cX5_count 20 = .ok (.goto 8, 3) := by decide +kernel
theorem dX5_count_23 : decode cX5_count 23 = .ok (.aload_n 0, 1) := by decide +kernel
theorem dX5_count_24 : decode cX5_count 24 = .ok (.iconst 1, 1) := by decide +kernel
theorem dX5_count_25 : decode cX5_count 25 = .ok (.invokevirtual 102, 3) := by decide +kernel
theorem dX5_count_28 : decode cX5_count 28 = .ok (.ireturn, 1) := by decide +kernel
theorem dX5_forcedOf_0 : decode cX5_forcedOf 0 = .ok (.bipush 46, 2) := by decide +kernel
theorem dX5_forcedOf_2 : decode cX5_forcedOf 2 = .ok (.iload_n 1, 1) := by decide +kernel
theorem dX5_forcedOf_3 : decode cX5_forcedOf 3 = .ok (.imul, 1) := by decide +kernel
theorem dX5_forcedOf_4 : decode cX5_forcedOf 4 = .ok (.iload_n 2, 1) := by decide +kernel
theorem dX5_forcedOf_5 : decode cX5_forcedOf 5 = .ok (.iadd, 1) := by decide +kernel
theorem dX5_forcedOf_6 : decode cX5_forcedOf 6 = .ok (.istore_n 3, 1) := by decide +kernel
theorem dX5_forcedOf_7 : decode cX5_forcedOf 7 = .ok (.aload_n 0, 1) := by decide +kernel
theorem dX5_forcedOf_8 : decode cX5_forcedOf 8 = .ok (.getfield 29, 3) := by decide +kernel
theorem dX5_forcedOf_11 : decode cX5_forcedOf 11 = .ok (.iload_n 3, 1) := by decide +kernel
theorem dX5_forcedOf_12 : decode cX5_forcedOf 12 = .ok (.iaload, 1) := by decide +kernel
theorem dX5_forcedOf_13 : decode cX5_forcedOf 13 = .ok (.aload_n 0, 1) := by decide +kernel
theorem dX5_forcedOf_14 : decode cX5_forcedOf 14 = .ok (.getfield 29, 3) := by decide +kernel
theorem dX5_forcedOf_17 : decode cX5_forcedOf 17 = .ok (.iload_n 3, 1) := by decide +kernel
theorem dX5_forcedOf_18 : decode cX5_forcedOf 18 = .ok (.iconst 1, 1) := by decide +kernel
theorem dX5_forcedOf_19 : decode cX5_forcedOf 19 = .ok (.iadd, 1) := by decide +kernel
theorem dX5_forcedOf_20 : decode cX5_forcedOf 20 = .ok (.iaload, 1) := by decide +kernel
theorem dX5_forcedOf_21 : decode cX5_forcedOf 21 = .ok (.if_icmp .ne 7, 3) := by decide +kernel
theorem dX5_forcedOf_24 : decode cX5_forcedOf 24 = .ok (.iconst 0, 1) := by decide +kernel
theorem dX5_forcedOf_25 : decode cX5_forcedOf 25 = .ok (.goto 6, 3) := by decide +kernel
theorem dX5_forcedOf_28 : decode cX5_forcedOf 28 = .ok (.sipush 1022, 3) := by decide +kernel
theorem dX5_forcedOf_31 : decode cX5_forcedOf 31 = .ok (.istore 4, 2) := by decide +kernel
theorem dX5_forcedOf_33 : decode cX5_forcedOf 33 = .ok (.aload_n 0, 1) := by decide +kernel
theorem dX5_forcedOf_34 : decode cX5_forcedOf 34 = .ok (.getfield 29, 3) := by decide +kernel
theorem dX5_forcedOf_37 : decode cX5_forcedOf 37 = .ok (.iload_n 3, 1) := by decide +kernel
theorem dX5_forcedOf_38 : decode cX5_forcedOf 38 = .ok (.iaload, 1) := by decide +kernel
theorem dX5_forcedOf_39 : decode cX5_forcedOf 39 = .ok (.istore 5, 2) := by decide +kernel
theorem dX5_forcedOf_41 : decode cX5_forcedOf 41 = .ok (.iload 5, 2) := by decide +kernel
theorem dX5_forcedOf_43 : decode cX5_forcedOf 43 = .ok (.aload_n 0, 1) := by decide +kernel
theorem dX5_forcedOf_44 : decode cX5_forcedOf 44 = .ok (.getfield 29, 3) := by decide +kernel
theorem dX5_forcedOf_47 : decode cX5_forcedOf 47 = .ok (.iload_n 3, 1) := by decide +kernel
theorem dX5_forcedOf_48 : decode cX5_forcedOf 48 = .ok (.iconst 1, 1) := by decide +kernel
theorem dX5_forcedOf_49 : decode cX5_forcedOf 49 = .ok (.iadd, 1) := by decide +kernel
theorem dX5_forcedOf_50 : decode cX5_forcedOf 50 = .ok (.iaload, 1) := by decide +kernel
theorem dX5_forcedOf_51 : decode cX5_forcedOf 51 = .ok (.if_icmp .ge 21, 3) := by decide +kernel
theorem dX5_forcedOf_54 : decode cX5_forcedOf 54 = .ok (.iload 4, 2) := by decide +kernel
theorem dX5_forcedOf_56 : decode cX5_forcedOf 56 = .ok (.aload_n 0, 1) := by decide +kernel
theorem dX5_forcedOf_57 : decode cX5_forcedOf 57 = .ok (.getfield 26, 3) := by decide +kernel
theorem dX5_forcedOf_60 : decode cX5_forcedOf 60 = .ok (.iload 5, 2) := by decide +kernel
theorem dX5_forcedOf_62 : decode cX5_forcedOf 62 = .ok (.iaload, 1) := by decide +kernel
theorem dX5_forcedOf_63 : decode cX5_forcedOf 63 = .ok (.iand, 1) := by decide +kernel
theorem dX5_forcedOf_64 : decode cX5_forcedOf 64 = .ok (.istore 4, 2) := by decide +kernel
theorem dX5_forcedOf_66 : decode cX5_forcedOf 66 = .ok (.iinc 5 1, 3) := by decide +kernel
theorem dX5_forcedOf_69 : decode cX5_forcedOf 69 = .ok (.goto (-28), 3) := by decide +kernel
theorem dX5_forcedOf_72 : decode cX5_forcedOf 72 = .ok (.iload 4, 2) := by decide +kernel
theorem dX5_forcedOf_74 : decode cX5_forcedOf 74 = .ok (.ireturn, 1) := by decide +kernel
set_option maxRecDepth 20000 in
theorem ggX5_ways_X5_isIn : GoodIn wsX5_ways wsX5_isIn := goodIn_r _ [6] (by decide +kernel) (by decide +kernel)
set_option maxRecDepth 20000 in
theorem gX5_ways_X5_isIn : GoodIn wsX5_ways (va_wsS RX5 50 yX5_isIn wsX5_isIn) := goodIn_app (goodIn_of _ (by decide +kernel)) ggX5_ways_X5_isIn
set_option maxRecDepth 20000 in
theorem ggX5_ways_X5_no : GoodIn wsX5_ways wsX5_no := goodIn_r _ [10, 1, 11, 12, 13, 14, 15, 16, 17, 18, 19, 20, 21, 22] (by decide +kernel) (by decide +kernel)
set_option maxRecDepth 20000 in
theorem gX5_ways_X5_no : GoodIn wsX5_ways (wsV RX5 102 RX5 yX5_no wsX5_no) := goodIn_app (goodIn_of _ (by decide +kernel)) ggX5_ways_X5_no
theorem dX5_ways_0 : decode cX5_ways 0 = .ok (.aload_n 0, 1) := by decide +kernel
theorem dX5_ways_1 : decode cX5_ways 1 = .ok (.iconst 0, 1) := by decide +kernel
theorem dX5_ways_2 : decode cX5_ways 2 = .ok (.putfield 47, 3) := by decide +kernel
theorem dX5_ways_5 : decode cX5_ways 5 = .ok (.iload_n 1, 1) := by decide +kernel
theorem dX5_ways_6 : decode cX5_ways 6 = .ok (.iconst 1, 1) := by decide +kernel
theorem dX5_ways_7 : decode cX5_ways 7 = .ok (.bipush 9, 2) := by decide +kernel
theorem dX5_ways_9 : decode cX5_ways 9 = .ok (.invokestatic 50, 3) := by decide +kernel
theorem dX5_ways_12 : decode cX5_ways 12 = .ok (.ifCond .eq 13, 3) := by decide +kernel
theorem dX5_ways_15 : decode cX5_ways 15 = .ok (.iload_n 2, 1) := by decide +kernel
theorem dX5_ways_16 : decode cX5_ways 16 = .ok (.iconst 1, 1) := by decide +kernel
theorem dX5_ways_17 : decode cX5_ways 17 = .ok (.bipush 45, 2) := by decide +kernel
theorem dX5_ways_19 : decode cX5_ways 19 = .ok (.invokestatic 50, 3) := by decide +kernel
theorem dX5_ways_22 : decode cX5_ways 22 = .ok (.ifCond .ne 9, 3) := by decide +kernel
theorem dX5_ways_25 : decode cX5_ways 25 = .ok (.aload_n 0, 1) := by decide +kernel
theorem dX5_ways_26 : decode cX5_ways 26 = .ok (.iconst 1, 1) := by decide +kernel
theorem dX5_ways_27 : decode cX5_ways 27 = .ok (.invokevirtual 102, 3) := by decide +kernel
theorem dX5_ways_30 : decode cX5_ways 30 = .ok (.ireturn, 1) := by decide +kernel
theorem dX5_ways_31 : decode cX5_ways 31 = .ok (.aload_n 0, 1) := by decide +kernel
theorem dX5_ways_32 : decode cX5_ways 32 = .ok (.getfield 29, 3) := by decide +kernel
theorem dX5_ways_35 : decode cX5_ways 35 = .ok (.bipush 46, 2) := by decide +kernel
theorem dX5_ways_37 : decode cX5_ways 37 = .ok (.iload_n 1, 1) := by decide +kernel
theorem dX5_ways_38 : decode cX5_ways 38 = .ok (.imul, 1) := by decide +kernel
theorem dX5_ways_39 : decode cX5_ways 39 = .ok (.iload_n 2, 1) := by decide +kernel
theorem dX5_ways_40 : decode cX5_ways 40 = .ok (.iadd, 1) := by decide +kernel
theorem dX5_ways_41 : decode cX5_ways 41 = .ok (.iconst 1, 1) := by decide +kernel
theorem dX5_ways_42 : decode cX5_ways 42 = .ok (.iadd, 1) := by decide +kernel
theorem dX5_ways_43 : decode cX5_ways 43 = .ok (.iaload, 1) := by decide +kernel
theorem dX5_ways_44 : decode cX5_ways 44 = .ok (.aload_n 0, 1) := by decide +kernel
theorem dX5_ways_45 : decode cX5_ways 45 = .ok (.getfield 29, 3) := by decide +kernel
theorem dX5_ways_48 : decode cX5_ways 48 = .ok (.bipush 46, 2) := by decide +kernel
theorem dX5_ways_50 : decode cX5_ways 50 = .ok (.iload_n 1, 1) := by decide +kernel
theorem dX5_ways_51 : decode cX5_ways 51 = .ok (.imul, 1) := by decide +kernel
theorem dX5_ways_52 : decode cX5_ways 52 = .ok (.iload_n 2, 1) := by decide +kernel
theorem dX5_ways_53 : decode cX5_ways 53 = .ok (.iadd, 1) := by decide +kernel
theorem dX5_ways_54 : decode cX5_ways 54 = .ok (.iaload, 1) := by decide +kernel
theorem dX5_ways_55 : decode cX5_ways 55 = .ok (.isub, 1) := by decide +kernel
theorem dX5_ways_56 : decode cX5_ways 56 = .ok (.ireturn, 1) := by decide +kernel
set_option maxRecDepth 20000 in
theorem ggX5_forced_X5_isIn : GoodIn wsX5_forced wsX5_isIn := goodIn_r _ [5] (by decide +kernel) (by decide +kernel)
set_option maxRecDepth 20000 in
theorem gX5_forced_X5_isIn : GoodIn wsX5_forced (va_wsS RX5 50 yX5_isIn wsX5_isIn) := goodIn_app (goodIn_of _ (by decide +kernel)) ggX5_forced_X5_isIn
set_option maxRecDepth 20000 in
theorem ggX5_forced_X5_forcedOf : GoodIn wsX5_forced wsX5_forcedOf := goodIn_r _ [9, 10, 11, 16, 17, 18, 19, 20, 21, 22, 23, 24, 25, 26, 27] (by decide +kernel) (by decide +kernel)
set_option maxRecDepth 20000 in
theorem gX5_forced_X5_forcedOf : GoodIn wsX5_forced (wsV RX5 128 RX5 yX5_forcedOf wsX5_forcedOf) := goodIn_app (goodIn_of _ (by decide +kernel)) ggX5_forced_X5_forcedOf
set_option maxRecDepth 20000 in
theorem ggX5_forced_X5_no : GoodIn wsX5_forced wsX5_no := goodIn_r _ [15, 1, 16, 17, 18, 19, 20, 21, 22, 23, 24, 25, 26, 27] (by decide +kernel) (by decide +kernel)
set_option maxRecDepth 20000 in
theorem gX5_forced_X5_no : GoodIn wsX5_forced (wsV RX5 102 RX5 yX5_no wsX5_no) := goodIn_app (goodIn_of _ (by decide +kernel)) ggX5_forced_X5_no
theorem dX5_forced_0 : decode cX5_forced 0 = .ok (.aload_n 0, 1) := by decide +kernel
theorem dX5_forced_1 : decode cX5_forced 1 = .ok (.iconst 0, 1) := by decide +kernel
theorem dX5_forced_2 : decode cX5_forced 2 = .ok (.putfield 47, 3) := by decide +kernel
theorem dX5_forced_5 : decode cX5_forced 5 = .ok (.iload_n 1, 1) := by decide +kernel
theorem dX5_forced_6 : decode cX5_forced 6 = .ok (.iconst 1, 1) := by decide +kernel
theorem dX5_forced_7 : decode cX5_forced 7 = .ok (.bipush 9, 2) := by decide +kernel
theorem dX5_forced_9 : decode cX5_forced 9 = .ok (.invokestatic 50, 3) := by decide +kernel
theorem dX5_forced_12 : decode cX5_forced 12 = .ok (.ifCond .eq 22, 3) := by decide +kernel
theorem dX5_forced_15 : decode cX5_forced 15 = .ok (.iload_n 2, 1) := by decide +kernel
theorem dX5_forced_16 : decode cX5_forced 16 = .ok (.iconst 1, 1) := by decide +kernel
theorem dX5_forced_17 : decode cX5_forced 17 = .ok (.bipush 45, 2) := by decide +kernel
theorem dX5_forced_19 : decode cX5_forced 19 = .ok (.invokestatic 50, 3) := by decide +kernel
theorem dX5_forced_22 : decode cX5_forced 22 = .ok (.ifCond .eq 12, 3) := by decide +kernel
theorem dX5_forced_25 : decode cX5_forced 25 = .ok (.aload_n 0, 1) := by decide +kernel
theorem dX5_forced_26 : decode cX5_forced 26 = .ok (.iload_n 1, 1) := by decide +kernel
theorem dX5_forced_27 : decode cX5_forced 27 = .ok (.iload_n 2, 1) := by decide +kernel
theorem dX5_forced_28 : decode cX5_forced 28 = .ok (.invokevirtual 128, 3) := by decide +kernel
theorem dX5_forced_31 : decode cX5_forced 31 = .ok (.goto 8, 3) := by decide +kernel
theorem dX5_forced_34 : decode cX5_forced 34 = .ok (.aload_n 0, 1) := by decide +kernel
theorem dX5_forced_35 : decode cX5_forced 35 = .ok (.iconst 1, 1) := by decide +kernel
theorem dX5_forced_36 : decode cX5_forced 36 = .ok (.invokevirtual 102, 3) := by decide +kernel
theorem dX5_forced_39 : decode cX5_forced 39 = .ok (.ireturn, 1) := by decide +kernel
set_option maxRecDepth 20000 in
theorem ggX5_fillings_X5_look : GoodIn wsX5_fillings wsX5_look := goodIn_r _ [6, 7, 8, 9, 10, 11, 12, 13, 5, 14, 15, 16, 17, 18, 19, 20, 21, 22, 23, 24, 25, 26, 27, 28, 29, 30, 31, 32, 33, 34, 35, 36, 37, 38, 39, 40, 41, 42, 43, 44, 45, 46, 47, 48, 49, 50, 51, 52, 53, 54, 55, 56, 57, 58, 59, 60, 65, 66, 67, 68, 69, 70, 71, 72, 73, 74, 75, 76] (by decide +kernel) (by decide +kernel)
set_option maxRecDepth 20000 in
theorem gX5_fillings_X5_look : GoodIn wsX5_fillings (wsV RX5 131 RX5 yX5_look wsX5_look) := goodIn_app (goodIn_of _ (by decide +kernel)) ggX5_fillings_X5_look
set_option maxRecDepth 20000 in
theorem ggX5_fillings_X5_told : GoodIn wsX5_fillings wsX5_told := goodIn_r _ [64, 9, 8, 65, 66, 67, 68, 69, 70, 71, 72, 73, 74, 75, 76] (by decide +kernel) (by decide +kernel)
set_option maxRecDepth 20000 in
theorem gX5_fillings_X5_told : GoodIn wsX5_fillings (wsV RX5 134 RX5 yX5_told wsX5_told) := goodIn_app (goodIn_of _ (by decide +kernel)) ggX5_fillings_X5_told
theorem dX5_fillings_0 : decode cX5_fillings 0 = .ok (.aload_n 0, 1) := by decide +kernel
theorem dX5_fillings_1 : decode cX5_fillings 1 = .ok (.iconst 0, 1) := by decide +kernel
theorem dX5_fillings_2 : decode cX5_fillings 2 = .ok (.putfield 47, 3) := by decide +kernel
theorem dX5_fillings_5 : decode cX5_fillings 5 = .ok (.aload_n 0, 1) := by decide +kernel
theorem dX5_fillings_6 : decode cX5_fillings 6 = .ok (.invokevirtual 131, 3) := by decide +kernel
theorem dX5_fillings_9 : decode cX5_fillings 9 = .ok (.aload_n 0, 1) := by decide +kernel
theorem dX5_fillings_10 : decode cX5_fillings 10 = .ok (.invokevirtual 134, 3) := by decide +kernel
theorem dX5_fillings_13 : decode cX5_fillings 13 = .ok (.ireturn, 1) := by decide +kernel
set_option maxRecDepth 20000 in
theorem ggX5_tries_X5_look : GoodIn wsX5_tries wsX5_look := goodIn_r _ [7, 2, 8, 9, 10, 11, 12, 13, 6, 14, 15, 16, 17, 18, 19, 20, 21, 22, 23, 24, 25, 26, 27, 28, 29, 30, 31, 32, 33, 34, 35, 36, 37, 38, 39, 40, 41, 42, 43, 44, 45, 46, 47, 48, 49, 50, 51, 52, 53, 54, 55, 56, 57, 58, 59, 60, 61, 62, 63, 64, 65, 66, 67, 68, 69, 70, 71, 72] (by decide +kernel) (by decide +kernel)
set_option maxRecDepth 20000 in
theorem gX5_tries_X5_look : GoodIn wsX5_tries (wsV RX5 131 RX5 yX5_look wsX5_look) := goodIn_app (goodIn_of _ (by decide +kernel)) ggX5_tries_X5_look
theorem dX5_tries_0 : decode cX5_tries 0 = .ok (.aload_n 0, 1) := by decide +kernel
theorem dX5_tries_1 : decode cX5_tries 1 = .ok (.iconst 0, 1) := by decide +kernel
theorem dX5_tries_2 : decode cX5_tries 2 = .ok (.putfield 47, 3) := by decide +kernel
theorem dX5_tries_5 : decode cX5_tries 5 = .ok (.aload_n 0, 1) := by decide +kernel
theorem dX5_tries_6 : decode cX5_tries 6 = .ok (.invokevirtual 131, 3) := by decide +kernel
theorem dX5_tries_9 : decode cX5_tries 9 = .ok (.aload_n 0, 1) := by decide +kernel
theorem dX5_tries_10 : decode cX5_tries 10 = .ok (.getfield 92, 3) := by decide +kernel
theorem dX5_tries_13 : decode cX5_tries 13 = .ok (.ireturn, 1) := by decide +kernel
set_option maxRecDepth 20000 in
theorem ggX5_solvedAt_X5_look : GoodIn wsX5_solvedAt wsX5_look := goodIn_r _ [9, 10, 2, 1, 4, 11, 12, 13, 8, 14, 15, 16, 3, 17, 18, 19, 20, 21, 22, 23, 24, 25, 26, 27, 28, 29, 30, 31, 32, 33, 34, 35, 36, 37, 38, 39, 40, 41, 42, 43, 44, 45, 46, 47, 48, 49, 50, 51, 52, 53, 54, 55, 56, 57, 58, 59, 60, 61, 62, 63, 64, 65, 66, 67, 68, 69, 70, 71] (by decide +kernel) (by decide +kernel)
set_option maxRecDepth 20000 in
theorem gX5_solvedAt_X5_look : GoodIn wsX5_solvedAt (wsV RX5 131 RX5 yX5_look wsX5_look) := goodIn_app (goodIn_of _ (by decide +kernel)) ggX5_solvedAt_X5_look
theorem dX5_solvedAt_0 : decode cX5_solvedAt 0 = .ok (.aload_n 0, 1) := by decide +kernel
theorem dX5_solvedAt_1 : decode cX5_solvedAt 1 = .ok (.invokevirtual 131, 3) := by decide +kernel
theorem dX5_solvedAt_4 : decode cX5_solvedAt 4 = .ok (.aload_n 0, 1) := by decide +kernel
theorem dX5_solvedAt_5 : decode cX5_solvedAt 5 = .ok (.getfield 75, 3) := by decide +kernel
theorem dX5_solvedAt_8 : decode cX5_solvedAt 8 = .ok (.ifCond .ne 20, 3) := by decide +kernel
theorem dX5_solvedAt_11 : decode cX5_solvedAt 11 = .ok (.aload_n 0, 1) := by decide +kernel
theorem dX5_solvedAt_12 : decode cX5_solvedAt 12 = .ok (.getfield 79, 3) := by decide +kernel
theorem dX5_solvedAt_15 : decode cX5_solvedAt 15 = .ok (.ifCond .eq 13, 3) := by decide +kernel
theorem dX5_solvedAt_18 : decode cX5_solvedAt 18 = .ok (.aload_n 0, 1) := by decide +kernel
theorem dX5_solvedAt_19 : decode cX5_solvedAt 19 = .ok (.getfield 16, 3) := by decide +kernel
theorem dX5_solvedAt_22 : decode cX5_solvedAt 22 = .ok (.iload_n 1, 1) := by decide +kernel
theorem dX5_solvedAt_23 : decode cX5_solvedAt 23 = .ok (.iaload, 1) := by decide +kernel
theorem dX5_solvedAt_24 : decode cX5_solvedAt 24 = .ok (.iconst (-1), 1) := by decide +kernel
theorem dX5_solvedAt_25 : decode cX5_solvedAt 25 = .ok (.if_icmp .ne 7, 3) := by decide +kernel
theorem dX5_solvedAt_28 : decode cX5_solvedAt 28 = .ok (.iconst 0, 1) := by decide +kernel
theorem dX5_solvedAt_29 : decode cX5_solvedAt 29 = .ok (.goto 9, 3) := by decide +kernel
theorem dX5_solvedAt_32 : decode cX5_solvedAt 32 = .ok (.aload_n 0, 1) := by decide +kernel
theorem dX5_solvedAt_33 : decode cX5_solvedAt 33 = .ok (.getfield 32, 3) := by decide +kernel
theorem dX5_solvedAt_36 : decode cX5_solvedAt 36 = .ok (.iload_n 1, 1) := by decide +kernel
theorem dX5_solvedAt_37 : decode cX5_solvedAt 37 = .ok (.iaload, 1) := by decide +kernel
theorem dX5_solvedAt_38 : decode cX5_solvedAt 38 = .ok (.ireturn, 1) := by decide +kernel
set_option maxRecDepth 20000 in
theorem ggX5_solved_X5_isCell : GoodIn wsX5_solved wsX5_isCell := goodIn_r _ [6, 7, 8, 9, 10, 5, 11, 76, 77, 78, 79, 80, 81, 82, 83, 84, 85, 86, 87] (by decide +kernel) (by decide +kernel)
set_option maxRecDepth 20000 in
theorem gX5_solved_X5_isCell : GoodIn wsX5_solved (wsV RX5 105 RX5 yX5_isCell wsX5_isCell) := goodIn_app (goodIn_of _ (by decide +kernel)) ggX5_solved_X5_isCell
set_option maxRecDepth 20000 in
theorem ggX5_solved_X5_solvedAt : GoodIn wsX5_solved wsX5_solvedAt := goodIn_r _ [15, 16, 17, 18, 19, 20, 21, 22, 5, 23, 24, 25, 26, 27, 28, 7, 8, 29, 30, 31, 32, 33, 34, 35, 36, 37, 38, 39, 40, 41, 42, 43, 44, 45, 46, 47, 48, 49, 50, 51, 52, 53, 54, 55, 56, 57, 58, 59, 60, 61, 62, 63, 64, 65, 66, 67, 68, 69, 70, 71, 76, 77, 78, 79, 80, 81, 82, 83, 84, 85, 86, 87] (by decide +kernel) (by decide +kernel)
set_option maxRecDepth 20000 in
theorem gX5_solved_X5_solvedAt : GoodIn wsX5_solved (wsV RX5 137 RX5 yX5_solvedAt wsX5_solvedAt) := goodIn_app (goodIn_of _ (by decide +kernel)) ggX5_solved_X5_solvedAt
set_option maxRecDepth 20000 in
theorem ggX5_solved_X5_no : GoodIn wsX5_solved wsX5_no := goodIn_r _ [75, 1, 76, 77, 78, 79, 80, 81, 82, 83, 84, 85, 86, 87] (by decide +kernel) (by decide +kernel)
set_option maxRecDepth 20000 in
theorem gX5_solved_X5_no : GoodIn wsX5_solved (wsV RX5 102 RX5 yX5_no wsX5_no) := goodIn_app (goodIn_of _ (by decide +kernel)) ggX5_solved_X5_no
theorem dX5_solved_0 : decode cX5_solved 0 = .ok (.aload_n 0, 1) := by decide +kernel
theorem dX5_solved_1 : decode cX5_solved 1 = .ok (.iconst 0, 1) := by decide +kernel
theorem dX5_solved_2 : decode cX5_solved 2 = .ok (.putfield 47, 3) := by decide +kernel
theorem dX5_solved_5 : decode cX5_solved 5 = .ok (.aload_n 0, 1) := by decide +kernel
theorem dX5_solved_6 : decode cX5_solved 6 = .ok (.iload_n 1, 1) := by decide +kernel
theorem dX5_solved_7 : decode cX5_solved 7 = .ok (.invokevirtual 105, 3) := by decide +kernel
theorem dX5_solved_10 : decode cX5_solved 10 = .ok (.ifCond .eq 11, 3) := by decide +kernel
theorem dX5_solved_13 : decode cX5_solved 13 = .ok (.aload_n 0, 1) := by decide +kernel
theorem dX5_solved_14 : decode cX5_solved 14 = .ok (.iload_n 1, 1) := by decide +kernel
theorem dX5_solved_15 : decode cX5_solved 15 = .ok (.invokevirtual 137, 3) := by decide +kernel
theorem dX5_solved_18 : decode cX5_solved 18 = .ok (.goto 8, 3) := by decide +kernel
theorem dX5_solved_21 : decode cX5_solved 21 = .ok (.aload_n 0, 1) := by decide +kernel
theorem dX5_solved_22 : decode cX5_solved 22 = .ok (.iconst 1, 1) := by decide +kernel
theorem dX5_solved_23 : decode cX5_solved 23 = .ok (.invokevirtual 102, 3) := by decide +kernel
theorem dX5_solved_26 : decode cX5_solved 26 = .ok (.ireturn, 1) := by decide +kernel
set_option maxRecDepth 20000 in
theorem ggX5_next_X5_canOf : GoodIn wsX5_next wsX5_canOf := goodIn_r _ [9, 4, 10, 11, 12, 8, 13, 14, 15, 16, 17, 18, 19, 20, 21, 22, 23, 24, 25, 26, 27, 28, 29, 30, 31, 2, 3, 32, 33, 34, 35, 36, 37, 38, 39, 40, 48, 49, 50, 51, 52, 53, 54, 55, 56, 57, 58, 59] (by decide +kernel) (by decide +kernel)
set_option maxRecDepth 20000 in
theorem gX5_next_X5_canOf : GoodIn wsX5_next (wsV RX5 108 RX5 yX5_canOf wsX5_canOf) := goodIn_app (goodIn_of _ (by decide +kernel)) ggX5_next_X5_canOf
set_option maxRecDepth 20000 in
theorem ggX5_next_J6_bitCount_0f7a4 : GoodIn wsX5_next wsJ6_bitCount_0f7a4 := goodIn_r _ [44, 45, 46, 47] (by decide +kernel) (by decide +kernel)
set_option maxRecDepth 20000 in
theorem gX5_next_J6_bitCount_0f7a4 : GoodIn wsX5_next (va_wsS RX5 35 yJ6_bitCount_0f7a4 wsJ6_bitCount_0f7a4) := goodIn_app (goodIn_of _ (by decide +kernel)) ggX5_next_J6_bitCount_0f7a4
theorem dX5_next_0 : decode cX5_next 0 = .ok (.aload_n 0, 1) := by decide +kernel
theorem dX5_next_1 : decode cX5_next 1 = .ok (.iconst 0, 1) := by decide +kernel
theorem dX5_next_2 : decode cX5_next 2 = .ok (.putfield 47, 3) := by decide +kernel
theorem dX5_next_5 : decode cX5_next 5 = .ok (.iconst (-1), 1) := by decide +kernel
theorem dX5_next_6 : decode cX5_next 6 = .ok (.istore_n 1, 1) := by decide +kernel
theorem dX5_next_7 : decode cX5_next 7 = .ok (.iconst 0, 1) := by decide +kernel
theorem dX5_next_8 : decode cX5_next 8 = .ok (.istore_n 2, 1) := by decide +kernel
theorem dX5_next_9 : decode cX5_next 9 = .ok (.iconst 0, 1) := by decide +kernel
theorem dX5_next_10 : decode cX5_next 10 = .ok (.istore_n 3, 1) := by decide +kernel
theorem dX5_next_11 : decode cX5_next 11 = .ok (.iload_n 3, 1) := by decide +kernel
theorem dX5_next_12 : decode cX5_next 12 = .ok (.aload_n 0, 1) := by decide +kernel
theorem dX5_next_13 : decode cX5_next 13 = .ok (.getfield 7, 3) := by decide +kernel
theorem dX5_next_16 : decode cX5_next 16 = .ok (.aload_n 0, 1) := by decide +kernel
theorem dX5_next_17 : decode cX5_next 17 = .ok (.getfield 13, 3) := by decide +kernel
theorem dX5_next_20 : decode cX5_next 20 = .ok (.imul, 1) := by decide +kernel
theorem dX5_next_21 : decode cX5_next 21 = .ok (.if_icmp .ge 47, 3) := by decide +kernel
theorem dX5_next_24 : decode cX5_next 24 = .ok (.aload_n 0, 1) := by decide +kernel
theorem dX5_next_25 : decode cX5_next 25 = .ok (.iload_n 3, 1) := by decide +kernel
theorem dX5_next_26 : decode cX5_next 26 = .ok (.invokevirtual 108, 3) := by decide +kernel
theorem dX5_next_29 : decode cX5_next 29 = .ok (.invokestatic 35, 3) := by decide +kernel
theorem dX5_next_32 : decode cX5_next 32 = .ok (.istore 4, 2) := by decide +kernel
theorem dX5_next_34 : decode cX5_next 34 = .ok (.aload_n 0, 1) := by decide +kernel
theorem dX5_next_35 : decode cX5_next 35 = .ok (.getfield 16, 3) := by decide +kernel
theorem dX5_next_38 : decode cX5_next 38 = .ok (.iload_n 3, 1) := by decide +kernel
theorem dX5_next_39 : decode cX5_next 39 = .ok (.iaload, 1) := by decide +kernel
theorem dX5_next_40 : decode cX5_next 40 = .ok (.ifCond .ne 22, 3) := by decide +kernel
theorem dX5_next_43 : decode cX5_next 43 = .ok (.iload_n 1, 1) := by decide +kernel
theorem dX5_next_44 : decode cX5_next 44 = .ok (.iconst (-1), 1) := by decide +kernel
theorem dX5_next_45 : decode cX5_next 45 = .ok (.if_icmp .eq 12, 3) := by decide +kernel
theorem dX5_next_48 : decode cX5_next 48 = .ok (.iload 4, 2) := by decide +kernel
theorem dX5_next_50 : decode cX5_next 50 = .ok (.iload_n 2, 1) := by decide +kernel
theorem dX5_next_51 : decode cX5_next 51 = .ok (.if_icmp .lt 6, 3) := by decide +kernel
theorem dX5_next_54 : decode cX5_next 54 = .ok (.goto 8, 3) := by decide +kernel
theorem dX5_next_57 : decode cX5_next 57 = .ok (.iload_n 3, 1) := by decide +kernel
theorem dX5_next_58 : decode cX5_next 58 = .ok (.istore_n 1, 1) := by decide +kernel
theorem dX5_next_59 : decode cX5_next 59 = .ok (.iload 4, 2) := by decide +kernel
theorem dX5_next_61 : decode cX5_next 61 = .ok (.istore_n 2, 1) := by decide +kernel
theorem dX5_next_62 : decode cX5_next 62 = .ok (.iinc 3 1, 3) := by decide +kernel
theorem dX5_next_65 : decode cX5_next 65 = .ok (.goto (-54), 3) := by decide +kernel
theorem dX5_next_68 : decode cX5_next 68 = .ok (.iload_n 1, 1) := by decide +kernel
theorem dX5_next_69 : decode cX5_next 69 = .ok (.ireturn, 1) := by decide +kernel
set_option maxRecDepth 20000 in
theorem ggX5_would_X5_isCell : GoodIn wsX5_would wsX5_isCell := goodIn_r _ [7, 8, 9, 10, 11, 6, 12, 76, 77, 78, 79, 80, 81, 82, 83, 84, 85, 86, 87] (by decide +kernel) (by decide +kernel)
set_option maxRecDepth 20000 in
theorem gX5_would_X5_isCell : GoodIn wsX5_would (wsV RX5 105 RX5 yX5_isCell wsX5_isCell) := goodIn_app (goodIn_of _ (by decide +kernel)) ggX5_would_X5_isCell
set_option maxRecDepth 20000 in
theorem ggX5_would_X5_no : GoodIn wsX5_would wsX5_no := goodIn_r _ [16, 1, 76, 77, 78, 79, 80, 81, 82, 83, 84, 85, 86, 87] (by decide +kernel) (by decide +kernel)
set_option maxRecDepth 20000 in
theorem gX5_would_X5_no : GoodIn wsX5_would (wsV RX5 102 RX5 yX5_no wsX5_no) := goodIn_app (goodIn_of _ (by decide +kernel)) ggX5_would_X5_no
set_option maxRecDepth 20000 in
theorem ggX5_would_X5_isIn : GoodIn wsX5_would wsX5_isIn := goodIn_r _ [12] (by decide +kernel) (by decide +kernel)
set_option maxRecDepth 20000 in
theorem gX5_would_X5_isIn : GoodIn wsX5_would (va_wsS RX5 50 yX5_isIn wsX5_isIn) := goodIn_app (goodIn_of _ (by decide +kernel)) ggX5_would_X5_isIn
set_option maxRecDepth 20000 in
theorem ggX5_would_X5_look : GoodIn wsX5_would wsX5_look := goodIn_r _ [20, 21, 22, 23, 24, 25, 26, 27, 6, 28, 8, 9, 2, 29, 30, 31, 32, 33, 34, 35, 36, 37, 38, 39, 40, 41, 42, 43, 44, 45, 46, 47, 48, 49, 50, 51, 52, 53, 54, 55, 56, 57, 58, 59, 60, 61, 62, 63, 64, 65, 66, 67, 68, 69, 70, 71, 76, 77, 78, 79, 80, 81, 82, 83, 84, 85, 86, 87] (by decide +kernel) (by decide +kernel)
set_option maxRecDepth 20000 in
theorem gX5_would_X5_look : GoodIn wsX5_would (wsV RX5 131 RX5 yX5_look wsX5_look) := goodIn_app (goodIn_of _ (by decide +kernel)) ggX5_would_X5_look
set_option maxRecDepth 20000 in
theorem ggX5_would_X5_told : GoodIn wsX5_would wsX5_told := goodIn_r _ [75, 23, 22, 76, 77, 78, 79, 80, 81, 82, 83, 84, 85, 86, 87] (by decide +kernel) (by decide +kernel)
set_option maxRecDepth 20000 in
theorem gX5_would_X5_told : GoodIn wsX5_would (wsV RX5 134 RX5 yX5_told wsX5_told) := goodIn_app (goodIn_of _ (by decide +kernel)) ggX5_would_X5_told
theorem dX5_would_0 : decode cX5_would 0 = .ok (.aload_n 0, 1) := by decide +kernel
theorem dX5_would_1 : decode cX5_would 1 = .ok (.iconst 0, 1) := by decide +kernel
theorem dX5_would_2 : decode cX5_would 2 = .ok (.putfield 47, 3) := by decide +kernel
theorem dX5_would_5 : decode cX5_would 5 = .ok (.aload_n 0, 1) := by decide +kernel
theorem dX5_would_6 : decode cX5_would 6 = .ok (.iload_n 1, 1) := by decide +kernel
theorem dX5_would_7 : decode cX5_would 7 = .ok (.invokevirtual 105, 3) := by decide +kernel
theorem dX5_would_10 : decode cX5_would 10 = .ok (.ifCond .ne 9, 3) := by decide +kernel
theorem dX5_would_13 : decode cX5_would 13 = .ok (.aload_n 0, 1) := by decide +kernel
theorem dX5_would_14 : decode cX5_would 14 = .ok (.iconst 1, 1) := by decide +kernel
theorem dX5_would_15 : decode cX5_would 15 = .ok (.invokevirtual 102, 3) := by decide +kernel
theorem dX5_would_18 : decode cX5_would 18 = .ok (.ireturn, 1) := by decide +kernel
theorem dX5_would_19 : decode cX5_would 19 = .ok (.iload_n 2, 1) := by decide +kernel
theorem dX5_would_20 : decode cX5_would 20 = .ok (.iconst 1, 1) := by decide +kernel
theorem dX5_would_21 : decode cX5_would 21 = .ok (.bipush 9, 2) := by decide +kernel
theorem dX5_would_23 : decode cX5_would 23 = .ok (.invokestatic 50, 3) := by decide +kernel
theorem dX5_would_26 : decode cX5_would 26 = .ok (.ifCond .ne 9, 3) := by decide +kernel
theorem dX5_would_29 : decode cX5_would 29 = .ok (.aload_n 0, 1) := by decide +kernel
theorem dX5_would_30 : decode cX5_would 30 = .ok (.iconst 2, 1) := by decide +kernel
theorem dX5_would_31 : decode cX5_would 31 = .ok (.invokevirtual 102, 3) := by decide +kernel
theorem dX5_would_34 : decode cX5_would 34 = .ok (.ireturn, 1) := by decide +kernel
theorem dX5_would_35 : decode cX5_would 35 = .ok (.aload_n 0, 1) := by decide +kernel
theorem dX5_would_36 : decode cX5_would 36 = .ok (.getfield 16, 3) := by decide +kernel
theorem dX5_would_39 : decode cX5_would 39 = .ok (.iload_n 1, 1) := by decide +kernel
theorem dX5_would_40 : decode cX5_would 40 = .ok (.iaload, 1) := by decide +kernel
theorem dX5_would_41 : decode cX5_would 41 = .ok (.iconst (-1), 1) := by decide +kernel
theorem dX5_would_42 : decode cX5_would 42 = .ok (.if_icmp .ne 9, 3) := by decide +kernel
theorem dX5_would_45 : decode cX5_would 45 = .ok (.aload_n 0, 1) := by decide +kernel
theorem dX5_would_46 : decode cX5_would 46 = .ok (.iconst 3, 1) := by decide +kernel
theorem dX5_would_47 : decode cX5_would 47 = .ok (.invokevirtual 102, 3) := by decide +kernel
theorem dX5_would_50 : decode cX5_would 50 = .ok (.ireturn, 1) := by decide +kernel
theorem dX5_would_51 : decode cX5_would 51 = .ok (.aload_n 0, 1) := by decide +kernel
theorem dX5_would_52 : decode cX5_would 52 = .ok (.getfield 16, 3) := by decide +kernel
theorem dX5_would_55 : decode cX5_would 55 = .ok (.iload_n 1, 1) := by decide +kernel
theorem dX5_would_56 : decode cX5_would 56 = .ok (.iaload, 1) := by decide +kernel
theorem dX5_would_57 : decode cX5_would 57 = .ok (.istore_n 3, 1) := by decide +kernel
theorem dX5_would_58 : decode cX5_would 58 = .ok (.aload_n 0, 1) := by decide +kernel
theorem dX5_would_59 : decode cX5_would 59 = .ok (.getfield 16, 3) := by decide +kernel
theorem dX5_would_62 : decode cX5_would 62 = .ok (.iload_n 1, 1) := by decide +kernel
theorem dX5_would_63 : decode cX5_would 63 = .ok (.iload_n 2, 1) := by decide +kernel
theorem dX5_would_64 : decode cX5_would 64 = .ok (.iastore, 1) := by decide +kernel
theorem dX5_would_65 : decode cX5_would 65 = .ok (.aload_n 0, 1) := by decide +kernel
theorem dX5_would_66 : decode cX5_would 66 = .ok (.invokevirtual 131, 3) := by decide +kernel
theorem dX5_would_69 : decode cX5_would 69 = .ok (.aload_n 0, 1) := by decide +kernel
theorem dX5_would_70 : decode cX5_would 70 = .ok (.getfield 16, 3) := by decide +kernel
theorem dX5_would_73 : decode cX5_would 73 = .ok (.iload_n 1, 1) := by decide +kernel
theorem dX5_would_74 : decode cX5_would 74 = .ok (.iload_n 3, 1) := by decide +kernel
theorem dX5_would_75 : decode cX5_would 75 = .ok (.iastore, 1) := by decide +kernel
theorem dX5_would_76 : decode cX5_would 76 = .ok (.aload_n 0, 1) := by decide +kernel
theorem dX5_would_77 : decode cX5_would 77 = .ok (.invokevirtual 134, 3) := by decide +kernel
theorem dX5_would_80 : decode cX5_would 80 = .ok (.ireturn, 1) := by decide +kernel
set_option maxRecDepth 20000 in
theorem ggX5_mean_X5_canOf : GoodIn wsX5_mean wsX5_canOf := goodIn_r _ [9, 4, 10, 11, 12, 8, 13, 14, 15, 16, 17, 18, 19, 20, 21, 22, 23, 24, 25, 26, 27, 28, 29, 30, 31, 2, 3, 32, 33, 34, 35, 36, 37, 38, 39, 40, 48, 49, 50, 51, 52, 53, 54, 55, 56, 57, 58, 59] (by decide +kernel) (by decide +kernel)
set_option maxRecDepth 20000 in
theorem gX5_mean_X5_canOf : GoodIn wsX5_mean (wsV RX5 108 RX5 yX5_canOf wsX5_canOf) := goodIn_app (goodIn_of _ (by decide +kernel)) ggX5_mean_X5_canOf
set_option maxRecDepth 20000 in
theorem ggX5_mean_J6_bitCount_0f7a4 : GoodIn wsX5_mean wsJ6_bitCount_0f7a4 := goodIn_r _ [44, 45, 46, 47] (by decide +kernel) (by decide +kernel)
set_option maxRecDepth 20000 in
theorem gX5_mean_J6_bitCount_0f7a4 : GoodIn wsX5_mean (va_wsS RX5 35 yJ6_bitCount_0f7a4 wsJ6_bitCount_0f7a4) := goodIn_app (goodIn_of _ (by decide +kernel)) ggX5_mean_J6_bitCount_0f7a4
theorem dX5_mean_0 : decode cX5_mean 0 = .ok (.aload_n 0, 1) := by decide +kernel
theorem dX5_mean_1 : decode cX5_mean 1 = .ok (.iconst 0, 1) := by decide +kernel
theorem dX5_mean_2 : decode cX5_mean 2 = .ok (.putfield 47, 3) := by decide +kernel
theorem dX5_mean_5 : decode cX5_mean 5 = .ok (.iconst 0, 1) := by decide +kernel
theorem dX5_mean_6 : decode cX5_mean 6 = .ok (.istore_n 1, 1) := by decide +kernel
theorem dX5_mean_7 : decode cX5_mean 7 = .ok (.iconst 0, 1) := by decide +kernel
theorem dX5_mean_8 : decode cX5_mean 8 = .ok (.istore_n 2, 1) := by decide +kernel
theorem dX5_mean_9 : decode cX5_mean 9 = .ok (.iconst 0, 1) := by decide +kernel
theorem dX5_mean_10 : decode cX5_mean 10 = .ok (.istore_n 3, 1) := by decide +kernel
theorem dX5_mean_11 : decode cX5_mean 11 = .ok (.iload_n 3, 1) := by decide +kernel
theorem dX5_mean_12 : decode cX5_mean 12 = .ok (.aload_n 0, 1) := by decide +kernel
theorem dX5_mean_13 : decode cX5_mean 13 = .ok (.getfield 7, 3) := by decide +kernel
theorem dX5_mean_16 : decode cX5_mean 16 = .ok (.aload_n 0, 1) := by decide +kernel
theorem dX5_mean_17 : decode cX5_mean 17 = .ok (.getfield 13, 3) := by decide +kernel
theorem dX5_mean_20 : decode cX5_mean 20 = .ok (.imul, 1) := by decide +kernel
theorem dX5_mean_21 : decode cX5_mean 21 = .ok (.if_icmp .ge 37, 3) := by decide +kernel
theorem dX5_mean_24 : decode cX5_mean 24 = .ok (.iload_n 1, 1) := by decide +kernel
theorem dX5_mean_25 : decode cX5_mean 25 = .ok (.aload_n 0, 1) := by decide +kernel
theorem dX5_mean_26 : decode cX5_mean 26 = .ok (.getfield 16, 3) := by decide +kernel
theorem dX5_mean_29 : decode cX5_mean 29 = .ok (.iload_n 3, 1) := by decide +kernel
theorem dX5_mean_30 : decode cX5_mean 30 = .ok (.iaload, 1) := by decide +kernel
theorem dX5_mean_31 : decode cX5_mean 31 = .ok (.ifCond .ne 7, 3) := by decide +kernel
theorem dX5_mean_34 : decode cX5_mean 34 = .ok (.iconst 1, 1) := by decide +kernel
theorem dX5_mean_35 : decode cX5_mean 35 = .ok (.goto 4, 3) := by decide +kernel
theorem dX5_mean_38 : decode cX5_mean 38 = .ok (.iconst 0, 1) := by decide +kernel
theorem dX5_mean_39 : decode cX5_mean 39 = .ok (.iadd, 1) := by decide +kernel
theorem dX5_mean_40 : decode cX5_mean 40 = .ok (.istore_n 1, 1) := by decide +kernel
theorem dX5_mean_41 : decode cX5_mean 41 = .ok (.iload_n 2, 1) := by decide +kernel
theorem dX5_mean_42 : decode cX5_mean 42 = .ok (.aload_n 0, 1) := by decide +kernel
theorem dX5_mean_43 : decode cX5_mean 43 = .ok (.iload_n 3, 1) := by decide +kernel
theorem dX5_mean_44 : decode cX5_mean 44 = .ok (.invokevirtual 108, 3) := by decide +kernel
theorem dX5_mean_47 : decode cX5_mean 47 = .ok (.invokestatic 35, 3) := by decide +kernel
theorem dX5_mean_50 : decode cX5_mean 50 = .ok (.iadd, 1) := by decide +kernel
theorem dX5_mean_51 : decode cX5_mean 51 = .ok (.istore_n 2, 1) := by decide +kernel
theorem dX5_mean_52 : decode cX5_mean 52 = .ok (.iinc 3 1, 3) := by decide +kernel
theorem dX5_mean_55 : decode cX5_mean 55 = .ok (.goto (-44), 3) := by decide +kernel
theorem dX5_mean_58 : decode cX5_mean 58 = .ok (.iload_n 1, 1) := by decide +kernel
theorem dX5_mean_59 : decode cX5_mean 59 = .ok (.ifCond .ne 7, 3) := by decide +kernel
theorem dX5_mean_62 : decode cX5_mean 62 = .ok (.dconst 0, 1) := by decide +kernel
theorem dX5_mean_63 : decode cX5_mean 63 = .ok (.goto 8, 3) := by decide +kernel
theorem dX5_mean_66 : decode cX5_mean 66 = .ok (.iload_n 2, 1) := by decide +kernel
theorem dX5_mean_67 : decode cX5_mean 67 = .ok (.i2d, 1) := by decide +kernel
theorem dX5_mean_68 : decode cX5_mean 68 = .ok (.iload_n 1, 1) := by decide +kernel
theorem dX5_mean_69 : decode cX5_mean 69 = .ok (.i2d, 1) := by decide +kernel
theorem dX5_mean_70 : decode cX5_mean 70 = .ok (.ddiv, 1) := by decide +kernel
theorem dX5_mean_71 : decode cX5_mean 71 = .ok (.dreturn, 1) := by decide +kernel
set_option maxRecDepth 20000 in
theorem ggX5_digest_X5_counted : GoodIn wsX5_digest wsX5_counted := goodIn_r _ [13, 4, 5, 6, 14, 15, 16, 12, 17, 7, 18, 19, 20, 21, 22, 23, 24, 25, 26, 27, 28, 29, 30, 31, 32, 33, 34, 35, 36, 37, 38, 39, 40, 41, 42, 43, 44, 45, 46, 47, 48, 49, 50, 51, 52, 53, 54, 55, 56, 57, 58, 90, 91, 92, 93, 94, 95, 96, 97, 98, 99, 100, 101] (by decide +kernel) (by decide +kernel)
set_option maxRecDepth 20000 in
theorem gX5_digest_X5_counted : GoodIn wsX5_digest (wsV RX5 125 RX5 yX5_counted wsX5_counted) := goodIn_app (goodIn_of _ (by decide +kernel)) ggX5_digest_X5_counted
set_option maxRecDepth 20000 in
theorem ggX5_digest_X5_canOf : GoodIn wsX5_digest wsX5_canOf := goodIn_r _ [47, 6, 48, 49, 50, 12, 51, 23, 24, 25, 26, 7, 18, 19, 20, 21, 22, 27, 28, 29, 30, 31, 32, 33, 34, 4, 5, 35, 36, 37, 38, 39, 40, 41, 42, 43, 90, 91, 92, 93, 94, 95, 96, 97, 98, 99, 100, 101] (by decide +kernel) (by decide +kernel)
set_option maxRecDepth 20000 in
theorem gX5_digest_X5_canOf : GoodIn wsX5_digest (wsV RX5 108 RX5 yX5_canOf wsX5_canOf) := goodIn_app (goodIn_of _ (by decide +kernel)) ggX5_digest_X5_canOf
set_option maxRecDepth 20000 in
theorem ggX5_digest_X5_corridorTold : GoodIn wsX5_digest wsX5_corridorTold := goodIn_r _ [62, 6, 7, 18, 19, 20, 12, 21, 22, 27, 28, 29, 30, 31, 32, 33, 34, 4, 5, 23, 24, 25, 26, 35, 36, 37, 38, 39, 40, 41, 42, 43, 90, 91, 92, 93, 94, 95, 96, 97, 98, 99, 100, 101] (by decide +kernel) (by decide +kernel)
set_option maxRecDepth 20000 in
theorem gX5_digest_X5_corridorTold : GoodIn wsX5_digest (wsV RX5 118 RX5 yX5_corridorTold wsX5_corridorTold) := goodIn_app (goodIn_of _ (by decide +kernel)) ggX5_digest_X5_corridorTold
set_option maxRecDepth 20000 in
theorem ggX5_digest_X5_look : GoodIn wsX5_digest wsX5_look := goodIn_r _ [66, 8, 67, 68, 69, 70, 71, 72, 12, 73, 4, 5, 6, 23, 24, 25, 26, 7, 18, 19, 20, 21, 22, 27, 28, 29, 30, 31, 32, 33, 34, 35, 36, 37, 38, 39, 40, 41, 42, 43, 74, 75, 76, 77, 78, 79, 80, 81, 82, 83, 84, 85, 48, 49, 50, 51, 90, 91, 92, 93, 94, 95, 96, 97, 98, 99, 100, 101] (by decide +kernel) (by decide +kernel)
set_option maxRecDepth 20000 in
theorem gX5_digest_X5_look : GoodIn wsX5_digest (wsV RX5 131 RX5 yX5_look wsX5_look) := goodIn_app (goodIn_of _ (by decide +kernel)) ggX5_digest_X5_look
set_option maxRecDepth 20000 in
theorem ggX5_digest_X5_told : GoodIn wsX5_digest wsX5_told := goodIn_r _ [89, 68, 67, 90, 91, 92, 93, 94, 95, 96, 97, 98, 99, 100, 101] (by decide +kernel) (by decide +kernel)
set_option maxRecDepth 20000 in
theorem gX5_digest_X5_told : GoodIn wsX5_digest (wsV RX5 134 RX5 yX5_told wsX5_told) := goodIn_app (goodIn_of _ (by decide +kernel)) ggX5_digest_X5_told
theorem dX5_digest_0 : decode cX5_digest 0 = .ok (.aload_n 0, 1) := by decide +kernel
theorem dX5_digest_1 : decode cX5_digest 1 = .ok (.iconst 0, 1) := by decide +kernel
theorem dX5_digest_2 : decode cX5_digest 2 = .ok (.putfield 47, 3) := by decide +kernel
theorem dX5_digest_5 : decode cX5_digest 5 = .ok (.ldc2_w 140, 3) := by decide +kernel
theorem dX5_digest_8 : decode cX5_digest 8 = .ok (.lstore_n 1, 1) := by decide +kernel
theorem dX5_digest_9 : decode cX5_digest 9 = .ok (.iconst 0, 1) := by decide +kernel
theorem dX5_digest_10 : decode cX5_digest 10 = .ok (.istore_n 3, 1) := by decide +kernel
theorem dX5_digest_11 : decode cX5_digest 11 = .ok (.iload_n 3, 1) := by decide +kernel
theorem dX5_digest_12 : decode cX5_digest 12 = .ok (.bipush 8, 2) := by decide +kernel
theorem dX5_digest_14 : decode cX5_digest 14 = .ok (.if_icmp .gt 22, 3) := by decide +kernel
theorem dX5_digest_17 : decode cX5_digest 17 = .ok (.lload_n 1, 1) := by decide +kernel
theorem dX5_digest_18 : decode cX5_digest 18 = .ok (.ldc2_w 142, 3) := by decide +kernel
theorem dX5_digest_21 : decode cX5_digest 21 = .ok (.lmul, 1) := by decide +kernel
theorem dX5_digest_22 : decode cX5_digest 22 = .ok (.aload_n 0, 1) := by decide +kernel
theorem dX5_digest_23 : decode cX5_digest 23 = .ok (.iload_n 3, 1) := by decide +kernel
theorem dX5_digest_24 : decode cX5_digest 24 = .ok (.invokevirtual 125, 3) := by decide +kernel
theorem dX5_digest_27 : decode cX5_digest 27 = .ok (.i2l, 1) := by decide +kernel
theorem dX5_digest_28 : decode cX5_digest 28 = .ok (.ladd, 1) := by decide +kernel
theorem dX5_digest_29 : decode cX5_digest 29 = .ok (.lstore_n 1, 1) := by decide +kernel
theorem dX5_digest_30 : decode cX5_digest 30 = .ok (.iinc 3 1, 3) := by decide +kernel
theorem dX5_digest_33 : decode cX5_digest 33 = .ok (.goto (-22), 3) := by decide +kernel
theorem dX5_digest_36 : decode cX5_digest 36 = .ok (.iconst 0, 1) := by decide +kernel
theorem dX5_digest_37 : decode cX5_digest 37 = .ok (.istore_n 3, 1) := by decide +kernel
theorem dX5_digest_38 : decode cX5_digest 38 = .ok (.iload_n 3, 1) := by decide +kernel
theorem dX5_digest_39 : decode cX5_digest 39 = .ok (.aload_n 0, 1) := by decide +kernel
theorem dX5_digest_40 : decode cX5_digest 40 = .ok (.getfield 7, 3) := by decide +kernel
theorem dX5_digest_43 : decode cX5_digest 43 = .ok (.aload_n 0, 1) := by decide +kernel
theorem dX5_digest_44 : decode cX5_digest 44 = .ok (.getfield 13, 3) := by decide +kernel
theorem dX5_digest_47 : decode cX5_digest 47 = .ok (.imul, 1) := by decide +kernel
theorem dX5_digest_48 : decode cX5_digest 48 = .ok (.if_icmp .ge 102, 3) := by decide +kernel
theorem dX5_digest_51 : decode cX5_digest 51 = .ok (.lload_n 1, 1) := by decide +kernel
theorem dX5_digest_52 : decode cX5_digest 52 = .ok (.ldc2_w 142, 3) := by decide +kernel
theorem dX5_digest_55 : decode cX5_digest 55 = .ok (.lmul, 1) := by decide +kernel
theorem dX5_digest_56 : decode cX5_digest 56 = .ok (.aload_n 0, 1) := by decide +kernel
theorem dX5_digest_57 : decode cX5_digest 57 = .ok (.getfield 16, 3) := by decide +kernel
theorem dX5_digest_60 : decode cX5_digest 60 = .ok (.iload_n 3, 1) := by decide +kernel
theorem dX5_digest_61 : decode cX5_digest 61 = .ok (.iaload, 1) := by decide +kernel
theorem dX5_digest_62 : decode cX5_digest 62 = .ok (.i2l, 1) := by decide +kernel
theorem dX5_digest_63 : decode cX5_digest 63 = .ok (.ladd, 1) := by decide +kernel
theorem dX5_digest_64 : decode cX5_digest 64 = .ok (.ldc2_w 142, 3) := by decide +kernel
theorem dX5_digest_67 : decode cX5_digest 67 = .ok (.lmul, 1) := by decide +kernel
theorem dX5_digest_68 : decode cX5_digest 68 = .ok (.aload_n 0, 1) := by decide +kernel
theorem dX5_digest_69 : decode cX5_digest 69 = .ok (.getfield 20, 3) := by decide +kernel
theorem dX5_digest_72 : decode cX5_digest 72 = .ok (.iload_n 3, 1) := by decide +kernel
theorem dX5_digest_73 : decode cX5_digest 73 = .ok (.iaload, 1) := by decide +kernel
theorem dX5_digest_74 : decode cX5_digest 74 = .ok (.i2l, 1) := by decide +kernel
theorem dX5_digest_75 : decode cX5_digest 75 = .ok (.ladd, 1) := by decide +kernel
theorem dX5_digest_76 : decode cX5_digest 76 = .ok (.lstore_n 1, 1) := by decide +kernel
theorem dX5_digest_77 : decode cX5_digest 77 = .ok (.lload_n 1, 1) := by decide +kernel
theorem dX5_digest_78 : decode cX5_digest 78 = .ok (.ldc2_w 142, 3) := by decide +kernel
theorem dX5_digest_81 : decode cX5_digest 81 = .ok (.lmul, 1) := by decide +kernel
theorem dX5_digest_82 : decode cX5_digest 82 = .ok (.aload_n 0, 1) := by decide +kernel
theorem dX5_digest_83 : decode cX5_digest 83 = .ok (.getfield 20, 3) := by decide +kernel
theorem dX5_digest_86 : decode cX5_digest 86 = .ok (.bipush 36, 2) := by decide +kernel
theorem dX5_digest_88 : decode cX5_digest 88 = .ok (.iload_n 3, 1) := by decide +kernel
theorem dX5_digest_89 : decode cX5_digest 89 = .ok (.iadd, 1) := by decide +kernel
theorem dX5_digest_90 : decode cX5_digest 90 = .ok (.iaload, 1) := by decide +kernel
theorem dX5_digest_91 : decode cX5_digest 91 = .ok (.i2l, 1) := by decide +kernel
theorem dX5_digest_92 : decode cX5_digest 92 = .ok (.ladd, 1) := by decide +kernel
theorem dX5_digest_93 : decode cX5_digest 93 = .ok (.ldc2_w 142, 3) := by decide +kernel
theorem dX5_digest_96 : decode cX5_digest 96 = .ok (.lmul, 1) := by decide +kernel
theorem dX5_digest_97 : decode cX5_digest 97 = .ok (.aload_n 0, 1) := by decide +kernel
theorem dX5_digest_98 : decode cX5_digest 98 = .ok (.iload_n 3, 1) := by decide +kernel
theorem dX5_digest_99 : decode cX5_digest 99 = .ok (.invokevirtual 108, 3) := by decide +kernel
theorem dX5_digest_102 : decode cX5_digest 102 = .ok (.i2l, 1) := by decide +kernel
theorem dX5_digest_103 : decode cX5_digest 103 = .ok (.ladd, 1) := by decide +kernel
theorem dX5_digest_104 : decode cX5_digest 104 = .ok (.lstore_n 1, 1) := by decide +kernel
theorem dX5_digest_105 : decode cX5_digest 105 = .ok (.iconst 0, 1) := by decide +kernel
theorem dX5_digest_106 : decode cX5_digest 106 = .ok (.istore 4, 2) := by decide +kernel
theorem dX5_digest_108 : decode cX5_digest 108 = .ok (.iload 4, 2) := by decide +kernel
theorem dX5_digest_110 : decode cX5_digest 110 = .ok (.bipush 12, 2) := by decide +kernel
theorem dX5_digest_112 : decode cX5_digest 112 = .ok (.if_icmp .ge 32, 3) := by decide +kernel
theorem dX5_digest_115 : decode cX5_digest 115 = .ok (.lload_n 1, 1) := by decide +kernel
theorem dX5_digest_116 : decode cX5_digest 116 = .ok (.ldc2_w 142, 3) := by decide +kernel
theorem dX5_digest_119 : decode cX5_digest 119 = .ok (.lmul, 1) := by decide +kernel
theorem dX5_digest_120 : decode cX5_digest 120 = .ok (.aload_n 0, 1) := by decide +kernel
theorem dX5_digest_121 : decode cX5_digest 121 = .ok (.iload_n 3, 1) := by decide +kernel
theorem dX5_digest_122 : decode cX5_digest 122 = .ok (.iload 4, 2) := by decide +kernel
theorem dX5_digest_124 : decode cX5_digest 124 = .ok (.bipush 6, 2) := by decide +kernel
theorem dX5_digest_126 : decode cX5_digest 126 = .ok (.idiv, 1) := by decide +kernel
theorem dX5_digest_127 : decode cX5_digest 127 = .ok (.iload 4, 2) := by decide +kernel
theorem dX5_digest_129 : decode cX5_digest 129 = .ok (.bipush 6, 2) := by decide +kernel
theorem dX5_digest_131 : decode cX5_digest 131 = .ok (.irem, 1) := by decide +kernel
theorem dX5_digest_132 : decode cX5_digest 132 = .ok (.invokevirtual 118, 3) := by decide +kernel
theorem dX5_digest_135 : decode cX5_digest 135 = .ok (.i2l, 1) := by decide +kernel
theorem dX5_digest_136 : decode cX5_digest 136 = .ok (.ladd, 1) := by decide +kernel
theorem dX5_digest_137 : decode cX5_digest 137 = .ok (.lstore_n 1, 1) := by decide +kernel
theorem dX5_digest_138 : decode cX5_digest 138 = .ok (.iinc 4 1, 3) := by decide +kernel
theorem dX5_digest_141 : decode cX5_digest 141 = .ok (.goto (-33), 3) := by decide +kernel
theorem dX5_digest_144 : decode cX5_digest 144 = .ok (.iinc 3 1, 3) := by decide +kernel
theorem dX5_digest_147 : decode cX5_digest 147 = .ok (.goto (-109), 3) := by decide +kernel
theorem dX5_digest_150 : decode cX5_digest 150 = .ok (.aload_n 0, 1) := by decide +kernel
theorem dX5_digest_151 : decode cX5_digest 151 = .ok (.invokevirtual 131, 3) := by decide +kernel
theorem dX5_digest_154 : decode cX5_digest 154 = .ok (.lload_n 1, 1) := by decide +kernel
theorem dX5_digest_155 : decode cX5_digest 155 = .ok (.ldc2_w 142, 3) := by decide +kernel
theorem dX5_digest_158 : decode cX5_digest 158 = .ok (.lmul, 1) := by decide +kernel
theorem dX5_digest_159 : decode cX5_digest 159 = .ok (.aload_n 0, 1) := by decide +kernel
theorem dX5_digest_160 : decode cX5_digest 160 = .ok (.invokevirtual 134, 3) := by decide +kernel
theorem dX5_digest_163 : decode cX5_digest 163 = .ok (.i2l, 1) := by decide +kernel
theorem dX5_digest_164 : decode cX5_digest 164 = .ok (.ladd, 1) := by decide +kernel
theorem dX5_digest_165 : decode cX5_digest 165 = .ok (.ldc2_w 142, 3) := by decide +kernel
theorem dX5_digest_168 : decode cX5_digest 168 = .ok (.lmul, 1) := by decide +kernel
theorem dX5_digest_169 : decode cX5_digest 169 = .ok (.aload_n 0, 1) := by decide +kernel
theorem dX5_digest_170 : decode cX5_digest 170 = .ok (.getfield 92, 3) := by decide +kernel
theorem dX5_digest_173 : decode cX5_digest 173 = .ok (.i2l, 1) := by decide +kernel
theorem dX5_digest_174 : decode cX5_digest 174 = .ok (.ladd, 1) := by decide +kernel
theorem dX5_digest_175 : decode cX5_digest 175 = .ok (.lreturn, 1) := by decide +kernel
theorem dJ6_numberOfTrailingZeros_0f7a4_0 : decode cJ6_numberOfTrailingZeros_0f7a4 0 = .ok (.iload_n 0, 1) := by decide +kernel
theorem dJ6_numberOfTrailingZeros_0f7a4_1 : decode cJ6_numberOfTrailingZeros_0f7a4 1 = .ok (.iconst (-1), 1) := by decide +kernel
theorem dJ6_numberOfTrailingZeros_0f7a4_2 : decode cJ6_numberOfTrailingZeros_0f7a4 2 = .ok (.ixor, 1) := by decide +kernel
theorem dJ6_numberOfTrailingZeros_0f7a4_3 : decode cJ6_numberOfTrailingZeros_0f7a4 3 = .ok (.iload_n 0, 1) := by decide +kernel
theorem dJ6_numberOfTrailingZeros_0f7a4_4 : decode cJ6_numberOfTrailingZeros_0f7a4 4 = .ok (.iconst 1, 1) := by decide +kernel
theorem dJ6_numberOfTrailingZeros_0f7a4_5 : decode cJ6_numberOfTrailingZeros_0f7a4 5 = .ok (.isub, 1) := by decide +kernel
theorem dJ6_numberOfTrailingZeros_0f7a4_6 : decode cJ6_numberOfTrailingZeros_0f7a4 6 = .ok (.iand, 1) := by decide +kernel
theorem dJ6_numberOfTrailingZeros_0f7a4_7 : decode cJ6_numberOfTrailingZeros_0f7a4 7 = .ok (.istore_n 0, 1) := by decide +kernel
theorem dJ6_numberOfTrailingZeros_0f7a4_8 : decode cJ6_numberOfTrailingZeros_0f7a4 8 = .ok (.iload_n 0, 1) := by decide +kernel
theorem dJ6_numberOfTrailingZeros_0f7a4_9 : decode cJ6_numberOfTrailingZeros_0f7a4 9 = .ok (.ifCond .gt 8, 3) := by decide +kernel
theorem dJ6_numberOfTrailingZeros_0f7a4_12 : decode cJ6_numberOfTrailingZeros_0f7a4 12 = .ok (.iload_n 0, 1) := by decide +kernel
theorem dJ6_numberOfTrailingZeros_0f7a4_13 : decode cJ6_numberOfTrailingZeros_0f7a4 13 = .ok (.bipush 32, 2) := by decide +kernel
theorem dJ6_numberOfTrailingZeros_0f7a4_15 : decode cJ6_numberOfTrailingZeros_0f7a4 15 = .ok (.iand, 1) := by decide +kernel
theorem dJ6_numberOfTrailingZeros_0f7a4_16 : decode cJ6_numberOfTrailingZeros_0f7a4 16 = .ok (.ireturn, 1) := by decide +kernel
theorem dJ6_numberOfTrailingZeros_0f7a4_17 : decode cJ6_numberOfTrailingZeros_0f7a4 17 = .ok (.iconst 1, 1) := by decide +kernel
theorem dJ6_numberOfTrailingZeros_0f7a4_18 : decode cJ6_numberOfTrailingZeros_0f7a4 18 = .ok (.istore_n 1, 1) := by decide +kernel
theorem dJ6_numberOfTrailingZeros_0f7a4_19 : decode cJ6_numberOfTrailingZeros_0f7a4 19 = .ok (.iload_n 0, 1) := by decide +kernel
theorem dJ6_numberOfTrailingZeros_0f7a4_20 : decode cJ6_numberOfTrailingZeros_0f7a4 20 = .ok (.ldc_w 264, 3) := by decide +kernel
theorem dJ6_numberOfTrailingZeros_0f7a4_23 : decode cJ6_numberOfTrailingZeros_0f7a4 23 = .ok (.if_icmp .le 11, 3) := by decide +kernel
theorem dJ6_numberOfTrailingZeros_0f7a4_26 : decode cJ6_numberOfTrailingZeros_0f7a4 26 = .ok (.iinc 1 16, 3) := by decide +kernel
theorem dJ6_numberOfTrailingZeros_0f7a4_29 : decode cJ6_numberOfTrailingZeros_0f7a4 29 = .ok (.iload_n 0, 1) := by decide +kernel
theorem dJ6_numberOfTrailingZeros_0f7a4_30 : decode cJ6_numberOfTrailingZeros_0f7a4 30 = .ok (.bipush 16, 2) := by decide +kernel
theorem dJ6_numberOfTrailingZeros_0f7a4_32 : decode cJ6_numberOfTrailingZeros_0f7a4 32 = .ok (.iushr, 1) := by decide +kernel
theorem dJ6_numberOfTrailingZeros_0f7a4_33 : decode cJ6_numberOfTrailingZeros_0f7a4 33 = .ok (.istore_n 0, 1) := by decide +kernel
theorem dJ6_numberOfTrailingZeros_0f7a4_34 : decode cJ6_numberOfTrailingZeros_0f7a4 34 = .ok (.iload_n 0, 1) := by decide +kernel
theorem dJ6_numberOfTrailingZeros_0f7a4_35 : decode cJ6_numberOfTrailingZeros_0f7a4 35 = .ok (.sipush 256, 3) := by decide +kernel
theorem dJ6_numberOfTrailingZeros_0f7a4_38 : decode cJ6_numberOfTrailingZeros_0f7a4 38 = .ok (.if_icmp .le 11, 3) := by decide +kernel
theorem dJ6_numberOfTrailingZeros_0f7a4_41 : decode cJ6_numberOfTrailingZeros_0f7a4 41 = .ok (.iinc 1 8, 3) := by decide +kernel
theorem dJ6_numberOfTrailingZeros_0f7a4_44 : decode cJ6_numberOfTrailingZeros_0f7a4 44 = .ok (.iload_n 0, 1) := by decide +kernel
theorem dJ6_numberOfTrailingZeros_0f7a4_45 : decode cJ6_numberOfTrailingZeros_0f7a4 45 = .ok (.bipush 8, 2) := by decide +kernel
theorem dJ6_numberOfTrailingZeros_0f7a4_47 : decode cJ6_numberOfTrailingZeros_0f7a4 47 = .ok (.iushr, 1) := by decide +kernel
theorem dJ6_numberOfTrailingZeros_0f7a4_48 : decode cJ6_numberOfTrailingZeros_0f7a4 48 = .ok (.istore_n 0, 1) := by decide +kernel
theorem dJ6_numberOfTrailingZeros_0f7a4_49 : decode cJ6_numberOfTrailingZeros_0f7a4 49 = .ok (.iload_n 0, 1) := by decide +kernel
theorem dJ6_numberOfTrailingZeros_0f7a4_50 : decode cJ6_numberOfTrailingZeros_0f7a4 50 = .ok (.bipush 16, 2) := by decide +kernel
theorem dJ6_numberOfTrailingZeros_0f7a4_52 : decode cJ6_numberOfTrailingZeros_0f7a4 52 = .ok (.if_icmp .le 10, 3) := by decide +kernel
theorem dJ6_numberOfTrailingZeros_0f7a4_55 : decode cJ6_numberOfTrailingZeros_0f7a4 55 = .ok (.iinc 1 4, 3) := by decide +kernel
theorem dJ6_numberOfTrailingZeros_0f7a4_58 : decode cJ6_numberOfTrailingZeros_0f7a4 58 = .ok (.iload_n 0, 1) := by decide +kernel
theorem dJ6_numberOfTrailingZeros_0f7a4_59 : decode cJ6_numberOfTrailingZeros_0f7a4 59 = .ok (.iconst 4, 1) := by decide +kernel
theorem dJ6_numberOfTrailingZeros_0f7a4_60 : decode cJ6_numberOfTrailingZeros_0f7a4 60 = .ok (.iushr, 1) := by decide +kernel
theorem dJ6_numberOfTrailingZeros_0f7a4_61 : decode cJ6_numberOfTrailingZeros_0f7a4 61 = .ok (.istore_n 0, 1) := by decide +kernel
theorem dJ6_numberOfTrailingZeros_0f7a4_62 : decode cJ6_numberOfTrailingZeros_0f7a4 62 = .ok (.iload_n 0, 1) := by decide +kernel
theorem dJ6_numberOfTrailingZeros_0f7a4_63 : decode cJ6_numberOfTrailingZeros_0f7a4 63 = .ok (.iconst 4, 1) := by decide +kernel
theorem dJ6_numberOfTrailingZeros_0f7a4_64 : decode cJ6_numberOfTrailingZeros_0f7a4 64 = .ok (.if_icmp .le 10, 3) := by decide +kernel
theorem dJ6_numberOfTrailingZeros_0f7a4_67 : decode cJ6_numberOfTrailingZeros_0f7a4 67 = .ok (.iinc 1 2, 3) := by decide +kernel
theorem dJ6_numberOfTrailingZeros_0f7a4_70 : decode cJ6_numberOfTrailingZeros_0f7a4 70 = .ok (.iload_n 0, 1) := by decide +kernel
theorem dJ6_numberOfTrailingZeros_0f7a4_71 : decode cJ6_numberOfTrailingZeros_0f7a4 71 = .ok (.iconst 2, 1) := by decide +kernel
theorem dJ6_numberOfTrailingZeros_0f7a4_72 : decode cJ6_numberOfTrailingZeros_0f7a4 72 = .ok (.iushr, 1) := by decide +kernel
theorem dJ6_numberOfTrailingZeros_0f7a4_73 : decode cJ6_numberOfTrailingZeros_0f7a4 73 = .ok (.istore_n 0, 1) := by decide +kernel
theorem dJ6_numberOfTrailingZeros_0f7a4_74 : decode cJ6_numberOfTrailingZeros_0f7a4 74 = .ok (.iload_n 1, 1) := by decide +kernel
theorem dJ6_numberOfTrailingZeros_0f7a4_75 : decode cJ6_numberOfTrailingZeros_0f7a4 75 = .ok (.iload_n 0, 1) := by decide +kernel
theorem dJ6_numberOfTrailingZeros_0f7a4_76 : decode cJ6_numberOfTrailingZeros_0f7a4 76 = .ok (.iconst 1, 1) := by decide +kernel
theorem dJ6_numberOfTrailingZeros_0f7a4_77 : decode cJ6_numberOfTrailingZeros_0f7a4 77 = .ok (.iushr, 1) := by decide +kernel
theorem dJ6_numberOfTrailingZeros_0f7a4_78 : decode cJ6_numberOfTrailingZeros_0f7a4 78 = .ok (.iadd, 1) := by decide +kernel
theorem dJ6_numberOfTrailingZeros_0f7a4_79 : decode cJ6_numberOfTrailingZeros_0f7a4 79 = .ok (.ireturn, 1) := by decide +kernel
theorem dJ6_bitCount_0f7a4_0 : decode cJ6_bitCount_0f7a4 0 = .ok (.iload_n 0, 1) := by decide +kernel
theorem dJ6_bitCount_0f7a4_1 : decode cJ6_bitCount_0f7a4 1 = .ok (.iload_n 0, 1) := by decide +kernel
theorem dJ6_bitCount_0f7a4_2 : decode cJ6_bitCount_0f7a4 2 = .ok (.iconst 1, 1) := by decide +kernel
theorem dJ6_bitCount_0f7a4_3 : decode cJ6_bitCount_0f7a4 3 = .ok (.iushr, 1) := by decide +kernel
theorem dJ6_bitCount_0f7a4_4 : decode cJ6_bitCount_0f7a4 4 = .ok (.ldc_w 265, 3) := by decide +kernel
theorem dJ6_bitCount_0f7a4_7 : decode cJ6_bitCount_0f7a4 7 = .ok (.iand, 1) := by decide +kernel
theorem dJ6_bitCount_0f7a4_8 : decode cJ6_bitCount_0f7a4 8 = .ok (.isub, 1) := by decide +kernel
theorem dJ6_bitCount_0f7a4_9 : decode cJ6_bitCount_0f7a4 9 = .ok (.istore_n 0, 1) := by decide +kernel
theorem dJ6_bitCount_0f7a4_10 : decode cJ6_bitCount_0f7a4 10 = .ok (.iload_n 0, 1) := by decide +kernel
theorem dJ6_bitCount_0f7a4_11 : decode cJ6_bitCount_0f7a4 11 = .ok (.ldc_w 266, 3) := by decide +kernel
theorem dJ6_bitCount_0f7a4_14 : decode cJ6_bitCount_0f7a4 14 = .ok (.iand, 1) := by decide +kernel
theorem dJ6_bitCount_0f7a4_15 : decode cJ6_bitCount_0f7a4 15 = .ok (.iload_n 0, 1) := by decide +kernel
theorem dJ6_bitCount_0f7a4_16 : decode cJ6_bitCount_0f7a4 16 = .ok (.iconst 2, 1) := by decide +kernel
theorem dJ6_bitCount_0f7a4_17 : decode cJ6_bitCount_0f7a4 17 = .ok (.iushr, 1) := by decide +kernel
theorem dJ6_bitCount_0f7a4_18 : decode cJ6_bitCount_0f7a4 18 = .ok (.ldc_w 266, 3) := by decide +kernel
theorem dJ6_bitCount_0f7a4_21 : decode cJ6_bitCount_0f7a4 21 = .ok (.iand, 1) := by decide +kernel
theorem dJ6_bitCount_0f7a4_22 : decode cJ6_bitCount_0f7a4 22 = .ok (.iadd, 1) := by decide +kernel
theorem dJ6_bitCount_0f7a4_23 : decode cJ6_bitCount_0f7a4 23 = .ok (.istore_n 0, 1) := by decide +kernel
theorem dJ6_bitCount_0f7a4_24 : decode cJ6_bitCount_0f7a4 24 = .ok (.iload_n 0, 1) := by decide +kernel
theorem dJ6_bitCount_0f7a4_25 : decode cJ6_bitCount_0f7a4 25 = .ok (.iload_n 0, 1) := by decide +kernel
theorem dJ6_bitCount_0f7a4_26 : decode cJ6_bitCount_0f7a4 26 = .ok (.iconst 4, 1) := by decide +kernel
theorem dJ6_bitCount_0f7a4_27 : decode cJ6_bitCount_0f7a4 27 = .ok (.iushr, 1) := by decide +kernel
theorem dJ6_bitCount_0f7a4_28 : decode cJ6_bitCount_0f7a4 28 = .ok (.iadd, 1) := by decide +kernel
theorem dJ6_bitCount_0f7a4_29 : decode cJ6_bitCount_0f7a4 29 = .ok (.ldc_w 267, 3) := by decide +kernel
theorem dJ6_bitCount_0f7a4_32 : decode cJ6_bitCount_0f7a4 32 = .ok (.iand, 1) := by decide +kernel
theorem dJ6_bitCount_0f7a4_33 : decode cJ6_bitCount_0f7a4 33 = .ok (.istore_n 0, 1) := by decide +kernel
theorem dJ6_bitCount_0f7a4_34 : decode cJ6_bitCount_0f7a4 34 = .ok (.iload_n 0, 1) := by decide +kernel
theorem dJ6_bitCount_0f7a4_35 : decode cJ6_bitCount_0f7a4 35 = .ok (.iload_n 0, 1) := by decide +kernel
theorem dJ6_bitCount_0f7a4_36 : decode cJ6_bitCount_0f7a4 36 = .ok (.bipush 8, 2) := by decide +kernel
theorem dJ6_bitCount_0f7a4_38 : decode cJ6_bitCount_0f7a4 38 = .ok (.iushr, 1) := by decide +kernel
theorem dJ6_bitCount_0f7a4_39 : decode cJ6_bitCount_0f7a4 39 = .ok (.iadd, 1) := by decide +kernel
theorem dJ6_bitCount_0f7a4_40 : decode cJ6_bitCount_0f7a4 40 = .ok (.istore_n 0, 1) := by decide +kernel
theorem dJ6_bitCount_0f7a4_41 : decode cJ6_bitCount_0f7a4 41 = .ok (.iload_n 0, 1) := by decide +kernel
theorem dJ6_bitCount_0f7a4_42 : decode cJ6_bitCount_0f7a4 42 = .ok (.iload_n 0, 1) := by decide +kernel
theorem dJ6_bitCount_0f7a4_43 : decode cJ6_bitCount_0f7a4 43 = .ok (.bipush 16, 2) := by decide +kernel
theorem dJ6_bitCount_0f7a4_45 : decode cJ6_bitCount_0f7a4 45 = .ok (.iushr, 1) := by decide +kernel
theorem dJ6_bitCount_0f7a4_46 : decode cJ6_bitCount_0f7a4 46 = .ok (.iadd, 1) := by decide +kernel
theorem dJ6_bitCount_0f7a4_47 : decode cJ6_bitCount_0f7a4 47 = .ok (.istore_n 0, 1) := by decide +kernel
theorem dJ6_bitCount_0f7a4_48 : decode cJ6_bitCount_0f7a4 48 = .ok (.iload_n 0, 1) := by decide +kernel
theorem dJ6_bitCount_0f7a4_49 : decode cJ6_bitCount_0f7a4 49 = .ok (.bipush 63, 2) := by decide +kernel
theorem dJ6_bitCount_0f7a4_51 : decode cJ6_bitCount_0f7a4 51 = .ok (.iand, 1) := by decide +kernel
theorem dJ6_bitCount_0f7a4_52 : decode cJ6_bitCount_0f7a4 52 = .ok (.ireturn, 1) := by decide +kernel
set_option maxRecDepth 20000 in
theorem ggL_setFloor_X4_setFloor : GoodIn wsL_setFloor wsX4_setFloor := goodIn_ca (goodIn_r _ [6, 7, 8, 9, 10, 11, 12, 13, 14, 15, 16, 17, 18, 19, 20, 21, 22, 23, 24, 25, 26, 27, 5, 28, 29, 30, 31, 32, 33, 34, 35, 36, 37, 38, 39, 40, 41, 42, 43, 44, 45, 46, 47, 48, 49, 50, 51, 52, 53, 54, 55, 56, 57, 58, 59, 60, 61, 62, 63, 64, 65, 66, 67, 68, 69, 70, 71, 72, 73, 74, 75] (by decide +kernel) (by decide +kernel)) (goodIn_sub (fun _ h => List.mem_cons_of_mem _ (List.mem_append_right _ h)) (by decide +kernel))
set_option maxRecDepth 20000 in
theorem gL_setFloor_X4_setFloor : GoodIn wsL_setFloor (wsV RL 7 RX4 yX4_setFloor wsX4_setFloor) := goodIn_app (goodIn_of _ (by decide +kernel)) ggL_setFloor_X4_setFloor
end
section
theorem dL_setFloor_0 : decode cL_setFloor 0 = .ok (.aload_n 3, 1) := by decide +kernel
theorem dL_setFloor_1 : decode cL_setFloor 1 = .ok (.iconst 0, 1) := by decide +kernel
theorem dL_setFloor_2 : decode cL_setFloor 2 = .ok (.aload_n 0, 1) := by decide +kernel
theorem dL_setFloor_3 : decode cL_setFloor 3 = .ok (.iload_n 1, 1) := by decide +kernel
theorem dL_setFloor_4 : decode cL_setFloor 4 = .ok (.iload_n 2, 1) := by decide +kernel
theorem dL_setFloor_5 : decode cL_setFloor 5 = .ok (.invokevirtual 7, 3) := by decide +kernel
theorem dL_setFloor_8 : decode cL_setFloor 8 = .ok (.i2l, 1) := by decide +kernel
theorem dL_setFloor_9 : decode cL_setFloor 9 = .ok (.lastore, 1) := by decide +kernel
theorem dL_setFloor_10 : decode cL_setFloor 10 = .ok (.goto 7, 3) := by decide +kernel
theorem dL_setFloor_13 : decode cL_setFloor 13 = .ok (.astore 4, 2) := by decide +kernel
theorem dL_setFloor_15 : decode cL_setFloor 15 = .ok (.iconst 1, 1) := by decide +kernel
theorem dL_setFloor_16 : decode cL_setFloor 16 = .ok (.ireturn, 1) := by decide +kernel
theorem dL_setFloor_17 : decode cL_setFloor 17 = .ok (.iconst 0, 1) := by decide +kernel
theorem dL_setFloor_18 : decode cL_setFloor 18 = .ok (.ireturn, 1) := by decide +kernel
set_option maxRecDepth 20000 in
theorem ggL_pillar_X4_pillar : GoodIn wsL_pillar wsX4_pillar := goodIn_ca (goodIn_r _ [6, 7, 8, 9, 10, 11, 5, 12, 13, 14, 15, 16, 17, 18, 19, 20, 21, 22, 23, 24, 25, 26, 27, 28, 29, 30, 31, 32, 33, 34, 35, 36, 37, 38, 39, 40, 41, 42, 43, 44, 45, 46, 47, 48, 49, 50, 51, 52, 53, 54, 55, 56, 57, 58, 59, 60, 61, 62, 63, 64, 65, 66, 67, 68, 69, 70, 71, 72, 73, 74, 75, 76, 77, 78, 79, 80, 81, 82] (by decide +kernel) (by decide +kernel)) (goodIn_sub (fun _ h => List.mem_cons_of_mem _ (List.mem_append_right _ h)) (by decide +kernel))
set_option maxRecDepth 20000 in
theorem gL_pillar_X4_pillar : GoodIn wsL_pillar (wsV RL 15 RX4 yX4_pillar wsX4_pillar) := goodIn_app (goodIn_of _ (by decide +kernel)) ggL_pillar_X4_pillar
theorem dL_pillar_0 : decode cL_pillar 0 = .ok (.aload_n 2, 1) := by decide +kernel
theorem dL_pillar_1 : decode cL_pillar 1 = .ok (.iconst 0, 1) := by decide +kernel
theorem dL_pillar_2 : decode cL_pillar 2 = .ok (.aload_n 0, 1) := by decide +kernel
theorem dL_pillar_3 : decode cL_pillar 3 = .ok (.iload_n 1, 1) := by decide +kernel
theorem dL_pillar_4 : decode cL_pillar 4 = .ok (.invokevirtual 15, 3) := by decide +kernel
theorem dL_pillar_7 : decode cL_pillar 7 = .ok (.ifCond .eq 7, 3) := by decide +kernel
theorem dL_pillar_10 : decode cL_pillar 10 = .ok (.lconst 1, 1) := by decide +kernel
theorem dL_pillar_11 : decode cL_pillar 11 = .ok (.goto 4, 3) := by decide +kernel
theorem dL_pillar_14 : decode cL_pillar 14 = .ok (.lconst 0, 1) := by decide +kernel
theorem dL_pillar_15 : decode cL_pillar 15 = .ok (.lastore, 1) := by decide +kernel
theorem dL_pillar_16 : decode cL_pillar 16 = .ok (.goto 6, 3) := by decide +kernel
theorem dL_pillar_19 : decode cL_pillar 19 = .ok (.astore_n 3, 1) := by decide +kernel
theorem dL_pillar_20 : decode cL_pillar 20 = .ok (.iconst 1, 1) := by decide +kernel
theorem dL_pillar_21 : decode cL_pillar 21 = .ok (.ireturn, 1) := by decide +kernel
theorem dL_pillar_22 : decode cL_pillar 22 = .ok (.iconst 0, 1) := by decide +kernel
theorem dL_pillar_23 : decode cL_pillar 23 = .ok (.ireturn, 1) := by decide +kernel
set_option maxRecDepth 20000 in
theorem ggL_setSum_X4_setSum : GoodIn wsL_setSum wsX4_setSum := goodIn_ca (goodIn_ca (goodIn_r _ [7, 8, 9, 10, 11, 12, 13, 14, 6, 15, 16, 17, 18, 19, 20, 21, 22, 23, 24, 25, 26, 27, 28, 29, 30, 31, 32, 33, 34, 35, 36, 37, 38, 39, 40, 41, 42, 43, 44, 45, 46, 47, 48, 49, 50, 51, 52, 53, 54, 55, 56, 57, 58, 59, 60, 61, 62, 63, 64, 65, 66, 67, 68, 69, 70, 71, 72, 73] (by decide +kernel) (by decide +kernel)) (goodIn_sub (fun _ h => List.mem_cons_of_mem _ (List.mem_append_left _ (List.mem_append_right _ h))) (by decide +kernel))) (goodIn_sub (fun _ h => List.mem_cons_of_mem _ (List.mem_append_right _ h)) (by decide +kernel))
set_option maxRecDepth 20000 in
theorem gL_setSum_X4_setSum : GoodIn wsL_setSum (wsV RL 21 RX4 yX4_setSum wsX4_setSum) := goodIn_app (goodIn_of _ (by decide +kernel)) ggL_setSum_X4_setSum
theorem dL_setSum_0 : decode cL_setSum 0 = .ok (.aload 4, 2) := by decide +kernel
theorem dL_setSum_2 : decode cL_setSum 2 = .ok (.iconst 0, 1) := by decide +kernel
theorem dL_setSum_3 : decode cL_setSum 3 = .ok (.aload_n 0, 1) := by decide +kernel
theorem dL_setSum_4 : decode cL_setSum 4 = .ok (.iload_n 1, 1) := by decide +kernel
theorem dL_setSum_5 : decode cL_setSum 5 = .ok (.iload_n 2, 1) := by decide +kernel
theorem dL_setSum_6 : decode cL_setSum 6 = .ok (.iload_n 3, 1) := by decide +kernel
theorem dL_setSum_7 : decode cL_setSum 7 = .ok (.invokevirtual 21, 3) := by decide +kernel
theorem dL_setSum_10 : decode cL_setSum 10 = .ok (.i2l, 1) := by decide +kernel
theorem dL_setSum_11 : decode cL_setSum 11 = .ok (.lastore, 1) := by decide +kernel
theorem dL_setSum_12 : decode cL_setSum 12 = .ok (.goto 11, 3) := by decide +kernel
theorem dL_setSum_15 : decode cL_setSum 15 = .ok (.astore 5, 2) := by decide +kernel
theorem dL_setSum_17 : decode cL_setSum 17 = .ok (.iconst 1, 1) := by decide +kernel
theorem dL_setSum_18 : decode cL_setSum 18 = .ok (.ireturn, 1) := by decide +kernel
theorem dL_setSum_19 : decode cL_setSum 19 = .ok (.astore 5, 2) := by decide +kernel
theorem dL_setSum_21 : decode cL_setSum 21 = .ok (.iconst 2, 1) := by decide +kernel
theorem dL_setSum_22 : decode cL_setSum 22 = .ok (.ireturn, 1) := by decide +kernel
theorem dL_setSum_23 : decode cL_setSum 23 = .ok (.iconst 0, 1) := by decide +kernel
theorem dL_setSum_24 : decode cL_setSum 24 = .ok (.ireturn, 1) := by decide +kernel
set_option maxRecDepth 20000 in
theorem ggL_put_X4_put : GoodIn wsL_put wsX4_put := goodIn_ca (goodIn_ca (goodIn_ca (goodIn_r _ [8, 9, 10, 11, 12, 13, 14, 15, 7, 16, 17, 18, 19, 20, 21, 22, 23, 24, 25, 26, 27, 28, 29, 30, 31, 32, 33, 34, 35, 36, 37, 38, 39, 40, 41, 42, 43, 44, 45, 46, 47, 48, 49, 50, 51, 52, 53, 54, 55, 56, 57, 58, 59, 60, 61, 62, 63, 64, 65, 66, 67, 68, 69, 70, 71, 72] (by decide +kernel) (by decide +kernel)) (goodIn_sub (fun _ h => List.mem_cons_of_mem _ (List.mem_append_left _ (List.mem_append_left _ (List.mem_append_right _ h)))) (by decide +kernel))) (goodIn_sub (fun _ h => List.mem_cons_of_mem _ (List.mem_append_left _ (List.mem_append_right _ h))) (by decide +kernel))) (goodIn_sub (fun _ h => List.mem_cons_of_mem _ (List.mem_append_right _ h)) (by decide +kernel))
set_option maxRecDepth 20000 in
theorem gL_put_X4_put : GoodIn wsL_put (wsV RL 25 RX4 yX4_put wsX4_put) := goodIn_app (goodIn_of _ (by decide +kernel)) ggL_put_X4_put
theorem dL_put_0 : decode cL_put 0 = .ok (.aload_n 3, 1) := by decide +kernel
theorem dL_put_1 : decode cL_put 1 = .ok (.iconst 0, 1) := by decide +kernel
theorem dL_put_2 : decode cL_put 2 = .ok (.aload_n 0, 1) := by decide +kernel
theorem dL_put_3 : decode cL_put 3 = .ok (.iload_n 1, 1) := by decide +kernel
theorem dL_put_4 : decode cL_put 4 = .ok (.iload_n 2, 1) := by decide +kernel
theorem dL_put_5 : decode cL_put 5 = .ok (.invokevirtual 25, 3) := by decide +kernel
theorem dL_put_8 : decode cL_put 8 = .ok (.i2l, 1) := by decide +kernel
theorem dL_put_9 : decode cL_put 9 = .ok (.lastore, 1) := by decide +kernel
theorem dL_put_10 : decode cL_put 10 = .ok (.goto 15, 3) := by decide +kernel
theorem dL_put_13 : decode cL_put 13 = .ok (.astore 4, 2) := by decide +kernel
theorem dL_put_15 : decode cL_put 15 = .ok (.iconst 1, 1) := by decide +kernel
theorem dL_put_16 : decode cL_put 16 = .ok (.ireturn, 1) := by decide +kernel
theorem dL_put_17 : decode cL_put 17 = .ok (.astore 4, 2) := by decide +kernel
theorem dL_put_19 : decode cL_put 19 = .ok (.iconst 2, 1) := by decide +kernel
theorem dL_put_20 : decode cL_put 20 = .ok (.ireturn, 1) := by decide +kernel
theorem dL_put_21 : decode cL_put 21 = .ok (.astore 4, 2) := by decide +kernel
theorem dL_put_23 : decode cL_put 23 = .ok (.iconst 3, 1) := by decide +kernel
theorem dL_put_24 : decode cL_put 24 = .ok (.ireturn, 1) := by decide +kernel
theorem dL_put_25 : decode cL_put 25 = .ok (.iconst 0, 1) := by decide +kernel
theorem dL_put_26 : decode cL_put 26 = .ok (.ireturn, 1) := by decide +kernel
set_option maxRecDepth 20000 in
theorem ggL_stone_X4_stone : GoodIn wsL_stone wsX4_stone := goodIn_ca (goodIn_r _ [6, 7, 8, 9, 10, 5, 11, 12, 13, 14, 15, 16, 17, 18, 19, 20, 21, 22, 23, 24, 25, 26, 27, 28, 29, 30, 31, 32, 33, 34, 35, 36, 37, 38] (by decide +kernel) (by decide +kernel)) (goodIn_sub (fun _ h => List.mem_cons_of_mem _ (List.mem_append_right _ h)) (by decide +kernel))
set_option maxRecDepth 20000 in
theorem gL_stone_X4_stone : GoodIn wsL_stone (wsV RL 30 RX4 yX4_stone wsX4_stone) := goodIn_app (goodIn_of _ (by decide +kernel)) ggL_stone_X4_stone
theorem dL_stone_0 : decode cL_stone 0 = .ok (.aload_n 2, 1) := by decide +kernel
theorem dL_stone_1 : decode cL_stone 1 = .ok (.iconst 0, 1) := by decide +kernel
theorem dL_stone_2 : decode cL_stone 2 = .ok (.aload_n 0, 1) := by decide +kernel
theorem dL_stone_3 : decode cL_stone 3 = .ok (.iload_n 1, 1) := by decide +kernel
theorem dL_stone_4 : decode cL_stone 4 = .ok (.invokevirtual 30, 3) := by decide +kernel
theorem dL_stone_7 : decode cL_stone 7 = .ok (.i2l, 1) := by decide +kernel
theorem dL_stone_8 : decode cL_stone 8 = .ok (.lastore, 1) := by decide +kernel
theorem dL_stone_9 : decode cL_stone 9 = .ok (.goto 6, 3) := by decide +kernel
theorem dL_stone_12 : decode cL_stone 12 = .ok (.astore_n 3, 1) := by decide +kernel
theorem dL_stone_13 : decode cL_stone 13 = .ok (.iconst 1, 1) := by decide +kernel
theorem dL_stone_14 : decode cL_stone 14 = .ok (.ireturn, 1) := by decide +kernel
theorem dL_stone_15 : decode cL_stone 15 = .ok (.iconst 0, 1) := by decide +kernel
theorem dL_stone_16 : decode cL_stone 16 = .ok (.ireturn, 1) := by decide +kernel
set_option maxRecDepth 20000 in
theorem ggL_corridor_X4_corridor : GoodIn wsL_corridor wsX4_corridor := goodIn_ca (goodIn_r _ [6, 7, 8, 9, 10, 11, 12, 5, 13, 14, 15, 16, 17, 18, 19, 20, 21, 22, 23, 24, 25, 26, 27, 28, 29, 30, 31, 32, 33, 34, 35, 36, 37, 38, 39, 40, 41, 42, 43, 44, 45, 46, 47, 48, 49, 50, 51, 52, 53, 54, 55, 56, 57, 58, 59, 60, 61, 62, 63, 64, 65, 66, 67, 68, 69, 70, 71, 72, 73, 74, 75, 76, 77, 78, 79, 80, 81, 82, 83, 84, 85, 86, 87, 88] (by decide +kernel) (by decide +kernel)) (goodIn_sub (fun _ h => List.mem_cons_of_mem _ (List.mem_append_right _ h)) (by decide +kernel))
set_option maxRecDepth 20000 in
theorem gL_corridor_X4_corridor : GoodIn wsL_corridor (wsV RL 34 RX4 yX4_corridor wsX4_corridor) := goodIn_app (goodIn_of _ (by decide +kernel)) ggL_corridor_X4_corridor
theorem dL_corridor_0 : decode cL_corridor 0 = .ok (.aload 4, 2) := by decide +kernel
theorem dL_corridor_2 : decode cL_corridor 2 = .ok (.iconst 0, 1) := by decide +kernel
theorem dL_corridor_3 : decode cL_corridor 3 = .ok (.aload_n 0, 1) := by decide +kernel
theorem dL_corridor_4 : decode cL_corridor 4 = .ok (.iload_n 1, 1) := by decide +kernel
theorem dL_corridor_5 : decode cL_corridor 5 = .ok (.iload_n 2, 1) := by decide +kernel
theorem dL_corridor_6 : decode cL_corridor 6 = .ok (.iload_n 3, 1) := by decide +kernel
theorem dL_corridor_7 : decode cL_corridor 7 = .ok (.invokevirtual 34, 3) := by decide +kernel
theorem dL_corridor_10 : decode cL_corridor 10 = .ok (.i2l, 1) := by decide +kernel
theorem dL_corridor_11 : decode cL_corridor 11 = .ok (.lastore, 1) := by decide +kernel
theorem dL_corridor_12 : decode cL_corridor 12 = .ok (.goto 7, 3) := by decide +kernel
theorem dL_corridor_15 : decode cL_corridor 15 = .ok (.astore 5, 2) := by decide +kernel
theorem dL_corridor_17 : decode cL_corridor 17 = .ok (.iconst 1, 1) := by decide +kernel
theorem dL_corridor_18 : decode cL_corridor 18 = .ok (.ireturn, 1) := by decide +kernel
theorem dL_corridor_19 : decode cL_corridor 19 = .ok (.iconst 0, 1) := by decide +kernel
theorem dL_corridor_20 : decode cL_corridor 20 = .ok (.ireturn, 1) := by decide +kernel
set_option maxRecDepth 20000 in
theorem ggL_can_X4_can : GoodIn wsL_can wsX4_can := goodIn_ca (goodIn_r _ [6, 7, 8, 9, 10, 5, 11, 12, 13, 14, 15, 16, 17, 18, 19, 20, 21, 22, 23, 24, 25, 26, 27, 28, 29, 30, 31, 32, 33, 34, 35, 36, 37, 38, 39, 40, 41, 42, 43, 44, 45, 46, 47, 48, 49, 50, 51, 52, 53, 54, 55, 56, 57, 58, 59, 60, 61, 62, 63, 64, 65, 66, 67, 68, 69, 70, 71, 72, 73, 74, 75, 76, 77, 78, 79, 80, 81, 82, 83, 84, 85, 86, 87, 88, 89] (by decide +kernel) (by decide +kernel)) (goodIn_sub (fun _ h => List.mem_cons_of_mem _ (List.mem_append_right _ h)) (by decide +kernel))
set_option maxRecDepth 20000 in
theorem gL_can_X4_can : GoodIn wsL_can (wsV RL 37 RX4 yX4_can wsX4_can) := goodIn_app (goodIn_of _ (by decide +kernel)) ggL_can_X4_can
theorem dL_can_0 : decode cL_can 0 = .ok (.aload_n 2, 1) := by decide +kernel
theorem dL_can_1 : decode cL_can 1 = .ok (.iconst 0, 1) := by decide +kernel
theorem dL_can_2 : decode cL_can 2 = .ok (.aload_n 0, 1) := by decide +kernel
theorem dL_can_3 : decode cL_can 3 = .ok (.iload_n 1, 1) := by decide +kernel
theorem dL_can_4 : decode cL_can 4 = .ok (.invokevirtual 37, 3) := by decide +kernel
theorem dL_can_7 : decode cL_can 7 = .ok (.i2l, 1) := by decide +kernel
theorem dL_can_8 : decode cL_can 8 = .ok (.lastore, 1) := by decide +kernel
theorem dL_can_9 : decode cL_can 9 = .ok (.goto 6, 3) := by decide +kernel
theorem dL_can_12 : decode cL_can 12 = .ok (.astore_n 3, 1) := by decide +kernel
theorem dL_can_13 : decode cL_can 13 = .ok (.iconst 1, 1) := by decide +kernel
theorem dL_can_14 : decode cL_can 14 = .ok (.ireturn, 1) := by decide +kernel
theorem dL_can_15 : decode cL_can 15 = .ok (.iconst 0, 1) := by decide +kernel
theorem dL_can_16 : decode cL_can 16 = .ok (.ireturn, 1) := by decide +kernel
set_option maxRecDepth 20000 in
theorem ggL_count_X4_count : GoodIn wsL_count wsX4_count := goodIn_ca (goodIn_r _ [6, 7, 8, 9, 10, 11, 12, 13, 14, 15, 16, 17, 18, 19, 20, 21, 22, 23, 24, 25, 26, 27, 28, 29, 30, 31, 32, 5, 33, 34, 35, 36, 37, 38, 39, 40, 41, 42, 43, 44, 45, 46, 47, 48, 49, 50, 51, 52, 53, 54, 55, 56, 57, 58, 59, 60, 61, 62, 63, 64, 65, 66, 67, 68, 69, 70, 71, 72, 73, 74, 75, 76, 77, 78, 79, 80, 81, 82, 83, 84, 85, 86, 87, 88, 89, 90, 91, 92, 93, 94, 95, 96, 97, 98, 99, 100, 101, 102, 103, 104, 105, 106, 107, 108, 109, 110, 111, 112, 113, 114, 115, 116, 117, 118, 119, 120, 121, 122, 123, 124, 125, 126] (by decide +kernel) (by decide +kernel)) (goodIn_sub (fun _ h => List.mem_cons_of_mem _ (List.mem_append_right _ h)) (by decide +kernel))
set_option maxRecDepth 20000 in
theorem gL_count_X4_count : GoodIn wsL_count (wsV RL 40 RX4 yX4_count wsX4_count) := goodIn_app (goodIn_of _ (by decide +kernel)) ggL_count_X4_count
theorem dL_count_0 : decode cL_count 0 = .ok (.aload_n 2, 1) := by decide +kernel
theorem dL_count_1 : decode cL_count 1 = .ok (.iconst 0, 1) := by decide +kernel
theorem dL_count_2 : decode cL_count 2 = .ok (.aload_n 0, 1) := by decide +kernel
theorem dL_count_3 : decode cL_count 3 = .ok (.iload_n 1, 1) := by decide +kernel
theorem dL_count_4 : decode cL_count 4 = .ok (.invokevirtual 40, 3) := by decide +kernel
theorem dL_count_7 : decode cL_count 7 = .ok (.i2l, 1) := by decide +kernel
theorem dL_count_8 : decode cL_count 8 = .ok (.lastore, 1) := by decide +kernel
theorem dL_count_9 : decode cL_count 9 = .ok (.goto 6, 3) := by decide +kernel
theorem dL_count_12 : decode cL_count 12 = .ok (.astore_n 3, 1) := by decide +kernel
theorem dL_count_13 : decode cL_count 13 = .ok (.iconst 1, 1) := by decide +kernel
theorem dL_count_14 : decode cL_count 14 = .ok (.ireturn, 1) := by decide +kernel
theorem dL_count_15 : decode cL_count 15 = .ok (.iconst 0, 1) := by decide +kernel
theorem dL_count_16 : decode cL_count 16 = .ok (.ireturn, 1) := by decide +kernel
set_option maxRecDepth 20000 in
theorem ggL_ways_X4_ways : GoodIn wsL_ways wsX4_ways := goodIn_ca (goodIn_r _ [6, 7, 8, 5, 9, 10, 11, 12, 13, 14, 15, 16, 17, 18, 19, 20, 21, 22, 23, 24, 25, 26, 27] (by decide +kernel) (by decide +kernel)) (goodIn_sub (fun _ h => List.mem_cons_of_mem _ (List.mem_append_right _ h)) (by decide +kernel))
set_option maxRecDepth 20000 in
theorem gL_ways_X4_ways : GoodIn wsL_ways (wsV RL 43 RX4 yX4_ways wsX4_ways) := goodIn_app (goodIn_of _ (by decide +kernel)) ggL_ways_X4_ways
theorem dL_ways_0 : decode cL_ways 0 = .ok (.aload_n 3, 1) := by decide +kernel
theorem dL_ways_1 : decode cL_ways 1 = .ok (.iconst 0, 1) := by decide +kernel
theorem dL_ways_2 : decode cL_ways 2 = .ok (.aload_n 0, 1) := by decide +kernel
theorem dL_ways_3 : decode cL_ways 3 = .ok (.iload_n 1, 1) := by decide +kernel
theorem dL_ways_4 : decode cL_ways 4 = .ok (.iload_n 2, 1) := by decide +kernel
theorem dL_ways_5 : decode cL_ways 5 = .ok (.invokevirtual 43, 3) := by decide +kernel
theorem dL_ways_8 : decode cL_ways 8 = .ok (.i2l, 1) := by decide +kernel
theorem dL_ways_9 : decode cL_ways 9 = .ok (.lastore, 1) := by decide +kernel
theorem dL_ways_10 : decode cL_ways 10 = .ok (.goto 7, 3) := by decide +kernel
theorem dL_ways_13 : decode cL_ways 13 = .ok (.astore 4, 2) := by decide +kernel
theorem dL_ways_15 : decode cL_ways 15 = .ok (.iconst 1, 1) := by decide +kernel
theorem dL_ways_16 : decode cL_ways 16 = .ok (.ireturn, 1) := by decide +kernel
theorem dL_ways_17 : decode cL_ways 17 = .ok (.iconst 0, 1) := by decide +kernel
theorem dL_ways_18 : decode cL_ways 18 = .ok (.ireturn, 1) := by decide +kernel
set_option maxRecDepth 20000 in
theorem ggL_forced_X4_forced : GoodIn wsL_forced wsX4_forced := goodIn_ca (goodIn_r _ [6, 7, 8, 5, 9, 10, 11, 12, 13, 14, 15, 16, 17, 18, 19, 20, 21, 22, 23, 24, 25, 26, 27] (by decide +kernel) (by decide +kernel)) (goodIn_sub (fun _ h => List.mem_cons_of_mem _ (List.mem_append_right _ h)) (by decide +kernel))
set_option maxRecDepth 20000 in
theorem gL_forced_X4_forced : GoodIn wsL_forced (wsV RL 46 RX4 yX4_forced wsX4_forced) := goodIn_app (goodIn_of _ (by decide +kernel)) ggL_forced_X4_forced
theorem dL_forced_0 : decode cL_forced 0 = .ok (.aload_n 3, 1) := by decide +kernel
theorem dL_forced_1 : decode cL_forced 1 = .ok (.iconst 0, 1) := by decide +kernel
theorem dL_forced_2 : decode cL_forced 2 = .ok (.aload_n 0, 1) := by decide +kernel
theorem dL_forced_3 : decode cL_forced 3 = .ok (.iload_n 1, 1) := by decide +kernel
theorem dL_forced_4 : decode cL_forced 4 = .ok (.iload_n 2, 1) := by decide +kernel
theorem dL_forced_5 : decode cL_forced 5 = .ok (.invokevirtual 46, 3) := by decide +kernel
theorem dL_forced_8 : decode cL_forced 8 = .ok (.i2l, 1) := by decide +kernel
theorem dL_forced_9 : decode cL_forced 9 = .ok (.lastore, 1) := by decide +kernel
theorem dL_forced_10 : decode cL_forced 10 = .ok (.goto 7, 3) := by decide +kernel
theorem dL_forced_13 : decode cL_forced 13 = .ok (.astore 4, 2) := by decide +kernel
theorem dL_forced_15 : decode cL_forced 15 = .ok (.iconst 1, 1) := by decide +kernel
theorem dL_forced_16 : decode cL_forced 16 = .ok (.ireturn, 1) := by decide +kernel
theorem dL_forced_17 : decode cL_forced 17 = .ok (.iconst 0, 1) := by decide +kernel
theorem dL_forced_18 : decode cL_forced 18 = .ok (.ireturn, 1) := by decide +kernel
set_option maxRecDepth 20000 in
theorem ggL_solved_X4_solved : GoodIn wsL_solved wsX4_solved := goodIn_ca (goodIn_r _ [6, 7, 8, 9, 10, 11, 5, 12, 13, 14, 15, 16, 17, 18, 19, 20, 21, 22, 23, 24, 25, 26, 27, 28, 29, 30, 31, 32, 33, 34, 35, 36, 37, 38, 39, 40, 41, 42, 43, 44, 45, 46, 47, 48, 49, 50, 51, 52, 53, 54, 55, 56, 57, 58, 59, 60, 61, 62, 63, 64, 65, 66, 67, 68, 69, 70, 71, 72, 73, 74, 75, 76, 77, 78, 79, 80, 81, 82, 83, 84, 85, 86, 87, 88, 89, 90, 91, 92, 93, 94, 95, 96, 97, 98, 99, 100, 101, 102, 103, 104, 105, 106, 107, 108, 109, 110, 111, 112, 113, 114, 115, 116, 117, 118, 119, 120, 121, 122, 123, 124, 125, 126, 127, 128, 129, 130, 131, 132, 133, 134, 135, 136, 137, 138, 139, 140, 141, 142, 143, 144, 145, 146, 147, 148, 149, 150, 151, 152, 153, 154, 155, 156, 157, 158, 159, 160, 161, 162, 163, 164, 165, 166, 167, 168, 169, 170] (by decide +kernel) (by decide +kernel)) (goodIn_sub (fun _ h => List.mem_cons_of_mem _ (List.mem_append_right _ h)) (by decide +kernel))
set_option maxRecDepth 20000 in
theorem gL_solved_X4_solved : GoodIn wsL_solved (wsV RL 49 RX4 yX4_solved wsX4_solved) := goodIn_app (goodIn_of _ (by decide +kernel)) ggL_solved_X4_solved
theorem dL_solved_0 : decode cL_solved 0 = .ok (.aload_n 2, 1) := by decide +kernel
theorem dL_solved_1 : decode cL_solved 1 = .ok (.iconst 0, 1) := by decide +kernel
theorem dL_solved_2 : decode cL_solved 2 = .ok (.aload_n 0, 1) := by decide +kernel
theorem dL_solved_3 : decode cL_solved 3 = .ok (.iload_n 1, 1) := by decide +kernel
theorem dL_solved_4 : decode cL_solved 4 = .ok (.invokevirtual 49, 3) := by decide +kernel
theorem dL_solved_7 : decode cL_solved 7 = .ok (.i2l, 1) := by decide +kernel
theorem dL_solved_8 : decode cL_solved 8 = .ok (.lastore, 1) := by decide +kernel
theorem dL_solved_9 : decode cL_solved 9 = .ok (.goto 6, 3) := by decide +kernel
theorem dL_solved_12 : decode cL_solved 12 = .ok (.astore_n 3, 1) := by decide +kernel
theorem dL_solved_13 : decode cL_solved 13 = .ok (.iconst 1, 1) := by decide +kernel
theorem dL_solved_14 : decode cL_solved 14 = .ok (.ireturn, 1) := by decide +kernel
theorem dL_solved_15 : decode cL_solved 15 = .ok (.iconst 0, 1) := by decide +kernel
theorem dL_solved_16 : decode cL_solved 16 = .ok (.ireturn, 1) := by decide +kernel
set_option maxRecDepth 20000 in
theorem ggL_would_X4_would : GoodIn wsL_would wsX4_would := goodIn_ca (goodIn_ca (goodIn_ca (goodIn_r _ [8, 9, 10, 11, 12, 13, 14, 15, 7, 16, 17, 18, 19, 20, 21, 22, 23, 24, 25, 26, 27, 28, 29, 30, 31, 32, 33, 34, 35, 36, 37, 38, 39, 40, 41, 42, 43, 44, 45, 46, 47, 48, 49, 50, 51, 52, 53, 54, 55, 56, 57, 58, 59, 60, 61, 62, 63, 64, 65, 66, 67, 68, 69, 70, 71, 72, 73, 74, 75, 76, 77, 78, 79, 80, 81, 82, 83, 84, 85, 86, 87, 88, 89, 90, 91, 92, 93, 94, 95, 96, 97, 98, 99, 100, 101, 102, 103, 104, 105, 106, 107, 108, 109, 110, 111, 112, 113, 114, 115, 116, 117, 118, 119, 120, 121, 122, 123, 124, 125, 126, 127, 128, 129, 130, 131, 132, 133, 134, 135, 136, 137, 138, 139, 140, 141, 142, 143, 144, 145, 146, 147, 148, 149, 150, 151, 152, 153, 154, 155, 156, 157, 158, 159, 160, 161, 162, 163, 164, 165, 166, 167, 168, 169, 170, 171, 172, 173, 174, 175, 176, 177, 178, 179, 180, 181, 182, 183, 184, 185, 186] (by decide +kernel) (by decide +kernel)) (goodIn_sub (fun _ h => List.mem_cons_of_mem _ (List.mem_append_left _ (List.mem_append_left _ (List.mem_append_right _ h)))) (by decide +kernel))) (goodIn_sub (fun _ h => List.mem_cons_of_mem _ (List.mem_append_left _ (List.mem_append_right _ h))) (by decide +kernel))) (goodIn_sub (fun _ h => List.mem_cons_of_mem _ (List.mem_append_right _ h)) (by decide +kernel))
set_option maxRecDepth 20000 in
theorem gL_would_X4_would : GoodIn wsL_would (wsV RL 52 RX4 yX4_would wsX4_would) := goodIn_app (goodIn_of _ (by decide +kernel)) ggL_would_X4_would
theorem dL_would_0 : decode cL_would 0 = .ok (.aload_n 3, 1) := by decide +kernel
theorem dL_would_1 : decode cL_would 1 = .ok (.iconst 0, 1) := by decide +kernel
theorem dL_would_2 : decode cL_would 2 = .ok (.aload_n 0, 1) := by decide +kernel
theorem dL_would_3 : decode cL_would 3 = .ok (.iload_n 1, 1) := by decide +kernel
theorem dL_would_4 : decode cL_would 4 = .ok (.iload_n 2, 1) := by decide +kernel
theorem dL_would_5 : decode cL_would 5 = .ok (.invokevirtual 52, 3) := by decide +kernel
theorem dL_would_8 : decode cL_would 8 = .ok (.i2l, 1) := by decide +kernel
theorem dL_would_9 : decode cL_would 9 = .ok (.lastore, 1) := by decide +kernel
theorem dL_would_10 : decode cL_would 10 = .ok (.goto 15, 3) := by decide +kernel
theorem dL_would_13 : decode cL_would 13 = .ok (.astore 4, 2) := by decide +kernel
theorem dL_would_15 : decode cL_would 15 = .ok (.iconst 1, 1) := by decide +kernel
theorem dL_would_16 : decode cL_would 16 = .ok (.ireturn, 1) := by decide +kernel
theorem dL_would_17 : decode cL_would 17 = .ok (.astore 4, 2) := by decide +kernel
theorem dL_would_19 : decode cL_would 19 = .ok (.iconst 2, 1) := by decide +kernel
theorem dL_would_20 : decode cL_would 20 = .ok (.ireturn, 1) := by decide +kernel
theorem dL_would_21 : decode cL_would 21 = .ok (.astore 4, 2) := by decide +kernel
theorem dL_would_23 : decode cL_would 23 = .ok (.iconst 3, 1) := by decide +kernel
theorem dL_would_24 : decode cL_would 24 = .ok (.ireturn, 1) := by decide +kernel
theorem dL_would_25 : decode cL_would 25 = .ok (.iconst 0, 1) := by decide +kernel
theorem dL_would_26 : decode cL_would 26 = .ok (.ireturn, 1) := by decide +kernel
end
section
/-! My own rows over the kit: the shape of every contract here (Pre), its header (xofR, xofW) and its calls (preV, preS, cR_*, cW_*). -/
abbrev RowI : Type := Nat → Int32
abbrev RowJ : Type := Nat → Int64
abbrev CS : Type := RowI × RowI × RowI × Int32
abbrev JT : Type := Int32 × Int32 × Int32
def nst : List Cond := [.methodLinkNest RX0 32 yX4_write "CryptSums", .methodLinkNest RX0 36 yX4_read "CryptSums", .methodLinkNest RX1 41 yX4_write "CryptSums", .methodLinkNest RX1 58 yX4_read "CryptSums", .methodLinkNest RX3 52 yX4_read "CryptSums", .methodLinkNest RX3 64 yX4_write "CryptSums", .methodLinkNest RX3 78 yX4_hasNumber "CryptSums"]
def NS (U : State) : Prop := ∀ w ∈ nst, va_Nw w U
theorem NS.warm {s U : State} (hW : s.WarmedH U.vm) (h : NS s) : NS U := by
  intro w hw
  have h1 := h w hw
  simp only [nst, List.mem_cons, List.not_mem_nil, or_false] at hw
  rcases hw with rfl | rfl | rfl | rfl | rfl | rfl | rfl <;> exact va_Nw.warmM hW h1
theorem NS.same {s U : State} (hv : s.vm = U.vm) (h : NS s) : NS U := by
  intro w hw
  have h1 := h w hw
  simp only [nst, List.mem_cons, List.not_mem_nil, or_false] at hw
  rcases hw with rfl | rfl | rfl | rfl | rfl | rfl | rfl <;> exact va_Nw.same rfl hv h1
abbrev tysX (cI cJ : ClassId) : List (ClassId × FieldType) := [(cI, .int), (cJ, .long)]
/-- what every contract here begins with: the world ws, all its cells apart, the tables, the nest's words -/
def Pre (D : va_G) (cI cJ : ClassId) (ws : va_W) (sz : Nat) (U : State) : Prop := U.heap.size = sz ∧ va_P D vwCl ws U.heap ∧ va_K D vwCl (tysX cI cJ) U ∧ va_D (fun _ => True) ws ∧ NS U
theorem Pre.blind (D : va_G) (cI cJ : ClassId) (ws : va_W) (sz : Nat) (av : List Value) : FrameBlind (va_Pc av (Pre D cI cJ ws sz)) := by
  rintro a U g mk ⟨h1, h2, h3, h4, h5, h6⟩
  exact ⟨h1, h2, h3, va_K.moved (u := U) (U := U.calling g mk a) (Vm.Alike.refl U.vm) h4, h5, NS.same (s := U) (U := U.calling g mk a) rfl h6⟩
theorem Pre.ent {D : va_G} {cI cJ : ClassId} {ws : va_W} {av : List Value} {s U : State} {H : Heap} {A : Nat → Prop} (hN : NS s) (hK : va_K D vwCl (tysX cI cJ) s) (hP : va_P D vwCl ws H) (hD : va_D A ws) (hU : U.heap = H) (hW : s.WarmedH U.vm) : va_Pc av (Pre D cI cJ ws H.size) av.toArray U :=
  ⟨rfl, by rw [hU], by rw [hU]; exact hP, va_K.moved hW.alike hK, hD.weaken (fun _ _ _ _ => trivial), NS.warm hW hN⟩
theorem preS {D : va_G} {cI cJ : ClassId} {ws : va_W} {s : State} {H : Heap} {A : Nat → Prop} (As : List Value) (hN : NS s) (hK : va_K D vwCl (tysX cI cJ) s) (hP : va_P D vwCl ws H) (hD : va_D A ws) : PreS s H (va_Pc As (Pre D cI cJ ws H.size)) As :=
  ⟨Pre.blind D cI cJ ws H.size As, fun _ hU hW => Pre.ent hN hK hP hD hU hW⟩
theorem preV {D : va_G} {cI cJ : ClassId} {ws : va_W} {s : State} {H : Heap} {A : Nat → Prop} {b q0 ci : Nat} {q : vw_C} {fs : List Value} (As : List Value) (hN : NS s) (hK : va_K D vwCl (tysX cI cJ) s) (hP : va_P D vwCl ws H) (hD : va_D A ws) (hc : vwCl[ci]? = some q) (he : ws[q0]? = some (b, .inr (ci, fs))) : PreV s H q.1 b (va_Pc (.ref b :: As) (Pre D cI cJ ws H.size)) As :=
  ⟨Pre.blind D cI cJ ws H.size (.ref b :: As), va_recv hK hP hc he, fun _ hU hW => Pre.ent hN hK hP hD hU hW⟩
/-- the header of a contract that writes nothing -/
theorem xofR {l : Launch} {y : MethodName} {ws ws' : List Cond} {rm : Room} {av : List Value} {D : va_G} {cI cJ : ClassId} {w : va_W} {sz : Nat} {Qc : Array Value → State → Outcome → State → Prop} {mc ms : Nat} {cc : ByteArray} {maxL : Nat} {ret : Option FieldType} (hw : ws = Cond.code y cc maxL ret :: ws') (hy : plainName y.cls = true) (hlen : Nat.ble (lg_sl av).length maxL = true)
    (body : ∀ (p : Program) (e : Env) (s : State) (m : MethodId) (args : Array Value) (below : List Frame) (meth : Method) (c : Code) (ls : Array Slot) (Q : State → Prop) (A : Nat → Prop), Q = MQ below Qc args s mc ms (fun _ => False) → A = (fun _ => False) → p.tables.exec = Jvm.exec → c.code = cc → meth.sig.returnType = ret → c.maxLocals = maxL → s.vm.findClass y.cls = some m.cls → (∀ w ∈ ws, w.before args s = true) → meth.locks = false → NS s → va_K D vwCl (tysX cI cJ) s → ∀ (H : Heap) (locs : List Loc), va_P D vwCl w H → va_D (fun _ => True) w → va_S A s.heap H locs → lv_has ls maxL (lv_args 0 av) →
      W p l e rm s m args below meth c H locs 0 0 Q (F0 m 0 ls [])) : Met l y ws rm (va_Pc av (Pre D cI cJ w sz)) Qc mc ms (fun _ => False) := by
  refine Met.ofW (cc := cc) (maxL := maxL) (ret := ret) hy hw ?_
  intro p e s m args below meth c s₁ B hml hv
  obtain ⟨rfl, hsz, hP, hK, hD0, hN⟩ := hv
  have hl := lv_entry av (n := maxL) (Nat.le_of_ble_eq_true hlen)
  rw [lg_entry_eq]
  exact body p e s m _ below meth c _ _ _ rfl rfl B.exec B.bytes B.returns hml (findClass_of_methodNamed B.named) (atoms_spec (ws := ws) B.pre) B.notSynchronized hN hK _ _ hP hD0 va_S.rf hl
/-- the header of a contract that may write its world, and make -/
theorem xofW {l : Launch} {y : MethodName} {ws ws' : List Cond} {rm : Room} {av : List Value} {D : va_G} {cI cJ : ClassId} {w : va_W} {sz : Nat} {Qc : Array Value → State → Outcome → State → Prop} {mc ms : Nat} {cc : ByteArray} {maxL : Nat} {ret : Option FieldType} (hw : ws = Cond.code y cc maxL ret :: ws') (hy : plainName y.cls = true) (hlen : Nat.ble (lg_sl av).length maxL = true)
    (body : ∀ (p : Program) (e : Env) (s : State) (m : MethodId) (args : Array Value) (below : List Frame) (meth : Method) (c : Code) (ls : Array Slot) (Q : State → Prop) (A : Nat → Prop), Q = MQ below Qc args s mc ms (va_A w sz) → A = va_A w sz → p.tables.exec = Jvm.exec → c.code = cc → meth.sig.returnType = ret → c.maxLocals = maxL → s.vm.findClass y.cls = some m.cls → (∀ w ∈ ws, w.before args s = true) → meth.locks = false → meth.name = y.name → NS s → va_K D vwCl (tysX cI cJ) s → ∀ (H : Heap) (locs : List Loc), va_P D vwCl w H → va_D A w → va_S A s.heap H locs → (∀ q : Nat, s.heap.size ≤ q → A q) → lv_has ls maxL (lv_args 0 av) →
      W p l e rm s m args below meth c H locs 0 0 Q (F0 m 0 ls [])) : Met l y ws rm (va_Pc av (Pre D cI cJ w sz)) Qc mc ms (va_A w sz) := by
  refine Met.ofW (cc := cc) (maxL := maxL) (ret := ret) hy hw ?_
  intro p e s m args below meth c s₁ B hml hv
  obtain ⟨rfl, hsz, hP, hK, hD0, hN⟩ := hv
  subst hsz
  have hl := lv_entry av (n := maxL) (Nat.le_of_ble_eq_true hlen)
  rw [lg_entry_eq]
  exact body p e s m _ below meth c _ _ _ rfl rfl B.exec B.bytes B.returns hml (findClass_of_methodNamed B.named) (atoms_spec (ws := ws) B.pre) B.notSynchronized (name_of_methodNamed B.named B.method).1 hN hK _ _ hP hD0.self va_S.rf (fun q h => Or.inr h) hl
section XC
variable {p : Program} {l : Launch} {e : Env} {R : Room} {s : State} {m : MethodId} {args : Array Value} {below : List Frame} {meth : Method} {c : Code} {H : Heap} {locs : List Loc} {cells slots mc ms pc : Nat} {Q : State → Prop} {ls : Array Slot} {st0 rest : List Value} {free A : Addr → Prop} {D : va_G} {cl : List vw_C} {ws : va_W} {T : Type}
/-- behind a call that writes nothing -/
theorem cR_i {post : Int32 → T → Prop} {B : T → State → Prop} {aa : Array Value} (hr : va_Run p l e R s m args below meth c H locs cells slots mc ms (F0 m pc ls st0) rest (va_Qi post B (fun _ => False) aa) (fun _ => False)) (hP : va_P D cl ws H) (hS : va_S A s.heap H locs)
    (kk : ∀ (r : Int32) (u : T) (H1 : Heap) (locs1 : List Loc), post r u → va_P D cl ws H1 → va_S A s.heap H1 locs1 → W p l e R s m args below meth c H1 locs1 (cells + mc) (slots + ms) Q (F0 m (pc + 3) ls (.int r :: rest))) : W p l e R s m args below meth c H locs cells slots Q (F0 m pc ls st0) := by
  refine va_calli hr hS (fun _ _ h => h.elim) (fun _ h => h.elim) (fun r u t H1 locs1 ht hvm hw hB hz1 hk1 hS1 => ?_)
  exact kk r u H1 locs1 hw (hP.kept (fun k q hk => hk1 q.1 (hP k q hk).lt (fun h => h))) hS1
theorem cR_l {post : Int64 → T → Prop} {B : T → State → Prop} {aa : Array Value} (hr : va_Run p l e R s m args below meth c H locs cells slots mc ms (F0 m pc ls st0) rest (va_Ql post B (fun _ => False) aa) (fun _ => False)) (hP : va_P D cl ws H) (hS : va_S A s.heap H locs)
    (kk : ∀ (r : Int64) (u : T) (H1 : Heap) (locs1 : List Loc), post r u → va_P D cl ws H1 → va_S A s.heap H1 locs1 → W p l e R s m args below meth c H1 locs1 (cells + mc) (slots + ms) Q (F0 m (pc + 3) ls (.long r :: rest))) : W p l e R s m args below meth c H locs cells slots Q (F0 m pc ls st0) := by
  refine va_calll hr hS (fun _ _ h => h.elim) (fun _ h => h.elim) (fun r u t H1 locs1 ht hvm hw hB hz1 hk1 hS1 => ?_)
  exact kk r u H1 locs1 hw (hP.kept (fun k q hk => hk1 q.1 (hP k q hk).lt (fun h => h))) hS1
/-- what a callee that writes leaves: its new world, apart -/
abbrev aft (D : va_G) (wc : va_W) (sz : Nat) (wn : T → va_W) : T → State → Prop := fun u t => va_P D vwCl (wn u) t.heap ∧ va_D (va_A wc sz) (wn u)
variable {wc wr wz : va_W} {wn : T → va_W}
/-- behind a call that writes its world wc (the places isC of the caller's ws): the new world at the end, in the order 'back' -/
theorem cW_i {post : Int32 → T → Prop} {aa : Array Value} (isC isR : List Nat) (hr : va_Run p l e R s m args below meth c H locs cells slots mc ms (F0 m pc ls st0) rest (va_Qi post (aft D wc H.size wn) (va_A wc H.size) aa) (va_A wc H.size)) (hP : va_P D vwCl ws H) (hD : va_D A ws) (hS : va_S A s.heap H locs) (hA : ∀ q : Nat, s.heap.size ≤ q → A q)
    (hC : isC.map (fun i => ws[i]?) = wc.map some) (hR : isR.map (fun i => ws[i]?) = wr.map some) (hn : va_nd isR = true) (hdis : ∀ i ∈ isR, i ∉ isC)
    (kk : ∀ (r : Int32) (u : T) (H1 : Heap) (locs1 : List Loc), post r u → va_P D vwCl (wr ++ wn u) H1 → va_D A (wr ++ wn u) → va_S A s.heap H1 locs1 → W p l e R s m args below meth c H1 locs1 (cells + mc) (slots + ms) Q (F0 m (pc + 3) ls (.int r :: rest))) : W p l e R s m args below meth c H locs cells slots Q (F0 m pc ls st0) := by
  have hF := va_free (wc := wc) hD hS hA isC hC
  refine va_calli hr hS (fun q _ h => hF q h) hF (fun r u t H1 locs1 ht hvm hw hB hz1 hk1 hS1 => ?_)
  obtain ⟨hP1, hD1⟩ := hB
  rw [ht] at hP1
  obtain ⟨hP, hD⟩ := va_join (wr := wr) (w1 := wn u) hP hD isC isR hC hR hn hdis hk1 hF hP1 hD1
  exact kk r u H1 locs1 hw hP hD hS1
theorem cW_l {post : Int64 → T → Prop} {aa : Array Value} (isC isR : List Nat) (hr : va_Run p l e R s m args below meth c H locs cells slots mc ms (F0 m pc ls st0) rest (va_Ql post (aft D wc H.size wn) (va_A wc H.size) aa) (va_A wc H.size)) (hP : va_P D vwCl ws H) (hD : va_D A ws) (hS : va_S A s.heap H locs) (hA : ∀ q : Nat, s.heap.size ≤ q → A q)
    (hC : isC.map (fun i => ws[i]?) = wc.map some) (hR : isR.map (fun i => ws[i]?) = wr.map some) (hn : va_nd isR = true) (hdis : ∀ i ∈ isR, i ∉ isC)
    (kk : ∀ (r : Int64) (u : T) (H1 : Heap) (locs1 : List Loc), post r u → va_P D vwCl (wr ++ wn u) H1 → va_D A (wr ++ wn u) → va_S A s.heap H1 locs1 → W p l e R s m args below meth c H1 locs1 (cells + mc) (slots + ms) Q (F0 m (pc + 3) ls (.long r :: rest))) : W p l e R s m args below meth c H locs cells slots Q (F0 m pc ls st0) := by
  have hF := va_free (wc := wc) hD hS hA isC hC
  refine va_calll hr hS (fun q _ h => hF q h) hF (fun r u t H1 locs1 ht hvm hw hB hz1 hk1 hS1 => ?_)
  obtain ⟨hP1, hD1⟩ := hB
  rw [ht] at hP1
  obtain ⟨hP, hD⟩ := va_join (wr := wr) (w1 := wn u) hP hD isC isR hC hR hn hdis hk1 hF hP1 hD1
  exact kk r u H1 locs1 hw hP hD hS1
theorem cW_v {post : T → Prop} {aa : Array Value} (isC isR : List Nat) (hr : va_Run p l e R s m args below meth c H locs cells slots mc ms (F0 m pc ls st0) rest (va_Qv post (aft D wc H.size wn) (va_A wc H.size) aa) (va_A wc H.size)) (hP : va_P D vwCl ws H) (hD : va_D A ws) (hS : va_S A s.heap H locs) (hA : ∀ q : Nat, s.heap.size ≤ q → A q)
    (hC : isC.map (fun i => ws[i]?) = wc.map some) (hR : isR.map (fun i => ws[i]?) = wr.map some) (hn : va_nd isR = true) (hdis : ∀ i ∈ isR, i ∉ isC)
    (kk : ∀ (u : T) (H1 : Heap) (locs1 : List Loc), post u → va_P D vwCl (wr ++ wn u) H1 → va_D A (wr ++ wn u) → va_S A s.heap H1 locs1 → W p l e R s m args below meth c H1 locs1 (cells + mc) (slots + ms) Q (F0 m (pc + 3) ls rest)) : W p l e R s m args below meth c H locs cells slots Q (F0 m pc ls st0) := by
  have hF := va_free (wc := wc) hD hS hA isC hC
  refine va_callv hr hS (fun q _ h => hF q h) hF (fun u t H1 locs1 ht hvm hw hB hz1 hk1 hS1 => ?_)
  obtain ⟨hP1, hD1⟩ := hB
  rw [ht] at hP1
  obtain ⟨hP, hD⟩ := va_join (wr := wr) (w1 := wn u) hP hD isC isR hC hR hn hdis hk1 hF hP1 hD1
  exact kk u H1 locs1 hw hP hD hS1
/-- behind a call that answers a cell that is known, and writes nothing -/
theorem cR_r {ra : Nat} {aa : Array Value} (hr : va_Run p l e R s m args below meth c H locs cells slots mc ms (F0 m pc ls st0) rest (va_Qr (fun _ : Unit => True) (fun _ b _ => b = ra) (fun _ => False) aa) (fun _ => False)) (hP : va_P D cl ws H) (hS : va_S A s.heap H locs)
    (kk : ∀ (H1 : Heap) (locs1 : List Loc), va_P D cl ws H1 → va_S A s.heap H1 locs1 → W p l e R s m args below meth c H1 locs1 (cells + mc) (slots + ms) Q (F0 m (pc + 3) ls (.ref ra :: rest))) : W p l e R s m args below meth c H locs cells slots Q (F0 m pc ls st0) := by
  refine va_callr hr hS (fun _ _ h => h.elim) (fun _ h => h.elim) (fun u b t H1 locs1 ht hvm hw hB hz1 hk1 hS1 => ?_)
  rw [hB]
  exact kk H1 locs1 (hP.kept (fun k q hk => hk1 q.1 (hP k q hk).lt (fun h => h))) hS1
end XC
/-! what a mirror's equation gives -/
theorem it_p {α : Type} {c : Prop} {i : Decidable c} {a b : Option α} {o : α} (hc : c) (h : @ite _ c i a b = some o) : a = some o := by rw [if_pos hc] at h; exact h
theorem it_n {α : Type} {c : Prop} {i : Decidable c} {a b : Option α} {o : α} (hc : ¬ c) (h : @ite _ c i a b = some o) : b = some o := by rw [if_neg hc] at h; exact h
theorem it_g {α : Type} {c : Prop} {i : Decidable c} {a : Option α} {o : α} (h : @ite _ c i a none = some o) : c ∧ a = some o := by
  by_cases hc : c
  · rw [if_pos hc] at h; exact ⟨hc, h⟩
  · rw [if_neg hc] at h; cases h
theorem bd_s {α β : Type} {a : Option β} {f : β → Option α} {o : α} (h : a.bind f = some o) : ∃ x, a = some x ∧ f x = some o := by
  cases a with
  | none => cases h
  | some x => exact ⟨x, rfl, h⟩
theorem it_x {α : Type} {c : Prop} {i : Decidable c} {a : Option α} {o : α} (h : @ite _ c i none a = some o) : ¬ c ∧ a = some o := by
  by_cases hc : c
  · rw [if_pos hc] at h; cases h
  · rw [if_neg hc] at h; exact ⟨hc, h⟩
/-! words of the mirrors -/
/-- an index that the machine refuses -/
abbrev bad (i : Int32) (n : Nat) : Prop := i < 0 ∨ n ≤ i.toNatClampNeg
abbrev ushr (x y : Int32) : Int32 := (x.toUInt32 >>> (y.toUInt32 &&& Int32.toUInt32 31)).toInt32
/-- CryptSums.read over a row of 36 -/
def rd (f : RowI) (i : Int32) : Int32 := if i < 0 then 0 else if (36 : Int32) ≤ i then 0 else f i.toNatClampNeg
/-- CryptSums.write over a row of 36 -/
def wr (f : RowI) (i v : Int32) : RowI := if i < 0 then f else if (36 : Int32) ≤ i then f else upd f i.toNatClampNeg v
def bc1 (x : Int32) : Int32 := x - (ushr x 1 &&& (1431655765 : Int32))
def bc2 (x : Int32) : Int32 := (x &&& (858993459 : Int32)) + (ushr x 2 &&& (858993459 : Int32))
def bc3 (x : Int32) : Int32 := (x + ushr x 4) &&& (252645135 : Int32)
def bc4 (x : Int32) : Int32 := x + ushr x 8
def bc5 (x : Int32) : Int32 := x + ushr x 16
/-- Integer.bitCount -/
def bc (x : Int32) : Int32 := bc5 (bc4 (bc3 (bc2 (bc1 x)))) &&& 63
def bz (r : Int32) : Prop := r = 0 ∨ r = 1
theorem nb_z {v : Int32} (h : bz v) : narrow .boolean (.int v) = .int v := by rcases h with rfl | rfl <;> rfl
theorem sw_out {x : Int32} (n : Nat) (h : ∀ k : Nat, k ≤ n → ¬ x = Int32.ofNat k) : x.toInt < 0 ∨ (n : Int) < x.toInt := by
  rcases Int.lt_or_le x.toInt 0 with h0 | h0
  · exact Or.inl h0
  · rcases Int.lt_or_le (n : Int) x.toInt with h1 | h1
    · exact Or.inr h1
    · exfalso
      refine h x.toInt.toNat (by omega) ?_
      apply Int32.toInt_inj.mp
      have h2 : x.toInt < 2147483648 := Int32.toInt_lt x
      rw [show Int32.ofNat x.toInt.toNat = nI x.toInt.toNat from rfl, nI_toInt (by omega)]
      omega
/-! the worlds -/
abbrev zw : va_W := []
abbrev pw (a : Nat → Nat) (cI cJ : ClassId) (su : RowJ) : va_W := [(a 10, .inr (2, [.ref (a 11)])), (a 11, .inl (cJ, 3584, .inr (.inl su)))]
abbrev fw (a : Nat → Nat) (cI cJ : ClassId) (st : RowI) (co ro : Int32) (cA cD : CS) (su : RowJ) (jA jD : JT) : va_W :=
  [(a 0, .inr (1, [.ref (a 1), .ref (a 2), .ref (a 3), .int co, .int ro])), (a 1, .inl (cI, 36, .inl st)),
   (a 2, .inr (0, [.ref (a 1), .ref (a 10), .ref (a 4), .ref (a 5), .ref (a 6), .int cA.2.2.2, .int jA.1, .int jA.2.1, .int jA.2.2])),
   (a 3, .inr (0, [.ref (a 1), .ref (a 10), .ref (a 7), .ref (a 8), .ref (a 9), .int cD.2.2.2, .int jD.1, .int jD.2.1, .int jD.2.2])),
   (a 4, .inl (cI, 36, .inl cA.1)), (a 5, .inl (cI, 36, .inl cA.2.1)), (a 6, .inl (cI, 36, .inl cA.2.2.1)),
   (a 7, .inl (cI, 36, .inl cD.1)), (a 8, .inl (cI, 36, .inl cD.2.1)), (a 9, .inl (cI, 36, .inl cD.2.2.1)),
   (a 10, .inr (2, [.ref (a 11)])), (a 11, .inl (cJ, 3584, .inr (.inl su)))]
abbrev xw (a : Nat → Nat) (cI cJ : ClassId) (ho ke : RowI) (hc tr fo fr : Int32) (st : RowI) (co ro : Int32) (cA cD : CS) (su : RowJ) (jA jD : JT) : va_W :=
  (a 12, .inr (3, [.ref (a 0), .ref (a 13), .ref (a 14), .int hc, .int tr, .int fo, .int fr])) :: (a 13, .inl (cI, 36, .inl ho)) :: (a 14, .inl (cI, 36, .inl ke)) :: (a 15, .inr (4, [.ref (a 0), .ref (a 12)])) :: fw a cI cJ st co ro cA cD su jA jD
abbrev mw (b : Nat → Nat) (cI : ClassId) (th w h : Int32) (ms mu mb me mf : RowI) (mt mv ml : Int32) (mk : RowI) : va_W :=
  [(b 0, .inr (5, [.int th, .int w, .int h, .ref (b 1), .ref (b 2), .ref (b 3), .ref (b 4), .ref (b 5), .int mt, .int mv, .int ml, .ref (b 6)])),
   (b 1, .inl (cI, 36, .inl ms)), (b 2, .inl (cI, 72, .inl mu)), (b 3, .inl (cI, 72, .inl mb)), (b 4, .inl (cI, 512, .inl me)), (b 5, .inl (cI, 461, .inl mf)), (b 6, .inl (cI, 36, .inl mk))]
abbrev ow (a : Nat → Nat) (cI cJ : ClassId) (ou : RowJ) (ho ke : RowI) (hc tr fo fr : Int32) (st : RowI) (co ro : Int32) (cA cD : CS) (su : RowJ) (jA jD : JT) : va_W := (a 16, .inl (cJ, 1, .inr (.inl ou))) :: xw a cI cJ ho ke hc tr fo fr st co ro cA cD su jA jD
end
section
/-! the leaves that all others call: read, write (rows of 36), Integer.bitCount; Floor.corridors, which answers a cell -/
theorem in36 {i : Int32} (h0 : ¬ i < 0) (h1 : ¬ (36 : Int32) ≤ i) : vp_in i 36 := by
  rintro (h | h)
  · exact h0 h
  · apply h1
    have h2 : 0 ≤ i := Int32.not_lt.mp h0
    have h3 : (0 : Int32).toInt ≤ i.toInt := Int32.le_iff_toInt_le.mp h2
    have h3 : (0 : Int) ≤ i.toInt := h3
    have h4 : i.toNatClampNeg = i.toInt.toNat := rfl
    apply Int32.le_iff_toInt_le.mpr
    show (36 : Int) ≤ i.toInt
    omega
abbrev rmX4_read : Room := { frames := 0, cells := 0, slots := 0, locals := 0 }
set_option maxHeartbeats 4000000 in
set_option maxRecDepth 100000 in
theorem kX4_read {l : Launch} {D : va_G} {cI cJ : ClassId} (h0 : Nat) (f : RowI) (i : Int32) (sz : Nat) : Met l yX4_read wsX4_read rmX4_read (va_Pc [.ref h0, .int i] (Pre D cI cJ [(h0, .inl (cI, 36, .inl f))] sz)) (va_Qi (fun (r : Int32) (_ : Unit) => r = rd f i) (fun _ _ => True) (fun _ => False)) 0 0 (fun _ => False) := by
  refine xofR (cc := cX4_read) (maxL := 2) (ret := some .int) rfl (by decide) rfl ?_
  intro p e s m args below meth c ls Q A hQ hAe hx hb hr hml hown hts hlocks hN hK H locs hP hD hS hl
  replace hl : lv_has ls 2 [(0, .ref h0), (1, .int i)] := hl
  subst hQ hAe
  refine lv_iload_n hx hb dX4_read_0 rfl (lv_at hl 1 rfl) ?_
  refine lv_if_lt (tgt := 16) hx hb dX4_read_1 (by decide) (fun hc => ?_) (fun hc => ?_)
  · refine lv_iconst (v := 0) hx hb dX4_read_16 (by decide) ?_
    exact W.iret (v := 0) hx hb hr (fun t ht hW => ⟨⟨0, (), rfl, by rw [rd, if_pos hc], trivial⟩, hS.F ht⟩) hS.2.2 dX4_read_17
  · refine lv_iload_n hx hb dX4_read_4 rfl (lv_at hl 1 rfl) ?_
    refine lv_aload_n hx hb dX4_read_5 rfl (lv_at hl 0 rfl) ?_
    refine va_alen (D := D) (v := 36) hx hb hK hP 0 0 rfl rfl rfl dX4_read_6 ?_
    refine lv_icmp_ge (tgt := 16) hx hb dX4_read_7 (by decide) (fun hd => ?_) (fun hd => ?_)
    · refine lv_iconst (v := 0) hx hb dX4_read_16 (by decide) ?_
      exact W.iret (v := 0) hx hb hr (fun t ht hW => ⟨⟨0, (), rfl, by rw [rd, if_neg hc, if_pos hd], trivial⟩, hS.F ht⟩) hS.2.2 dX4_read_17
    · refine lv_aload_n hx hb dX4_read_10 rfl (lv_at hl 0 rfl) ?_
      refine lv_iload_n hx hb dX4_read_11 rfl (lv_at hl 1 rfl) ?_
      refine va_iald (D := D) hx hb hK hP 0 0 rfl rfl (in36 hc hd) dX4_read_12 ?_
      refine lv_goto (tgt := 17) hx hb dX4_read_13 (by decide) ?_
      exact W.iret (v := f i.toNatClampNeg) hx hb hr (fun t ht hW => ⟨⟨f i.toNatClampNeg, (), rfl, by rw [rd, if_neg hc, if_neg hd], trivial⟩, hS.F ht⟩) hS.2.2 dX4_read_17
abbrev rmX4_write : Room := { frames := 0, cells := 0, slots := 0, locals := 0 }
set_option maxHeartbeats 4000000 in
set_option maxRecDepth 100000 in
theorem kX4_write {l : Launch} {D : va_G} {cI cJ : ClassId} (h0 : Nat) (f : RowI) (i v : Int32) (sz : Nat) : Met l yX4_write wsX4_write rmX4_write (va_Pc [.ref h0, .int i, .int v] (Pre D cI cJ [(h0, .inl (cI, 36, .inl f))] sz)) (va_Qv (fun (_ : Unit) => True) (aft D [(h0, .inl (cI, 36, .inl f))] sz (fun _ => [(h0, .inl (cI, 36, .inl (wr f i v)))])) (va_A [(h0, .inl (cI, 36, .inl f))] sz)) 0 0 (va_A [(h0, .inl (cI, 36, .inl f))] sz) := by
  refine xofW (cc := cX4_write) (maxL := 3) (ret := none) rfl (by decide) rfl ?_
  intro p e s m args below meth c ls Q A hQ hAe hx hb hr hml hown hts hlocks hnm hN hK H locs hP hD hS hA hl
  replace hl : lv_has ls 3 [(0, .ref h0), (1, .int i), (2, .int v)] := hl
  refine lv_iload_n hx hb dX4_write_0 rfl (lv_at hl 1 rfl) ?_
  refine lv_if_lt (tgt := 14) hx hb dX4_write_1 (by decide) (fun hc => ?_) (fun hc => ?_)
  · subst hQ hAe
    have hw : wr f i v = f := by rw [wr, if_pos hc]
    exact W.vret hx hb hr (fun t ht hW => ⟨⟨(), rfl, trivial, ⟨by rw [ht, hw]; exact hP, by rw [hw]; exact hD⟩⟩, hS.F ht⟩) hS.2.2 dX4_write_14
  · refine lv_iload_n hx hb dX4_write_4 rfl (lv_at hl 1 rfl) ?_
    refine lv_aload_n hx hb dX4_write_5 rfl (lv_at hl 0 rfl) ?_
    refine va_alen (D := D) (v := 36) hx hb hK hP 0 0 rfl rfl rfl dX4_write_6 ?_
    refine lv_icmp_ge (tgt := 14) hx hb dX4_write_7 (by decide) (fun hd => ?_) (fun hd => ?_)
    · subst hQ hAe
      have hw : wr f i v = f := by rw [wr, if_neg hc, if_pos hd]
      exact W.vret hx hb hr (fun t ht hW => ⟨⟨(), rfl, trivial, ⟨by rw [ht, hw]; exact hP, by rw [hw]; exact hD⟩⟩, hS.F ht⟩) hS.2.2 dX4_write_14
    · have hw : wr f i v = upd f i.toNatClampNeg v := by rw [wr, if_neg hc, if_neg hd]
      refine lv_aload_n hx hb dX4_write_10 rfl (lv_at hl 0 rfl) ?_
      refine lv_iload_n hx hb dX4_write_11 rfl (lv_at hl 1 rfl) ?_
      refine lv_iload_n hx hb dX4_write_12 rfl (lv_at hl 2 rfl) ?_
      refine va_iast (D := D) hx hb hK hP hD hS 0 0 rfl rfl (in36 hc hd) dX4_write_13 (fun H locs hP hD hS => ?_)
      replace hP : va_P D vwCl [(h0, .inl (cI, 36, .inl (upd f i.toNatClampNeg v)))] H := hP
      replace hD : va_D A [(h0, .inl (cI, 36, .inl (upd f i.toNatClampNeg v)))] := hD
      subst hQ hAe
      exact W.vret hx hb hr (fun t ht hW => ⟨⟨(), rfl, trivial, ⟨by rw [ht, hw]; exact hP, by rw [hw]; exact hD⟩⟩, hS.F ht⟩) hS.2.2 dX4_write_14
abbrev rmJ6_bitCount : Room := { frames := 0, cells := 0, slots := 0, locals := 0 }
set_option maxHeartbeats 4000000 in
set_option maxRecDepth 100000 in
theorem kJ6_bitCount {l : Launch} {D : va_G} {cI cJ : ClassId} (x : Int32) (sz : Nat) : Met l yJ6_bitCount_0f7a4 wsJ6_bitCount_0f7a4 rmJ6_bitCount (va_Pc [.int x] (Pre D cI cJ zw sz)) (va_Qi (fun (r : Int32) (_ : Unit) => r = bc x) (fun _ _ => True) (fun _ => False)) 0 0 (fun _ => False) := by
  refine xofR (cc := cJ6_bitCount_0f7a4) (maxL := 1) (ret := some .int) rfl (by decide) rfl ?_
  intro p e s m args below meth c ls Q A hQ hAe hx hb hr hml hown hts hlocks hN hK H locs hP hD hS hl
  replace hown : s.vm.findClass RJ6 = some m.cls := hown
  replace hl : lv_has ls 1 [(0, .int x)] := hl
  subst hQ hAe
  have w5 := hts (.constant RJ6 265 (1431655765)) (by decide +kernel)
  have w6 := hts (.constant RJ6 266 (858993459)) (by decide +kernel)
  have w7 := hts (.constant RJ6 267 (252645135)) (by decide +kernel)
  refine lv_iload_n hx hb dJ6_bitCount_0f7a4_0 rfl (lv_at hl 0 rfl) ?_
  refine lv_iload_n hx hb dJ6_bitCount_0f7a4_1 rfl (lv_at hl 0 rfl) ?_
  refine lv_iconst (v := 1) hx hb dJ6_bitCount_0f7a4_2 (by decide) ?_
  refine lv_iushr (v := ushr x 1) hx hb dJ6_bitCount_0f7a4_3 rfl ?_
  refine lv_ldcw (v := 1431655765) hx hb hown w5 dJ6_bitCount_0f7a4_4 ?_
  refine lv_iand hx hb dJ6_bitCount_0f7a4_7 ?_
  refine lv_isub hx hb dJ6_bitCount_0f7a4_8 ?_
  refine lv_istore_n (lv' := [(0, .int (bc1 x))]) hx hb dJ6_bitCount_0f7a4_9 rfl hl (by decide) rfl (fun ls hl => ?_)
  generalize hy1 : bc1 x = y1 at hl
  refine lv_iload_n hx hb dJ6_bitCount_0f7a4_10 rfl (lv_at hl 0 rfl) ?_
  refine lv_ldcw (v := 858993459) hx hb hown w6 dJ6_bitCount_0f7a4_11 ?_
  refine lv_iand hx hb dJ6_bitCount_0f7a4_14 ?_
  refine lv_iload_n hx hb dJ6_bitCount_0f7a4_15 rfl (lv_at hl 0 rfl) ?_
  refine lv_iconst (v := 2) hx hb dJ6_bitCount_0f7a4_16 (by decide) ?_
  refine lv_iushr (v := ushr y1 2) hx hb dJ6_bitCount_0f7a4_17 rfl ?_
  refine lv_ldcw (v := 858993459) hx hb hown w6 dJ6_bitCount_0f7a4_18 ?_
  refine lv_iand hx hb dJ6_bitCount_0f7a4_21 ?_
  refine lv_iadd hx hb dJ6_bitCount_0f7a4_22 ?_
  refine lv_istore_n (lv' := [(0, .int (bc2 y1))]) hx hb dJ6_bitCount_0f7a4_23 rfl hl (by decide) rfl (fun ls hl => ?_)
  generalize hy2 : bc2 y1 = y2 at hl
  refine lv_iload_n hx hb dJ6_bitCount_0f7a4_24 rfl (lv_at hl 0 rfl) ?_
  refine lv_iload_n hx hb dJ6_bitCount_0f7a4_25 rfl (lv_at hl 0 rfl) ?_
  refine lv_iconst (v := 4) hx hb dJ6_bitCount_0f7a4_26 (by decide) ?_
  refine lv_iushr (v := ushr y2 4) hx hb dJ6_bitCount_0f7a4_27 rfl ?_
  refine lv_iadd hx hb dJ6_bitCount_0f7a4_28 ?_
  refine lv_ldcw (v := 252645135) hx hb hown w7 dJ6_bitCount_0f7a4_29 ?_
  refine lv_iand hx hb dJ6_bitCount_0f7a4_32 ?_
  refine lv_istore_n (lv' := [(0, .int (bc3 y2))]) hx hb dJ6_bitCount_0f7a4_33 rfl hl (by decide) rfl (fun ls hl => ?_)
  generalize hy3 : bc3 y2 = y3 at hl
  refine lv_iload_n hx hb dJ6_bitCount_0f7a4_34 rfl (lv_at hl 0 rfl) ?_
  refine lv_iload_n hx hb dJ6_bitCount_0f7a4_35 rfl (lv_at hl 0 rfl) ?_
  refine lv_bipush (v := 8) hx hb dJ6_bitCount_0f7a4_36 (by decide) ?_
  refine lv_iushr (v := ushr y3 8) hx hb dJ6_bitCount_0f7a4_38 rfl ?_
  refine lv_iadd hx hb dJ6_bitCount_0f7a4_39 ?_
  refine lv_istore_n (lv' := [(0, .int (bc4 y3))]) hx hb dJ6_bitCount_0f7a4_40 rfl hl (by decide) rfl (fun ls hl => ?_)
  generalize hy4 : bc4 y3 = y4 at hl
  refine lv_iload_n hx hb dJ6_bitCount_0f7a4_41 rfl (lv_at hl 0 rfl) ?_
  refine lv_iload_n hx hb dJ6_bitCount_0f7a4_42 rfl (lv_at hl 0 rfl) ?_
  refine lv_bipush (v := 16) hx hb dJ6_bitCount_0f7a4_43 (by decide) ?_
  refine lv_iushr (v := ushr y4 16) hx hb dJ6_bitCount_0f7a4_45 rfl ?_
  refine lv_iadd hx hb dJ6_bitCount_0f7a4_46 ?_
  refine lv_istore_n (lv' := [(0, .int (bc5 y4))]) hx hb dJ6_bitCount_0f7a4_47 rfl hl (by decide) rfl (fun ls hl => ?_)
  generalize hy5 : bc5 y4 = y5 at hl
  refine lv_iload_n hx hb dJ6_bitCount_0f7a4_48 rfl (lv_at hl 0 rfl) ?_
  refine lv_bipush (v := 63) hx hb dJ6_bitCount_0f7a4_49 (by decide) ?_
  refine lv_iand hx hb dJ6_bitCount_0f7a4_51 ?_
  exact W.iret (v := y5 &&& 63) hx hb hr (fun t ht hW => ⟨⟨y5 &&& 63, (), rfl, by rw [bc, hy1, hy2, hy3, hy4, hy5], trivial⟩, hS.F ht⟩) hS.2.2 dJ6_bitCount_0f7a4_52
end
section
/-! Floor.corridors answers one of the two -/
abbrev rmX1_corridors : Room := { frames := 0, cells := 0, slots := 0, locals := 0 }
set_option maxHeartbeats 4000000 in
set_option maxRecDepth 100000 in
theorem kX1_corridors_A {l : Launch} {D : va_G} {cI cJ : ClassId} (a : Nat → Nat) {st : RowI} {co : Int32} {ro : Int32} {cA : CS} {cD : CS} {su : RowJ} {jA : JT} {jD : JT} {p1 : Int32} (h : p1 = 0) (sz : Nat) : Met l yX1_corridors wsX1_corridors rmX1_corridors (va_Pc [.ref (a 0), .int p1] (Pre D cI cJ (fw a cI cJ st co ro cA cD su jA jD) sz)) (va_Qr (fun _ : Unit => True) (fun _ b _ => b = a 2) (fun _ => False)) 0 0 (fun _ => False) := by
  refine xofR (cc := cX1_corridors) (maxL := 2) (ret := some (.object "CryptSums$Corridors")) rfl (by decide) rfl ?_
  intro p e s m args below meth c ls Q A hQ hAe hx hb hr hml hown hts hlocks hN hK H locs hP hD hS hl
  replace hown : s.vm.findClass RX1 = some m.cls := hown
  replace hl : lv_has ls 2 [(0, .ref (a 0)), (1, .int p1)] := hl
  subst hQ hAe
  refine lv_iload_n hx hb dX1_corridors_0 rfl (lv_at hl 1 rfl) ?_
  refine lv_if_eq (tgt := 11) hx hb dX1_corridors_1 (by decide) (fun hcc => ?_) (fun hcc => absurd h hcc)
  refine lv_aload_n hx hb dX1_corridors_11 rfl (lv_at hl 0 rfl) ?_
  refine va_get (D := D) (ci := 1) (v := .ref (a 2)) (C := RX1) (T := TX1) (N := 5) hx hb hts (by decide +kernel) hown hK hP 0 rfl rfl 1 (by decide) (hts (.fieldLink RX1 23 "CryptSums$Floor" "across" "LCryptSums$Corridors;") (by decide +kernel)) (fun _ h9 => h9) rfl dX1_corridors_12 ?_
  exact W.aret hx hb hr (Or.inl ⟨_, rfl⟩) (Or.inr ⟨_, rfl⟩) (fun t ht hW => ⟨⟨(), a 2, rfl, trivial, rfl⟩, hS.F ht⟩) hS.2.2 dX1_corridors_15
set_option maxHeartbeats 4000000 in
set_option maxRecDepth 100000 in
theorem kX1_corridors_D {l : Launch} {D : va_G} {cI cJ : ClassId} (a : Nat → Nat) {st : RowI} {co : Int32} {ro : Int32} {cA : CS} {cD : CS} {su : RowJ} {jA : JT} {jD : JT} {p1 : Int32} (h : ¬ p1 = 0) (sz : Nat) : Met l yX1_corridors wsX1_corridors rmX1_corridors (va_Pc [.ref (a 0), .int p1] (Pre D cI cJ (fw a cI cJ st co ro cA cD su jA jD) sz)) (va_Qr (fun _ : Unit => True) (fun _ b _ => b = a 3) (fun _ => False)) 0 0 (fun _ => False) := by
  refine xofR (cc := cX1_corridors) (maxL := 2) (ret := some (.object "CryptSums$Corridors")) rfl (by decide) rfl ?_
  intro p e s m args below meth c ls Q A hQ hAe hx hb hr hml hown hts hlocks hN hK H locs hP hD hS hl
  replace hown : s.vm.findClass RX1 = some m.cls := hown
  replace hl : lv_has ls 2 [(0, .ref (a 0)), (1, .int p1)] := hl
  subst hQ hAe
  refine lv_iload_n hx hb dX1_corridors_0 rfl (lv_at hl 1 rfl) ?_
  refine lv_if_eq (tgt := 11) hx hb dX1_corridors_1 (by decide) (fun hcc => absurd hcc h) (fun hcc => ?_)
  refine lv_aload_n hx hb dX1_corridors_4 rfl (lv_at hl 0 rfl) ?_
  refine va_get (D := D) (ci := 1) (v := .ref (a 3)) (C := RX1) (T := TX1) (N := 5) hx hb hts (by decide +kernel) hown hK hP 0 rfl rfl 2 (by decide) (hts (.fieldLink RX1 27 "CryptSums$Floor" "down" "LCryptSums$Corridors;") (by decide +kernel)) (fun _ h9 => h9) rfl dX1_corridors_5 ?_
  refine lv_goto (tgt := 15) hx hb dX1_corridors_8 (by decide) ?_
  exact W.aret hx hb hr (Or.inl ⟨_, rfl⟩) (Or.inr ⟨_, rfl⟩) (fun t ht hW => ⟨⟨(), a 3, rfl, trivial, rfl⟩, hS.F ht⟩) hS.2.2 dX1_corridors_15
/-- words for arraycopy's room -/
theorem cp_ok {n : Nat} (h : nativeFrameWords "java/lang/System" "arraycopy" 5 + 11 ≤ n) : 0 + (nativeFrameWords "java/lang/System" "arraycopy" 5 + 11) ≤ n := by omega
theorem nfw : nativeFrameWords "java/lang/System" "arraycopy" 5 ≤ 50 := by decide +kernel
end
section
/-! throwing: what a contract that may throw begins with, its header, its throws, its calls, and the headers of the law's wrappers that catch -/
abbrev xIA : String := "java/lang/IllegalArgumentException"
abbrev xIO : String := "java/lang/IndexOutOfBoundsException"
abbrev xIS : String := "java/lang/IllegalStateException"
abbrev xNm : List String := ["java/lang/RuntimeException", "java/lang/Exception"]
def xst : List Cond := [.castable xIA xIA, .castable xIO xIO, .castable xIS xIS, .declares (Bundle.initS "java/lang/RuntimeException"), .declares (Bundle.initS "java/lang/Exception"), .declares (Bundle.initS Bundle.tN)]
def xsr : List (Nat × String) := [(27, "a side is not 2 to 6"), (54, "the sum is not 0 to 45"), (66, "the number is not 0 to 9"), (89, "nothing of a corridor has this number"), (95, "no count has this number"), (122, "the number is not 1 to 9"), (149, "no such cell"), (153, "the cell is a pillar"), (156, "there are not 1 to 9 cells"), (158, "the sum is not 1 to 45")]
/-- an exception's class that another handler doesn't take -/
def NC (U : State) : Prop := va_Nc xIA xIO U ∧ va_Nc xIS xIO U ∧ va_Nc xIS xIA U
theorem NC.moved {u U : State} (hvm : u.vm.Alike U.vm) (h : NC u) : NC U := ⟨va_Nc.moved hvm h.1, va_Nc.moved hvm h.2.1, va_Nc.moved hvm h.2.2⟩
def XS (U : State) : Prop := (∀ w ∈ xst, va_Nw w U) ∧ (∀ q ∈ xsr, ∃ sa, vk_R RX4 q.1 q.2 sa U) ∧ NC U
theorem XS.warm {s U : State} (hW : s.WarmedH U.vm) (h : XS s) : XS U := by
  refine ⟨fun w hw => ?_, fun q hq => ?_, h.2.2.moved hW.alike⟩
  · have h1 := h.1 w hw
    simp only [xst, List.mem_cons, List.not_mem_nil, or_false] at hw
    rcases hw with rfl | rfl | rfl | rfl | rfl | rfl <;> first | exact va_Nw.warmC hW h1 | exact va_Nw.warmD hW h1
  · obtain ⟨sa, h2⟩ := h.2.1 q hq
    exact ⟨sa, vk_R.warm hW h2⟩
theorem XS.same {s U : State} (hv : s.vm = U.vm) (h : XS s) : XS U := by
  refine ⟨fun w hw => ?_, fun q hq => ?_, h.2.2.moved (by rw [hv]; exact Vm.Alike.refl U.vm)⟩
  · have h1 := h.1 w hw
    simp only [xst, List.mem_cons, List.not_mem_nil, or_false] at hw
    rcases hw with rfl | rfl | rfl | rfl | rfl | rfl <;> exact va_Nw.same rfl hv h1
  · obtain ⟨sa, h2⟩ := h.2.1 q hq
    exact ⟨sa, vk_R.same hv.symm h2⟩
/-- what a throw reads: two statics of Throwable, and words of the tables -/
def TX (A : Nat → Prop) (U : State) (H : Heap) : Prop := vx_Zq Bundle.tN "UNASSIGNED_STACK" Bundle.steD A U H ∧ vx_Zq Bundle.tN "SUPPRESSED_SENTINEL" Bundle.listD A U H ∧ XS U
theorem TX.go {A B : Nat → Prop} {s U : State} {H : Heap} {locs : List Loc} (h : TX A s s.heap) (hS : va_S A s.heap H locs) (hF : ∀ q, B q → A q) (hU : U.heap = H) (hW : s.WarmedH U.vm) : TX B U U.heap := by
  rw [hU]
  exact ⟨vx_Zq.moved hW.alike ((h.1.kept hS.2.1).narrow hF), vx_Zq.moved hW.alike ((h.2.1.kept hS.2.1).narrow hF), h.2.2.warm hW⟩
theorem TX.same {A : Nat → Prop} {s U : State} {H : Heap} (hv : s.vm = U.vm) (h : TX A s H) : TX A U H :=
  ⟨vx_Zq.moved (by rw [hv]; exact Vm.Alike.refl U.vm) h.1, vx_Zq.moved (by rw [hv]; exact Vm.Alike.refl U.vm) h.2.1, h.2.2.same hv⟩
def PreT (D : va_G) (cI cJ : ClassId) (ws : va_W) (sz : Nat) (U : State) : Prop := Pre D cI cJ ws sz U ∧ TX (va_A ws sz) U U.heap
theorem PreT.blind (D : va_G) (cI cJ : ClassId) (ws : va_W) (sz : Nat) (av : List Value) : FrameBlind (va_Pc av (PreT D cI cJ ws sz)) := by
  rintro a U g mk ⟨h1, h2, h3⟩
  exact ⟨h1, ((Pre.blind D cI cJ ws sz av) a U g mk ⟨h1, h2⟩).2, TX.same (s := U) (U := U.calling g mk a) rfl h3⟩
section TP
variable {D : va_G} {cI cJ : ClassId} {wc : va_W} {s : State} {H : Heap} {locs : List Loc} {A : Nat → Prop}
theorem preST (As : List Value) (hT : TX A s s.heap) (hS : va_S A s.heap H locs) (hF : ∀ q, va_A wc H.size q → A q) (hN : NS s) (hK : va_K D vwCl (tysX cI cJ) s) (hP : va_P D vwCl wc H) (hD : va_D A wc) : PreS s H (va_Pc As (PreT D cI cJ wc H.size)) As :=
  ⟨PreT.blind D cI cJ wc H.size As, fun _ hU hW => ⟨rfl, (Pre.ent (av := As) hN hK hP hD hU hW).2, hT.go hS hF hU hW⟩⟩
theorem preVT {b q0 ci : Nat} {q : vw_C} {fs : List Value} (As : List Value) (hT : TX A s s.heap) (hS : va_S A s.heap H locs) (hF : ∀ q, va_A wc H.size q → A q) (hN : NS s) (hK : va_K D vwCl (tysX cI cJ) s) (hP : va_P D vwCl wc H) (hD : va_D A wc) (hc : vwCl[ci]? = some q) (he : wc[q0]? = some (b, .inr (ci, fs))) : PreV s H q.1 b (va_Pc (.ref b :: As) (PreT D cI cJ wc H.size)) As :=
  ⟨PreT.blind D cI cJ wc H.size (.ref b :: As), va_recv hK hP hc he, fun _ hU hW => ⟨rfl, (Pre.ent (av := .ref b :: As) hN hK hP hD hU hW).2, hT.go hS hF hU hW⟩⟩
end TP
/-- what is left where a method has thrown: its world as it was -/
abbrev aftX (D : va_G) (px : String → Prop) (w : va_W) (sz : Nat) : String → State → State → Prop := vx_X (fun _ : Unit => True) (fun E _ t => px E ∧ va_P D vwCl w t.heap ∧ va_D (va_A w sz) w) (va_A w sz)
/-- the header of a contract that may throw -/
theorem xofT {l : Launch} {y : MethodName} {ws ws' : List Cond} {rm : Room} {av : List Value} {D : va_G} {cI cJ : ClassId} {w : va_W} {sz : Nat} {Qc : Array Value → State → Outcome → State → Prop} {XC : String → State → State → Prop} {mc ms : Nat} {cc : ByteArray} {maxL : Nat} {ret : Option FieldType} (hw : ws = Cond.code y cc maxL ret :: ws') (hy : plainName y.cls = true) (hlen : Nat.ble (lg_sl av).length maxL = true)
    (body : ∀ (p : Program) (e : Env) (s : State) (m : MethodId) (args : Array Value) (below : List Frame) (meth : Method) (c : Code) (ls : Array Slot) (Q : State → Prop) (A : Nat → Prop), Q = vx_MQ below Qc XC args s mc ms (va_A w sz) → A = va_A w sz → p.tables.exec = Jvm.exec → c.code = cc → meth.sig.returnType = ret → c.maxLocals = maxL → s.vm.findClass y.cls = some m.cls → (∀ w ∈ ws, w.before args s = true) → meth.locks = false → (∀ x ∈ c.exceptionTable.toList, False) → TX A s s.heap → NS s → va_K D vwCl (tysX cI cJ) s → ∀ (H : Heap) (locs : List Loc), va_P D vwCl w H → va_D A w → va_S A s.heap H locs → (∀ q : Nat, s.heap.size ≤ q → A q) → lv_has ls maxL (lv_args 0 av) →
      W p l e rm s m args below meth c H locs 0 0 Q (F0 m 0 ls [])) : vx_Met l y ws rm (va_Pc av (PreT D cI cJ w sz)) Qc XC mc ms (va_A w sz) := by
  refine vx_ofW (cc := cc) (maxL := maxL) (ret := ret) hy hw ?_
  intro p e s m args below meth c s₁ B hml hout hv
  obtain ⟨rfl, ⟨hsz, hP, hK, hD0, hN⟩, hTX⟩ := hv
  subst hsz
  have hl := lv_entry av (n := maxL) (Nat.le_of_ble_eq_true hlen)
  rw [lg_entry_eq]
  exact body p e s m _ below meth c _ _ _ rfl rfl B.exec B.bytes B.returns hml (findClass_of_methodNamed B.named) (atoms_spec (ws := ws) B.pre) B.notSynchronized hout hTX hN hK _ _ hP hD0.self va_S.rf (fun q h => Or.inr h) hl
/-- a method with a table of its own that throws nothing -/
theorem Met.ofWH {l : Launch} {y : MethodName} {ws ws' : List Cond} {rm : Room} {Pc : Array Value → State → Prop} {Qc : Array Value → State → Outcome → State → Prop} {mc ms : Nat} {free : Addr → Prop} {cc : ByteArray} {maxL : Nat} {ret : Option FieldType} {hh : List (Nat × Nat × Nat × Nat)}
    (hy : plainName y.cls = true) (hw : ws = Cond.codeWith y cc maxL ret hh :: ws')
    (body : ∀ p e s m args below meth c s₁, BodyLoose p l y (headSpec ws rm) cc maxL ret e s m args below meth c s₁ → c.maxLocals = maxL → Pc args s →
      W p l e (headSpec ws rm).room s m args below meth c s.heap [] 0 0 (MQ below Qc args s mc ms free) (entryFrame m args maxL)) : Met l y ws rm Pc Qc mc ms free := by
  refine MetFree.of_bodyS (code := cc) (maxLocals := maxL) (ret := ret) hy ?_ ?_
  · intro args s m h hn
    obtain ⟨m9, meth, c, hn9, h1, h2, h3, h4, -, h5, h6, -⟩ := Cond.codeWith_spec (atoms_spec (ws := ws) h _ (by rw [hw]; exact List.mem_cons_self))
    cases hn.symm.trans hn9
    exact ⟨meth, c, h1, h2, h3, h4, h5, h6⟩
  · intro p e s m args below meth c s₁ B hml hP _
    have hh0 : s₁.heap = s.heap := by rw [B.state]; rfl
    obtain ⟨t, a1, o, b1, b2, b3⟩ := body p e s m args below meth c s₁ B hml hP s₁ hh0 (Stand.of_body B)
    exact ⟨t, o, a1, b1, b2, ⟨b3.1, b3.2⟩⟩
/-- the header of a method that catches all -/
theorem xofH {l : Launch} {y : MethodName} {ws ws' : List Cond} {rm : Room} {av : List Value} {D : va_G} {cI cJ : ClassId} {w : va_W} {sz : Nat} {Qc : Array Value → State → Outcome → State → Prop} {mc ms : Nat} {cc : ByteArray} {maxL : Nat} {ret : Option FieldType} {hh : List (Nat × Nat × Nat × Nat)} (hw : ws = Cond.codeWith y cc maxL ret hh :: ws') (hy : plainName y.cls = true) (hlen : Nat.ble (lg_sl av).length maxL = true)
    (body : ∀ (p : Program) (e : Env) (s : State) (m : MethodId) (args : Array Value) (below : List Frame) (meth : Method) (c : Code) (ls : Array Slot) (Q : State → Prop) (A : Nat → Prop), Q = MQ below Qc args s mc ms (va_A w sz) → A = va_A w sz → p.tables.exec = Jvm.exec → c.code = cc → meth.sig.returnType = ret → c.maxLocals = maxL → s.vm.findClass y.cls = some m.cls → (∀ w ∈ ws, w.before args s = true) → meth.locks = false → c.exceptionTable.toList = tableOf hh → TX A s s.heap → NS s → va_K D vwCl (tysX cI cJ) s → ∀ (H : Heap) (locs : List Loc), va_P D vwCl w H → va_D A w → va_S A s.heap H locs → (∀ q : Nat, s.heap.size ≤ q → A q) → lv_has ls maxL (lv_args 0 av) →
      W p l e rm s m args below meth c H locs 0 0 Q (F0 m 0 ls [])) : Met l y ws rm (va_Pc av (PreT D cI cJ w sz)) Qc mc ms (va_A w sz) := by
  refine Met.ofWH (cc := cc) (maxL := maxL) (ret := ret) hy hw ?_
  intro p e s m args below meth c s₁ B hml hv
  have htab := vx_table (x := y) B (atoms_spec (ws := ws) B.pre _ (by rw [hw]; exact List.mem_cons_self))
  obtain ⟨rfl, ⟨hsz, hP, hK, hD0, hN⟩, hTX⟩ := hv
  subst hsz
  have hl := lv_entry av (n := maxL) (Nat.le_of_ble_eq_true hlen)
  rw [lg_entry_eq]
  exact body p e s m _ below meth c _ _ _ rfl rfl B.exec B.bytes B.returns hml (findClass_of_methodNamed B.named) (atoms_spec (ws := ws) B.pre) B.notSynchronized htab hTX hN hK _ _ hP hD0.self va_S.rf (fun q h => Or.inr h) hl
section XT
variable {p : Program} {l : Launch} {e : Env} {R : Room} {s : State} {m : MethodId} {args : Array Value} {below : List Frame} {meth : Method} {c : Code} {H : Heap} {locs : List Loc} {cells slots mc ms pc : Nat} {Q : State → Prop} {ls : Array Slot} {st0 rest : List Value} {A : Addr → Prop} {D : va_G} {ws wc wr : va_W} {T : Type} {wn : T → va_W}
/-- behind a call that may throw: thrown, the world is as it was -/
theorem cT_i {post : Int32 → T → Prop} {px : String → Prop} {aa : Array Value} (isC isR back : List Nat) (hr : vx_Run p l e R s m args below meth c H locs cells slots mc ms (F0 m pc ls st0) rest (va_Qi post (aft D wc H.size wn) (va_A wc H.size) aa) (aftX D px wc H.size) (va_A wc H.size)) (hP : va_P D vwCl ws H) (hD : va_D A ws) (hS : va_S A s.heap H locs) (hA : ∀ q : Nat, s.heap.size ≤ q → A q)
    (hC : isC.map (fun i => ws[i]?) = wc.map some) (hR : isR.map (fun i => ws[i]?) = wr.map some) (hn : va_nd isR = true) (hdis : ∀ i ∈ isR, i ∉ isC) (hbk : back.filterMap (fun i => (wr ++ wc)[i]?) = ws) (hnb : va_nd back = true) (hbk2 : back.map (fun i => (wr ++ wc)[i]?) = ws.map some)
    (kx : ∀ (E : String) (ce : Cell) (q9 : Addr) (H1 : Heap) (locs1 : List Loc), px E → va_P D vwCl ws H1 → va_D A ws → va_S A s.heap H1 locs1 → H1[q9]? = some ce → ce.vm = .none → s.vm.findClass E = some ce.cls → vx_W p l e R s m args below meth c H1 locs1 (cells + mc) (slots + ms) Q (F0 m pc ls rest) q9)
    (kk : ∀ (r : Int32) (u : T) (H1 : Heap) (locs1 : List Loc), post r u → va_P D vwCl (wr ++ wn u) H1 → va_D A (wr ++ wn u) → va_S A s.heap H1 locs1 → W p l e R s m args below meth c H1 locs1 (cells + mc) (slots + ms) Q (F0 m (pc + 3) ls (.int r :: rest))) : W p l e R s m args below meth c H locs cells slots Q (F0 m pc ls st0) := by
  have hF := va_free (wc := wc) hD hS hA isC hC
  refine vx_calli hr hS (fun q _ h => hF q h) hF (fun q _ h => hF q h) (fun E ce q9 u t H1 locs1 ht hvm hp hB hz1 hk1 hS1 h1 h2 h3 => ?_) (fun r u t H1 locs1 ht hvm hw hB hz1 hk1 hS1 => ?_)
  · obtain ⟨hE, hP1, hD1⟩ := hB
    rw [ht] at hP1
    obtain ⟨hP2, hD2⟩ := va_join (wr := wr) (w1 := wc) hP hD isC isR hC hR hn hdis hk1 hF hP1 hD1
    exact kx E ce q9 H1 locs1 hE (hP2.sub back hbk) hD hS1 h1 h2 h3
  · obtain ⟨hP1, hD1⟩ := hB
    rw [ht] at hP1
    obtain ⟨hP, hD⟩ := va_join (wr := wr) (w1 := wn u) hP hD isC isR hC hR hn hdis hk1 hF hP1 hD1
    exact kk r u H1 locs1 hw hP hD hS1
theorem cT_v {post : T → Prop} {px : String → Prop} {aa : Array Value} (isC isR back : List Nat) (hr : vx_Run p l e R s m args below meth c H locs cells slots mc ms (F0 m pc ls st0) rest (va_Qv post (aft D wc H.size wn) (va_A wc H.size) aa) (aftX D px wc H.size) (va_A wc H.size)) (hP : va_P D vwCl ws H) (hD : va_D A ws) (hS : va_S A s.heap H locs) (hA : ∀ q : Nat, s.heap.size ≤ q → A q)
    (hC : isC.map (fun i => ws[i]?) = wc.map some) (hR : isR.map (fun i => ws[i]?) = wr.map some) (hn : va_nd isR = true) (hdis : ∀ i ∈ isR, i ∉ isC) (hbk : back.filterMap (fun i => (wr ++ wc)[i]?) = ws) (hnb : va_nd back = true) (hbk2 : back.map (fun i => (wr ++ wc)[i]?) = ws.map some)
    (kx : ∀ (E : String) (ce : Cell) (q9 : Addr) (H1 : Heap) (locs1 : List Loc), px E → va_P D vwCl ws H1 → va_D A ws → va_S A s.heap H1 locs1 → H1[q9]? = some ce → ce.vm = .none → s.vm.findClass E = some ce.cls → vx_W p l e R s m args below meth c H1 locs1 (cells + mc) (slots + ms) Q (F0 m pc ls rest) q9)
    (kk : ∀ (u : T) (H1 : Heap) (locs1 : List Loc), post u → va_P D vwCl (wr ++ wn u) H1 → va_D A (wr ++ wn u) → va_S A s.heap H1 locs1 → W p l e R s m args below meth c H1 locs1 (cells + mc) (slots + ms) Q (F0 m (pc + 3) ls rest)) : W p l e R s m args below meth c H locs cells slots Q (F0 m pc ls st0) := by
  have hF := va_free (wc := wc) hD hS hA isC hC
  refine vx_callv hr hS (fun q _ h => hF q h) hF (fun q _ h => hF q h) (fun E ce q9 u t H1 locs1 ht hvm hp hB hz1 hk1 hS1 h1 h2 h3 => ?_) (fun u t H1 locs1 ht hvm hw hB hz1 hk1 hS1 => ?_)
  · obtain ⟨hE, hP1, hD1⟩ := hB
    rw [ht] at hP1
    obtain ⟨hP2, hD2⟩ := va_join (wr := wr) (w1 := wc) hP hD isC isR hC hR hn hdis hk1 hF hP1 hD1
    exact kx E ce q9 H1 locs1 hE (hP2.sub back hbk) hD hS1 h1 h2 h3
  · obtain ⟨hP1, hD1⟩ := hB
    rw [ht] at hP1
    obtain ⟨hP, hD⟩ := va_join (wr := wr) (w1 := wn u) hP hD isC isR hC hR hn hdis hk1 hF hP1 hD1
    exact kk u H1 locs1 hw hP hD hS1
/-- on to the caller -/
theorem thr_on {Qc : Array Value → State → Outcome → State → Prop} {px : String → Prop} {sz k n : Nat} {E : String} {ce : Cell} {q9 : Addr} (hQ : Q = vx_MQ below Qc (aftX D px ws sz) args s k n (va_A ws sz)) (hAe : A = va_A ws sz) (hout : ∀ x ∈ c.exceptionTable.toList, False) (hlocks : meth.locks = false) (hE : px E) (hP : va_P D vwCl ws H) (hD : va_D A ws) (hS : va_S A s.heap H locs) (h1 : H[q9]? = some ce) (h2 : ce.vm = .none) (h3 : s.vm.findClass E = some ce.cls) (hk : cells ≤ k) (hn : slots ≤ n) : vx_W p l e R s m args below meth c H locs cells slots Q (F0 m pc ls rest) q9 := by
  subst hQ hAe
  exact vx_out (fun x hx => (hout x hx).elim) hlocks h1 h2 h3 (fun t ht hvm => ⟨(), trivial, ⟨hE, by rw [ht]; exact hP, hD⟩, hS.F ht⟩) hS.2.2 hk hn
/-- 'throw new E("text")' -/
theorem thr {cc : ByteArray} {Qc : Array Value → State → Outcome → State → Prop} {px : String → Prop} {sz k n : Nat} (hx : p.tables.exec = Jvm.exec) (hb : c.code = cc) (hl : l.stackTraces = false) {cls text : String} {ik is ic : Nat} {Ts : List Cond} (hQ : Q = vx_MQ below Qc (aftX D px ws sz) args s k n (va_A ws sz)) (hAe : A = va_A ws sz) (hml : c.maxLocals = ls.size) (hown : s.vm.findClass RX4 = some m.cls) (hts : ∀ w ∈ Ts, w.before args s = true) (hlocks : meth.locks = false) (hout : ∀ x ∈ c.exceptionTable.toList, False) (hTX : TX A s s.heap) (hP : va_P D vwCl ws H) (hD : va_D A ws) (hS : va_S A s.heap H locs)
    (hcls : Bundle.fit cls = true) (hk : Cond.classLink RX4 ik cls ∈ Ts) (hini : Cond.initialized cls ∈ Ts) (hgw : ∀ w ∈ (vx_atS RX4 ic cls xNm).filter goodWord, w ∈ Ts) (hbw : ∀ w ∈ (vx_atS RX4 ic cls xNm).filter (fun w => !goodWord w), w ∈ xst) (hot : ∀ w ∈ Cond.classLink RX4 ik cls :: Cond.initialized cls :: vx_atS RX4 ic cls xNm, vx_ot w = true) (hstr : (is, text) ∈ xsr)
    (d0 : decode cc pc = .ok (.new ik, 3)) (d3 : decode cc (pc + 3) = .ok (.dup, 1)) (d4 : decode cc (pc + 4) = .ok (.ldc is, 2)) (d6 : decode cc (pc + 6) = .ok (.invokespecial ic, 3)) (d9 : decode cc (pc + 9) = .ok (.athrow, 1)) (hE : px cls)
    (hRf : 5 < R.frames) (hRl : (rest.map fun v => v.category).sum + 82 ≤ R.locals) (hRc : cells + 1 ≤ R.cells) (hRs : slots + 6 ≤ R.slots) (hc : cells + 1 ≤ k) (hs : slots + 6 ≤ n) :
    W p l e R s m args below meth c H locs cells slots Q (F0 m pc ls rest) := by
  obtain ⟨sa, hsa⟩ := hTX.2.2.2.1 _ hstr
  subst hQ hAe
  refine vx_throwS (names := xNm) hx hb hl hown hcls (by decide +kernel) (hts _ hk) (hts _ hini) hsa (vx_hat (fun w hw => hts w (hgw w hw)) hbw (fun w hw => va_Nw.use ?_ (hTX.2.2.1 w hw))) hot hTX.1 hTX.2.1 hS hml.symm d0 d3 d4 d6 d9 (fun x hx => (hout x hx).elim) hRf hRl hRc hRs hlocks (fun t hvm hz hq => ?_) hS.2.2 hc hs
  · simp only [xst, List.mem_cons, List.not_mem_nil, or_false] at hw
    rcases hw with rfl | rfl | rfl | rfl | rfl | rfl <;> rfl
  · refine ⟨(), trivial, ⟨hE, hP.kept (fun k q hk => hq q.1 (hP k q hk).lt), hD⟩, Nat.le_trans hS.1 hz, fun q h1 h2 => ?_⟩
    rw [hq q (Nat.lt_of_lt_of_le h1 hS.1)]
    exact hS.2.1 q h1 h2
end XT
/-- the exception of a mirror's number -/
def en (k : Nat) : String := if k = 1 then xIO else if k = 2 then xIA else xIS
theorem se_l {α β γ : Type} {f : α → Option γ} {g : β → Option γ} {k : α} {o : γ} (h : Sum.elim f g (.inl k) = some o) : f k = some o := h
theorem se_r {α β γ : Type} {f : α → Option γ} {g : β → Option γ} {k : β} {o : γ} (h : Sum.elim f g (.inr k) = some o) : g k = some o := h
/-- caught -/
theorem catch1 {p : Program} {l : Launch} {e : Env} {R : Room} {s : State} {m : MethodId} {args : Array Value} {below : List Frame} {meth : Method} {c : Code} {H : Heap} {locs : List Loc} {cells slots pc : Nat} {Q : State → Prop} {ls : Array Slot} {rest : List Value} {A : Nat → Prop} {Ts : List Cond} {cls : String} {ce : Cell} {q9 : Addr} (pre : List (Nat × Nat × Nat × Nat)) (x : Nat × Nat × Nat × Nat) (suf : List (Nat × Nat × Nat × Nat)) (hown : s.vm.findClass RL = some m.cls) (htab : c.exceptionTable.toList = tableOf (pre ++ x :: suf)) (hts : ∀ w ∈ Ts, w.before args s = true) (hTX : TX A s s.heap)
    (hpass : ∀ z ∈ pre, z.2.2.2 ≠ 0 ∧ ∃ nm : String, Cond.classLink RL z.2.2.2 nm ∈ Ts ∧ va_Nc cls nm s) (hx : covers (⟨x.1, x.2.1, x.2.2.1, x.2.2.2⟩ : ExceptionTableEntry) pc = true) (h0 : x.2.2.2 ≠ 0) (hlink : Cond.classLink RL x.2.2.2 cls ∈ Ts) (hcast : Cond.castable cls cls ∈ xst) (h1 : H[q9]? = some ce) (h2 : ce.vm = .none) (h3 : s.vm.findClass cls = some ce.cls)
    (kk : W p l e R s m args below meth c H locs cells slots Q (F0 m x.2.2.1 ls [.ref q9])) : vx_W p l e R s m args below meth c H locs cells slots Q (F0 m pc ls rest) q9 := by
  refine vx_catch (name := cls) hown (tableOf pre) ⟨x.1, x.2.1, x.2.2.1, x.2.2.2⟩ (tableOf suf) (by rw [htab]; simp [tableOf]) (fun z hz => ?_) hx h0 (hts _ hlink) (va_Nw.use rfl (hTX.2.2.1 _ hcast)) h1 h2 h3 kk
  simp only [tableOf, List.mem_map] at hz
  obtain ⟨y, hy, rfl⟩ := hz
  obtain ⟨g1, nm, g2, g3⟩ := hpass y hy
  exact Or.inr ⟨g1, nm, hts _ g2, g3⟩
end
section
/-! methods that may draw (doubles) -/
theorem al_rfl (x : UInt64) : alike64 x x = true := by first | exact alike64_refl x | simp [alike64]
theorem xofD {l : Launch} {y : MethodName} {ws ws' : List Cond} {rm : Room} {av : List Value} {D : va_G} {cI cJ : ClassId} {w : va_W} {sz : Nat} {Qc : Array Value → State → Outcome → State → Prop} {mc ms : Nat} {cc : ByteArray} {maxL : Nat} {ret : Option FieldType} (hw : ws = Cond.code y cc maxL ret :: ws') (hy : plainName y.cls = true) (hlen : Nat.ble (lg_sl av).length maxL = true)
    (body : ∀ (p : Program) (e : Env) (s : State) (m : MethodId) (args : Array Value) (below : List Frame) (meth : Method) (c : Code) (ls : Array Slot) (Q : State → Prop) (A : Nat → Prop), Q = MQD lw_cs below Qc args s mc ms (va_A w sz) → A = va_A w sz → p.tables.exec = Jvm.exec → c.code = cc → meth.sig.returnType = ret → c.maxLocals = maxL → s.vm.findClass y.cls = some m.cls → (∀ w ∈ ws, w.before args s = true) → meth.locks = false → NS s → va_K D vwCl (tysX cI cJ) s → ∀ (H : Heap) (locs : List Loc), va_P D vwCl w H → va_D A w → va_S A s.heap H locs → (∀ q : Nat, s.heap.size ≤ q → A q) → lv_has ls maxL (lv_args 0 av) →
      W p l e rm s m args below meth c H locs 0 0 Q (F0 m 0 ls [])) : MetD lw_cs l y ws rm (va_Pc av (Pre D cI cJ w sz)) Qc mc ms (va_A w sz) := by
  refine MetD.ofW (cc := cc) (maxL := maxL) (ret := ret) hy hw ?_
  intro p e s m args below meth c s₁ B hml hv hd0
  obtain ⟨rfl, hsz, hP, hK, hD0, hN⟩ := hv
  subst hsz
  have hl := lv_entry av (n := maxL) (Nat.le_of_ble_eq_true hlen)
  rw [lg_entry_eq]
  exact body p e s m _ below meth c _ _ _ rfl rfl B.exec B.bytes B.returns hml (findClass_of_methodNamed B.named) (atoms_spec (ws := ws) B.pre) B.notSynchronized hN hK _ _ hP hD0.self va_S.rf (fun q h => Or.inr h) hl
section XD
variable {p : Program} {l : Launch} {e : Env} {R : Room} {s : State} {m : MethodId} {args : Array Value} {below : List Frame} {meth : Method} {c : Code} {H : Heap} {locs : List Loc} {cells slots mc ms pc : Nat} {Q : State → Prop} {ls : Array Slot} {st0 rest : List Value} {A : Addr → Prop} {D : va_G} {ws wc wr : va_W} {T : Type} {wn : T → va_W}
theorem cD_d {d0 : Drawn} (hd0 : s.drawn.sameBut d0 lw_cs) {post : UInt64 → T → Prop} {aa : Array Value} (isC isR : List Nat) (hr : va_RunD lw_cs p l e R (s.setDrawn d0) m args below meth c H locs cells slots mc ms (F0 m pc ls st0) rest (va_Qd post (aft D wc H.size wn) (va_A wc H.size) aa) (va_A wc H.size)) (hP : va_P D vwCl ws H) (hD : va_D A ws) (hS : va_S A s.heap H locs) (hA : ∀ q : Nat, s.heap.size ≤ q → A q)
    (hC : isC.map (fun i => ws[i]?) = wc.map some) (hR : isR.map (fun i => ws[i]?) = wr.map some) (hn : va_nd isR = true) (hdis : ∀ i ∈ isR, i ∉ isC)
    (kk : ∀ (r : UInt64) (u : T) (H1 : Heap) (locs1 : List Loc), post r u → va_P D vwCl (wr ++ wn u) H1 → va_D A (wr ++ wn u) → va_S A s.heap H1 locs1 → ∀ d' : Drawn, s.drawn.sameBut d' lw_cs → W p l e R (s.setDrawn d') m args below meth c H1 locs1 (cells + mc) (slots + ms) Q (F0 m (pc + 3) ls (.double r :: rest))) : W p l e R (s.setDrawn d0) m args below meth c H locs cells slots Q (F0 m pc ls st0) := by
  have hF := va_free (wc := wc) hD hS hA isC hC
  refine va_calldD hd0 hr hS (fun q _ h => hF q h) hF (fun r u t H1 locs1 ht hvm hw hB hz1 hk1 hS1 d' hd' => ?_)
  obtain ⟨hP1, hD1⟩ := hB
  rw [ht] at hP1
  obtain ⟨hP, hD⟩ := va_join (wr := wr) (w1 := wn u) hP hD isC isR hC hR hn hdis hk1 hF hP1 hD1
  exact kk r u H1 locs1 hw hP hD hS1 d' hd'
end XD
end
