section
-- ===== PART A: goes FIRST, ahead of the names: the tables' words, and 'selects' of the private methods out of them =====
/-- a private method of a class that the tables say can be made, by its rows of tables_1 -/
def lw_okq (q : MethodName × Nat) : Prop := (q.1.cls ≠ "java/lang/invoke/MethodHandle" ∧ q.1.cls ≠ "java/lang/invoke/VarHandle") ∧ Cond.instantiable q.1.cls q.2 ∈ tables_1 ∧ Cond.privateMethod q.1 ∈ tables_1 ∧ Cond.instanceMethod q.1 ∈ tables_1
theorem lw_p0 : lw_okq (⟨"FishReaders", "found", "(I)I"⟩, 10) := ⟨⟨by decide +kernel, by decide +kernel⟩, List.mem_of_getElem? (i := 13) (by decide +kernel), List.mem_of_getElem? (i := 259) (by decide +kernel), List.mem_of_getElem? (i := 260) (by decide +kernel)⟩
theorem lw_p1 : lw_okq (⟨"FishReaders", "foundNothing", "(I)I"⟩, 10) := ⟨⟨by decide +kernel, by decide +kernel⟩, List.mem_of_getElem? (i := 13) (by decide +kernel), List.mem_of_getElem? (i := 269) (by decide +kernel), List.mem_of_getElem? (i := 270) (by decide +kernel)⟩
theorem lw_p2 : lw_okq (⟨"FishReaders$Tape", "readLaw", "(LFishReaders$Library;)V"⟩, 5) := ⟨⟨by decide +kernel, by decide +kernel⟩, List.mem_of_getElem? (i := 44) (by decide +kernel), List.mem_of_getElem? (i := 339) (by decide +kernel), List.mem_of_getElem? (i := 340) (by decide +kernel)⟩
theorem lw_p3 : lw_okq (⟨"FishReaders$Tape", "pass", "(I)V"⟩, 5) := ⟨⟨by decide +kernel, by decide +kernel⟩, List.mem_of_getElem? (i := 44) (by decide +kernel), List.mem_of_getElem? (i := 343) (by decide +kernel), List.mem_of_getElem? (i := 344) (by decide +kernel)⟩
theorem lw_p4 : lw_okq (⟨"FishReaders$Tape", "next", "()I"⟩, 5) := ⟨⟨by decide +kernel, by decide +kernel⟩, List.mem_of_getElem? (i := 44) (by decide +kernel), List.mem_of_getElem? (i := 347) (by decide +kernel), List.mem_of_getElem? (i := 348) (by decide +kernel)⟩
theorem lw_p5 : lw_okq (⟨"FishReaders$Tape", "isFine", "()Z"⟩, 5) := ⟨⟨by decide +kernel, by decide +kernel⟩, List.mem_of_getElem? (i := 44) (by decide +kernel), List.mem_of_getElem? (i := 351) (by decide +kernel), List.mem_of_getElem? (i := 352) (by decide +kernel)⟩
theorem lw_p6 : lw_okq (⟨"FishReaders$Tape", "fail", "(I)V"⟩, 5) := ⟨⟨by decide +kernel, by decide +kernel⟩, List.mem_of_getElem? (i := 44) (by decide +kernel), List.mem_of_getElem? (i := 355) (by decide +kernel), List.mem_of_getElem? (i := 356) (by decide +kernel)⟩
theorem lw_p7 : lw_okq (⟨"FishReaders$Tape", "number", "(II)I"⟩, 5) := ⟨⟨by decide +kernel, by decide +kernel⟩, List.mem_of_getElem? (i := 44) (by decide +kernel), List.mem_of_getElem? (i := 359) (by decide +kernel), List.mem_of_getElem? (i := 360) (by decide +kernel)⟩
theorem lw_p8 : lw_okq (⟨"FishReaders$Tape", "readBooks", "(LFishReaders$Library;)V"⟩, 5) := ⟨⟨by decide +kernel, by decide +kernel⟩, List.mem_of_getElem? (i := 44) (by decide +kernel), List.mem_of_getElem? (i := 366) (by decide +kernel), List.mem_of_getElem? (i := 367) (by decide +kernel)⟩
theorem lw_p9 : lw_okq (⟨"FishReaders$Tape", "readFish", "(LFishReaders$Library;)V"⟩, 5) := ⟨⟨by decide +kernel, by decide +kernel⟩, List.mem_of_getElem? (i := 44) (by decide +kernel), List.mem_of_getElem? (i := 374) (by decide +kernel), List.mem_of_getElem? (i := 375) (by decide +kernel)⟩
theorem lw_p10 : lw_okq (⟨"FishReaders$Acts", "slotAt", "(I)LFishReaders$Library;"⟩, 3) := ⟨⟨by decide +kernel, by decide +kernel⟩, List.mem_of_getElem? (i := 153) (by decide +kernel), List.mem_of_getElem? (i := 408) (by decide +kernel), List.mem_of_getElem? (i := 409) (by decide +kernel)⟩
theorem lw_p11 : lw_okq (⟨"FishReaders$Library", "nextPlace", "(I)I"⟩, 16) := ⟨⟨by decide +kernel, by decide +kernel⟩, List.mem_of_getElem? (i := 69) (by decide +kernel), List.mem_of_getElem? (i := 436) (by decide +kernel), List.mem_of_getElem? (i := 437) (by decide +kernel)⟩
theorem lw_p12 : lw_okq (⟨"FishReaders$Library", "upFrom", "(II)I"⟩, 16) := ⟨⟨by decide +kernel, by decide +kernel⟩, List.mem_of_getElem? (i := 69) (by decide +kernel), List.mem_of_getElem? (i := 449) (by decide +kernel), List.mem_of_getElem? (i := 450) (by decide +kernel)⟩
theorem lw_p13 : lw_okq (⟨"FishReaders$Library", "isClosed", "(I)Z"⟩, 16) := ⟨⟨by decide +kernel, by decide +kernel⟩, List.mem_of_getElem? (i := 69) (by decide +kernel), List.mem_of_getElem? (i := 453) (by decide +kernel), List.mem_of_getElem? (i := 454) (by decide +kernel)⟩
theorem lw_p14 : lw_okq (⟨"FishReaders$Library", "eat", "(I)V"⟩, 16) := ⟨⟨by decide +kernel, by decide +kernel⟩, List.mem_of_getElem? (i := 69) (by decide +kernel), List.mem_of_getElem? (i := 467) (by decide +kernel), List.mem_of_getElem? (i := 468) (by decide +kernel)⟩
theorem lw_p15 : lw_okq (⟨"FishReaders$Library", "dampen", "()V"⟩, 16) := ⟨⟨by decide +kernel, by decide +kernel⟩, List.mem_of_getElem? (i := 69) (by decide +kernel), List.mem_of_getElem? (i := 472) (by decide +kernel), List.mem_of_getElem? (i := 473) (by decide +kernel)⟩
def lw_privs_1 : List (MethodName × Nat) := [(⟨"FishReaders", "found", "(I)I"⟩, 10), (⟨"FishReaders", "foundNothing", "(I)I"⟩, 10), (⟨"FishReaders$Tape", "readLaw", "(LFishReaders$Library;)V"⟩, 5), (⟨"FishReaders$Tape", "pass", "(I)V"⟩, 5), (⟨"FishReaders$Tape", "next", "()I"⟩, 5), (⟨"FishReaders$Tape", "isFine", "()Z"⟩, 5), (⟨"FishReaders$Tape", "fail", "(I)V"⟩, 5), (⟨"FishReaders$Tape", "number", "(II)I"⟩, 5), (⟨"FishReaders$Tape", "readBooks", "(LFishReaders$Library;)V"⟩, 5), (⟨"FishReaders$Tape", "readFish", "(LFishReaders$Library;)V"⟩, 5), (⟨"FishReaders$Acts", "slotAt", "(I)LFishReaders$Library;"⟩, 3), (⟨"FishReaders$Library", "nextPlace", "(I)I"⟩, 16), (⟨"FishReaders$Library", "upFrom", "(II)I"⟩, 16), (⟨"FishReaders$Library", "isClosed", "(I)Z"⟩, 16), (⟨"FishReaders$Library", "eat", "(I)V"⟩, 16), (⟨"FishReaders$Library", "dampen", "()V"⟩, 16)]
theorem lw_r1 : ∀ q ∈ lw_privs_1, lw_okq q := List.forall_mem_cons.mpr ⟨lw_p0, List.forall_mem_cons.mpr ⟨lw_p1, List.forall_mem_cons.mpr ⟨lw_p2, List.forall_mem_cons.mpr ⟨lw_p3, List.forall_mem_cons.mpr ⟨lw_p4, List.forall_mem_cons.mpr ⟨lw_p5, List.forall_mem_cons.mpr ⟨lw_p6, List.forall_mem_cons.mpr ⟨lw_p7, List.forall_mem_cons.mpr ⟨lw_p8, List.forall_mem_cons.mpr ⟨lw_p9, List.forall_mem_cons.mpr ⟨lw_p10, List.forall_mem_cons.mpr ⟨lw_p11, List.forall_mem_cons.mpr ⟨lw_p12, List.forall_mem_cons.mpr ⟨lw_p13, List.forall_mem_cons.mpr ⟨lw_p14, List.forall_mem_cons.mpr ⟨lw_p15, fun _ h => absurd h List.not_mem_nil⟩⟩⟩⟩⟩⟩⟩⟩⟩⟩⟩⟩⟩⟩⟩⟩
theorem lw_p16 : lw_okq (⟨"FishReaders$Foretold", "nextOrder", "(I)Z"⟩, 3) := ⟨⟨by decide +kernel, by decide +kernel⟩, List.mem_of_getElem? (i := 173) (by decide +kernel), List.mem_of_getElem? (i := 608) (by decide +kernel), List.mem_of_getElem? (i := 609) (by decide +kernel)⟩
theorem lw_p17 : lw_okq (⟨"FishReaders$Foretold", "swap", "(II)V"⟩, 3) := ⟨⟨by decide +kernel, by decide +kernel⟩, List.mem_of_getElem? (i := 173) (by decide +kernel), List.mem_of_getElem? (i := 612) (by decide +kernel), List.mem_of_getElem? (i := 613) (by decide +kernel)⟩
theorem lw_p18 : lw_okq (⟨"FishReaders$Foretold", "fits", "(ILFishReaders$Rows;)Z"⟩, 3) := ⟨⟨by decide +kernel, by decide +kernel⟩, List.mem_of_getElem? (i := 173) (by decide +kernel), List.mem_of_getElem? (i := 664) (by decide +kernel), List.mem_of_getElem? (i := 665) (by decide +kernel)⟩
theorem lw_p19 : lw_okq (⟨"FishReaders$Foretold", "drawLamp", "(J)V"⟩, 3) := ⟨⟨by decide +kernel, by decide +kernel⟩, List.mem_of_getElem? (i := 173) (by decide +kernel), List.mem_of_getElem? (i := 724) (by decide +kernel), List.mem_of_getElem? (i := 725) (by decide +kernel)⟩
theorem lw_p20 : lw_okq (⟨"FishReaders$Bodies", "sizeOfWanderer", "()I"⟩, 6) := ⟨⟨by decide +kernel, by decide +kernel⟩, List.mem_of_getElem? (i := 192) (by decide +kernel), List.mem_of_getElem? (i := 764) (by decide +kernel), List.mem_of_getElem? (i := 765) (by decide +kernel)⟩
theorem lw_p21 : lw_okq (⟨"FishReaders$Bodies", "leave", "(I)V"⟩, 6) := ⟨⟨by decide +kernel, by decide +kernel⟩, List.mem_of_getElem? (i := 192) (by decide +kernel), List.mem_of_getElem? (i := 768) (by decide +kernel), List.mem_of_getElem? (i := 769) (by decide +kernel)⟩
theorem lw_p22 : lw_okq (⟨"FishReaders$Bodies", "sizeOfReader", "()I"⟩, 6) := ⟨⟨by decide +kernel, by decide +kernel⟩, List.mem_of_getElem? (i := 192) (by decide +kernel), List.mem_of_getElem? (i := 772) (by decide +kernel), List.mem_of_getElem? (i := 773) (by decide +kernel)⟩
theorem lw_p23 : lw_okq (⟨"FishReaders$Bodies", "markOfReader", "()I"⟩, 6) := ⟨⟨by decide +kernel, by decide +kernel⟩, List.mem_of_getElem? (i := 192) (by decide +kernel), List.mem_of_getElem? (i := 776) (by decide +kernel), List.mem_of_getElem? (i := 777) (by decide +kernel)⟩
theorem lw_p24 : lw_okq (⟨"FishReaders$Bodies", "markOfWanderer", "()I"⟩, 6) := ⟨⟨by decide +kernel, by decide +kernel⟩, List.mem_of_getElem? (i := 192) (by decide +kernel), List.mem_of_getElem? (i := 784) (by decide +kernel), List.mem_of_getElem? (i := 785) (by decide +kernel)⟩
theorem lw_p25 : lw_okq (⟨"FishReadersModel", "find", "(I)I"⟩, 26) := ⟨⟨by decide +kernel, by decide +kernel⟩, List.mem_of_getElem? (i := 810) (by decide +kernel), List.mem_of_getElem? (i := 909) (by decide +kernel), List.mem_of_getElem? (i := 910) (by decide +kernel)⟩
theorem lw_p26 : lw_okq (⟨"FishReadersModel", "well", "(I)I"⟩, 26) := ⟨⟨by decide +kernel, by decide +kernel⟩, List.mem_of_getElem? (i := 810) (by decide +kernel), List.mem_of_getElem? (i := 914) (by decide +kernel), List.mem_of_getElem? (i := 915) (by decide +kernel)⟩
theorem lw_p27 : lw_okq (⟨"FishReadersModel", "readLibrary", "()Z"⟩, 26) := ⟨⟨by decide +kernel, by decide +kernel⟩, List.mem_of_getElem? (i := 810) (by decide +kernel), List.mem_of_getElem? (i := 943) (by decide +kernel), List.mem_of_getElem? (i := 944) (by decide +kernel)⟩
theorem lw_p28 : lw_okq (⟨"FishReadersModel", "nextToken", "()V"⟩, 26) := ⟨⟨by decide +kernel, by decide +kernel⟩, List.mem_of_getElem? (i := 810) (by decide +kernel), List.mem_of_getElem? (i := 947) (by decide +kernel), List.mem_of_getElem? (i := 948) (by decide +kernel)⟩
theorem lw_p29 : lw_okq (⟨"FishReadersModel", "takes", "(I)Z"⟩, 26) := ⟨⟨by decide +kernel, by decide +kernel⟩, List.mem_of_getElem? (i := 810) (by decide +kernel), List.mem_of_getElem? (i := 955) (by decide +kernel), List.mem_of_getElem? (i := 956) (by decide +kernel)⟩
theorem lw_p30 : lw_okq (⟨"FishReadersModel", "isLetter", "(I)Z"⟩, 26) := ⟨⟨by decide +kernel, by decide +kernel⟩, List.mem_of_getElem? (i := 810) (by decide +kernel), List.mem_of_getElem? (i := 959) (by decide +kernel), List.mem_of_getElem? (i := 960) (by decide +kernel)⟩
theorem lw_p31 : lw_okq (⟨"FishReadersModel", "faults", "(I)Z"⟩, 26) := ⟨⟨by decide +kernel, by decide +kernel⟩, List.mem_of_getElem? (i := 810) (by decide +kernel), List.mem_of_getElem? (i := 963) (by decide +kernel), List.mem_of_getElem? (i := 964) (by decide +kernel)⟩
def lw_privs_2 : List (MethodName × Nat) := [(⟨"FishReaders$Foretold", "nextOrder", "(I)Z"⟩, 3), (⟨"FishReaders$Foretold", "swap", "(II)V"⟩, 3), (⟨"FishReaders$Foretold", "fits", "(ILFishReaders$Rows;)Z"⟩, 3), (⟨"FishReaders$Foretold", "drawLamp", "(J)V"⟩, 3), (⟨"FishReaders$Bodies", "sizeOfWanderer", "()I"⟩, 6), (⟨"FishReaders$Bodies", "leave", "(I)V"⟩, 6), (⟨"FishReaders$Bodies", "sizeOfReader", "()I"⟩, 6), (⟨"FishReaders$Bodies", "markOfReader", "()I"⟩, 6), (⟨"FishReaders$Bodies", "markOfWanderer", "()I"⟩, 6), (⟨"FishReadersModel", "find", "(I)I"⟩, 26), (⟨"FishReadersModel", "well", "(I)I"⟩, 26), (⟨"FishReadersModel", "readLibrary", "()Z"⟩, 26), (⟨"FishReadersModel", "nextToken", "()V"⟩, 26), (⟨"FishReadersModel", "takes", "(I)Z"⟩, 26), (⟨"FishReadersModel", "isLetter", "(I)Z"⟩, 26), (⟨"FishReadersModel", "faults", "(I)Z"⟩, 26)]
theorem lw_r2 : ∀ q ∈ lw_privs_2, lw_okq q := List.forall_mem_cons.mpr ⟨lw_p16, List.forall_mem_cons.mpr ⟨lw_p17, List.forall_mem_cons.mpr ⟨lw_p18, List.forall_mem_cons.mpr ⟨lw_p19, List.forall_mem_cons.mpr ⟨lw_p20, List.forall_mem_cons.mpr ⟨lw_p21, List.forall_mem_cons.mpr ⟨lw_p22, List.forall_mem_cons.mpr ⟨lw_p23, List.forall_mem_cons.mpr ⟨lw_p24, List.forall_mem_cons.mpr ⟨lw_p25, List.forall_mem_cons.mpr ⟨lw_p26, List.forall_mem_cons.mpr ⟨lw_p27, List.forall_mem_cons.mpr ⟨lw_p28, List.forall_mem_cons.mpr ⟨lw_p29, List.forall_mem_cons.mpr ⟨lw_p30, List.forall_mem_cons.mpr ⟨lw_p31, fun _ h => absurd h List.not_mem_nil⟩⟩⟩⟩⟩⟩⟩⟩⟩⟩⟩⟩⟩⟩⟩⟩
theorem lw_p32 : lw_okq (⟨"FishReadersModel", "takesNumber", "(IIII)Z"⟩, 26) := ⟨⟨by decide +kernel, by decide +kernel⟩, List.mem_of_getElem? (i := 810) (by decide +kernel), List.mem_of_getElem? (i := 967) (by decide +kernel), List.mem_of_getElem? (i := 968) (by decide +kernel)⟩
theorem lw_p33 : lw_okq (⟨"FishReadersModel", "readFish", "(I)Z"⟩, 26) := ⟨⟨by decide +kernel, by decide +kernel⟩, List.mem_of_getElem? (i := 810) (by decide +kernel), List.mem_of_getElem? (i := 974) (by decide +kernel), List.mem_of_getElem? (i := 975) (by decide +kernel)⟩
theorem lw_p34 : lw_okq (⟨"FishReadersModel", "readBook", "()Z"⟩, 26) := ⟨⟨by decide +kernel, by decide +kernel⟩, List.mem_of_getElem? (i := 810) (by decide +kernel), List.mem_of_getElem? (i := 978) (by decide +kernel), List.mem_of_getElem? (i := 979) (by decide +kernel)⟩
theorem lw_p35 : lw_okq (⟨"FishReadersModel", "note", "()V"⟩, 26) := ⟨⟨by decide +kernel, by decide +kernel⟩, List.mem_of_getElem? (i := 810) (by decide +kernel), List.mem_of_getElem? (i := 997) (by decide +kernel), List.mem_of_getElem? (i := 998) (by decide +kernel)⟩
theorem lw_p36 : lw_okq (⟨"FishReadersModel", "oneNight", "()V"⟩, 26) := ⟨⟨by decide +kernel, by decide +kernel⟩, List.mem_of_getElem? (i := 810) (by decide +kernel), List.mem_of_getElem? (i := 1001) (by decide +kernel), List.mem_of_getElem? (i := 1002) (by decide +kernel)⟩
theorem lw_p37 : lw_okq (⟨"FishReadersModel", "isCaught", "(I)Z"⟩, 26) := ⟨⟨by decide +kernel, by decide +kernel⟩, List.mem_of_getElem? (i := 810) (by decide +kernel), List.mem_of_getElem? (i := 1005) (by decide +kernel), List.mem_of_getElem? (i := 1006) (by decide +kernel)⟩
theorem lw_p38 : lw_okq (⟨"FishReadersModel", "goesTo", "(I)I"⟩, 26) := ⟨⟨by decide +kernel, by decide +kernel⟩, List.mem_of_getElem? (i := 810) (by decide +kernel), List.mem_of_getElem? (i := 1012) (by decide +kernel), List.mem_of_getElem? (i := 1013) (by decide +kernel)⟩
theorem lw_p39 : lw_okq (⟨"FishReadersModel", "bookAt", "(I)I"⟩, 26) := ⟨⟨by decide +kernel, by decide +kernel⟩, List.mem_of_getElem? (i := 810) (by decide +kernel), List.mem_of_getElem? (i := 1016) (by decide +kernel), List.mem_of_getElem? (i := 1017) (by decide +kernel)⟩
theorem lw_p40 : lw_okq (⟨"FishReadersModel", "likedBy", "(I)I"⟩, 26) := ⟨⟨by decide +kernel, by decide +kernel⟩, List.mem_of_getElem? (i := 810) (by decide +kernel), List.mem_of_getElem? (i := 1020) (by decide +kernel), List.mem_of_getElem? (i := 1021) (by decide +kernel)⟩
theorem lw_p41 : lw_okq (⟨"FishReadersModel", "likes", "(II)I"⟩, 26) := ⟨⟨by decide +kernel, by decide +kernel⟩, List.mem_of_getElem? (i := 810) (by decide +kernel), List.mem_of_getElem? (i := 1025) (by decide +kernel), List.mem_of_getElem? (i := 1026) (by decide +kernel)⟩
theorem lw_p42 : lw_okq (⟨"FishReadersModel", "isShut", "(I)Z"⟩, 26) := ⟨⟨by decide +kernel, by decide +kernel⟩, List.mem_of_getElem? (i := 810) (by decide +kernel), List.mem_of_getElem? (i := 1029) (by decide +kernel), List.mem_of_getElem? (i := 1030) (by decide +kernel)⟩
theorem lw_p43 : lw_okq (⟨"FishReadersModel", "eats", "(I)V"⟩, 26) := ⟨⟨by decide +kernel, by decide +kernel⟩, List.mem_of_getElem? (i := 810) (by decide +kernel), List.mem_of_getElem? (i := 1033) (by decide +kernel), List.mem_of_getElem? (i := 1034) (by decide +kernel)⟩
theorem lw_p44 : lw_okq (⟨"FishReadersModel", "allPages", "()I"⟩, 26) := ⟨⟨by decide +kernel, by decide +kernel⟩, List.mem_of_getElem? (i := 810) (by decide +kernel), List.mem_of_getElem? (i := 1037) (by decide +kernel), List.mem_of_getElem? (i := 1038) (by decide +kernel)⟩
theorem lw_p45 : lw_okq (⟨"FishReadersModel", "isBook", "(I)Z"⟩, 26) := ⟨⟨by decide +kernel, by decide +kernel⟩, List.mem_of_getElem? (i := 810) (by decide +kernel), List.mem_of_getElem? (i := 1045) (by decide +kernel), List.mem_of_getElem? (i := 1046) (by decide +kernel)⟩
theorem lw_p46 : lw_okq (⟨"FishReadersModel", "isFish", "(I)Z"⟩, 26) := ⟨⟨by decide +kernel, by decide +kernel⟩, List.mem_of_getElem? (i := 810) (by decide +kernel), List.mem_of_getElem? (i := 1064) (by decide +kernel), List.mem_of_getElem? (i := 1065) (by decide +kernel)⟩
theorem lw_p47 : lw_okq (⟨"FishReadersModel", "fishAt", "(I)I"⟩, 26) := ⟨⟨by decide +kernel, by decide +kernel⟩, List.mem_of_getElem? (i := 810) (by decide +kernel), List.mem_of_getElem? (i := 1076) (by decide +kernel), List.mem_of_getElem? (i := 1077) (by decide +kernel)⟩
def lw_privs_3 : List (MethodName × Nat) := [(⟨"FishReadersModel", "takesNumber", "(IIII)Z"⟩, 26), (⟨"FishReadersModel", "readFish", "(I)Z"⟩, 26), (⟨"FishReadersModel", "readBook", "()Z"⟩, 26), (⟨"FishReadersModel", "note", "()V"⟩, 26), (⟨"FishReadersModel", "oneNight", "()V"⟩, 26), (⟨"FishReadersModel", "isCaught", "(I)Z"⟩, 26), (⟨"FishReadersModel", "goesTo", "(I)I"⟩, 26), (⟨"FishReadersModel", "bookAt", "(I)I"⟩, 26), (⟨"FishReadersModel", "likedBy", "(I)I"⟩, 26), (⟨"FishReadersModel", "likes", "(II)I"⟩, 26), (⟨"FishReadersModel", "isShut", "(I)Z"⟩, 26), (⟨"FishReadersModel", "eats", "(I)V"⟩, 26), (⟨"FishReadersModel", "allPages", "()I"⟩, 26), (⟨"FishReadersModel", "isBook", "(I)Z"⟩, 26), (⟨"FishReadersModel", "isFish", "(I)Z"⟩, 26), (⟨"FishReadersModel", "fishAt", "(I)I"⟩, 26)]
theorem lw_r3 : ∀ q ∈ lw_privs_3, lw_okq q := List.forall_mem_cons.mpr ⟨lw_p32, List.forall_mem_cons.mpr ⟨lw_p33, List.forall_mem_cons.mpr ⟨lw_p34, List.forall_mem_cons.mpr ⟨lw_p35, List.forall_mem_cons.mpr ⟨lw_p36, List.forall_mem_cons.mpr ⟨lw_p37, List.forall_mem_cons.mpr ⟨lw_p38, List.forall_mem_cons.mpr ⟨lw_p39, List.forall_mem_cons.mpr ⟨lw_p40, List.forall_mem_cons.mpr ⟨lw_p41, List.forall_mem_cons.mpr ⟨lw_p42, List.forall_mem_cons.mpr ⟨lw_p43, List.forall_mem_cons.mpr ⟨lw_p44, List.forall_mem_cons.mpr ⟨lw_p45, List.forall_mem_cons.mpr ⟨lw_p46, List.forall_mem_cons.mpr ⟨lw_p47, fun _ h => absurd h List.not_mem_nil⟩⟩⟩⟩⟩⟩⟩⟩⟩⟩⟩⟩⟩⟩⟩⟩
theorem lw_p48 : lw_okq (⟨"FishReadersModel", "putAside", "()V"⟩, 26) := ⟨⟨by decide +kernel, by decide +kernel⟩, List.mem_of_getElem? (i := 810) (by decide +kernel), List.mem_of_getElem? (i := 1097) (by decide +kernel), List.mem_of_getElem? (i := 1098) (by decide +kernel)⟩
theorem lw_p49 : lw_okq (⟨"FishReadersModel", "goOn", "(I)V"⟩, 26) := ⟨⟨by decide +kernel, by decide +kernel⟩, List.mem_of_getElem? (i := 810) (by decide +kernel), List.mem_of_getElem? (i := 1101) (by decide +kernel), List.mem_of_getElem? (i := 1102) (by decide +kernel)⟩
theorem lw_p50 : lw_okq (⟨"FishReadersModel", "takeBack", "()V"⟩, 26) := ⟨⟨by decide +kernel, by decide +kernel⟩, List.mem_of_getElem? (i := 810) (by decide +kernel), List.mem_of_getElem? (i := 1105) (by decide +kernel), List.mem_of_getElem? (i := 1106) (by decide +kernel)⟩
theorem lw_p51 : lw_okq (⟨"FishReadersModel", "emptySet", "()I"⟩, 26) := ⟨⟨by decide +kernel, by decide +kernel⟩, List.mem_of_getElem? (i := 810) (by decide +kernel), List.mem_of_getElem? (i := 1121) (by decide +kernel), List.mem_of_getElem? (i := 1122) (by decide +kernel)⟩
theorem lw_p52 : lw_okq (⟨"FishReadersModel", "pagesOf", "(I)I"⟩, 26) := ⟨⟨by decide +kernel, by decide +kernel⟩, List.mem_of_getElem? (i := 810) (by decide +kernel), List.mem_of_getElem? (i := 1138) (by decide +kernel), List.mem_of_getElem? (i := 1139) (by decide +kernel)⟩
theorem lw_p53 : lw_okq (⟨"FishReadersModel", "isNext", "(I)Z"⟩, 26) := ⟨⟨by decide +kernel, by decide +kernel⟩, List.mem_of_getElem? (i := 810) (by decide +kernel), List.mem_of_getElem? (i := 1142) (by decide +kernel), List.mem_of_getElem? (i := 1143) (by decide +kernel)⟩
theorem lw_p54 : lw_okq (⟨"FishReadersModel", "exchange", "(II)V"⟩, 26) := ⟨⟨by decide +kernel, by decide +kernel⟩, List.mem_of_getElem? (i := 810) (by decide +kernel), List.mem_of_getElem? (i := 1146) (by decide +kernel), List.mem_of_getElem? (i := 1147) (by decide +kernel)⟩
theorem lw_p55 : lw_okq (⟨"FishReadersModel", "pagesBehind", "(II)I"⟩, 26) := ⟨⟨by decide +kernel, by decide +kernel⟩, List.mem_of_getElem? (i := 810) (by decide +kernel), List.mem_of_getElem? (i := 1154) (by decide +kernel), List.mem_of_getElem? (i := 1155) (by decide +kernel)⟩
theorem lw_p56 : lw_okq (⟨"FishReadersModel", "dustOf", "(I)I"⟩, 26) := ⟨⟨by decide +kernel, by decide +kernel⟩, List.mem_of_getElem? (i := 810) (by decide +kernel), List.mem_of_getElem? (i := 1167) (by decide +kernel), List.mem_of_getElem? (i := 1168) (by decide +kernel)⟩
theorem lw_p57 : lw_okq (⟨"FishReadersModel", "lacks", "(III)I"⟩, 26) := ⟨⟨by decide +kernel, by decide +kernel⟩, List.mem_of_getElem? (i := 810) (by decide +kernel), List.mem_of_getElem? (i := 1175) (by decide +kernel), List.mem_of_getElem? (i := 1176) (by decide +kernel)⟩
theorem lw_p58 : lw_okq (⟨"FishReadersModel", "fits", "(IIIIII)I"⟩, 26) := ⟨⟨by decide +kernel, by decide +kernel⟩, List.mem_of_getElem? (i := 810) (by decide +kernel), List.mem_of_getElem? (i := 1179) (by decide +kernel), List.mem_of_getElem? (i := 1180) (by decide +kernel)⟩
theorem lw_p59 : lw_okq (⟨"FishReadersModel", "isSo", "(III)Z"⟩, 26) := ⟨⟨by decide +kernel, by decide +kernel⟩, List.mem_of_getElem? (i := 810) (by decide +kernel), List.mem_of_getElem? (i := 1183) (by decide +kernel), List.mem_of_getElem? (i := 1184) (by decide +kernel)⟩
theorem lw_p60 : lw_okq (⟨"FishReadersModel", "sizeOf", "(I)I"⟩, 26) := ⟨⟨by decide +kernel, by decide +kernel⟩, List.mem_of_getElem? (i := 810) (by decide +kernel), List.mem_of_getElem? (i := 1232) (by decide +kernel), List.mem_of_getElem? (i := 1233) (by decide +kernel)⟩
theorem lw_p61 : lw_okq (⟨"FishReadersModel", "begin", "(I)V"⟩, 26) := ⟨⟨by decide +kernel, by decide +kernel⟩, List.mem_of_getElem? (i := 810) (by decide +kernel), List.mem_of_getElem? (i := 1236) (by decide +kernel), List.mem_of_getElem? (i := 1237) (by decide +kernel)⟩
theorem lw_p62 : lw_okq (⟨"FishReadersModel", "readerSize", "(I)I"⟩, 26) := ⟨⟨by decide +kernel, by decide +kernel⟩, List.mem_of_getElem? (i := 810) (by decide +kernel), List.mem_of_getElem? (i := 1240) (by decide +kernel), List.mem_of_getElem? (i := 1241) (by decide +kernel)⟩
theorem lw_p63 : lw_okq (⟨"FishReadersModel", "lent", "(II)I"⟩, 26) := ⟨⟨by decide +kernel, by decide +kernel⟩, List.mem_of_getElem? (i := 810) (by decide +kernel), List.mem_of_getElem? (i := 1244) (by decide +kernel), List.mem_of_getElem? (i := 1245) (by decide +kernel)⟩
def lw_privs_4 : List (MethodName × Nat) := [(⟨"FishReadersModel", "putAside", "()V"⟩, 26), (⟨"FishReadersModel", "goOn", "(I)V"⟩, 26), (⟨"FishReadersModel", "takeBack", "()V"⟩, 26), (⟨"FishReadersModel", "emptySet", "()I"⟩, 26), (⟨"FishReadersModel", "pagesOf", "(I)I"⟩, 26), (⟨"FishReadersModel", "isNext", "(I)Z"⟩, 26), (⟨"FishReadersModel", "exchange", "(II)V"⟩, 26), (⟨"FishReadersModel", "pagesBehind", "(II)I"⟩, 26), (⟨"FishReadersModel", "dustOf", "(I)I"⟩, 26), (⟨"FishReadersModel", "lacks", "(III)I"⟩, 26), (⟨"FishReadersModel", "fits", "(IIIIII)I"⟩, 26), (⟨"FishReadersModel", "isSo", "(III)Z"⟩, 26), (⟨"FishReadersModel", "sizeOf", "(I)I"⟩, 26), (⟨"FishReadersModel", "begin", "(I)V"⟩, 26), (⟨"FishReadersModel", "readerSize", "(I)I"⟩, 26), (⟨"FishReadersModel", "lent", "(II)I"⟩, 26)]
theorem lw_r4 : ∀ q ∈ lw_privs_4, lw_okq q := List.forall_mem_cons.mpr ⟨lw_p48, List.forall_mem_cons.mpr ⟨lw_p49, List.forall_mem_cons.mpr ⟨lw_p50, List.forall_mem_cons.mpr ⟨lw_p51, List.forall_mem_cons.mpr ⟨lw_p52, List.forall_mem_cons.mpr ⟨lw_p53, List.forall_mem_cons.mpr ⟨lw_p54, List.forall_mem_cons.mpr ⟨lw_p55, List.forall_mem_cons.mpr ⟨lw_p56, List.forall_mem_cons.mpr ⟨lw_p57, List.forall_mem_cons.mpr ⟨lw_p58, List.forall_mem_cons.mpr ⟨lw_p59, List.forall_mem_cons.mpr ⟨lw_p60, List.forall_mem_cons.mpr ⟨lw_p61, List.forall_mem_cons.mpr ⟨lw_p62, List.forall_mem_cons.mpr ⟨lw_p63, fun _ h => absurd h List.not_mem_nil⟩⟩⟩⟩⟩⟩⟩⟩⟩⟩⟩⟩⟩⟩⟩⟩
theorem lw_p64 : lw_okq (⟨"FishReadersModel", "markOf", "(I)I"⟩, 26) := ⟨⟨by decide +kernel, by decide +kernel⟩, List.mem_of_getElem? (i := 810) (by decide +kernel), List.mem_of_getElem? (i := 1248) (by decide +kernel), List.mem_of_getElem? (i := 1249) (by decide +kernel)⟩
theorem lw_p65 : lw_okq (⟨"FishReadersModel", "readerMark", "(I)I"⟩, 26) := ⟨⟨by decide +kernel, by decide +kernel⟩, List.mem_of_getElem? (i := 810) (by decide +kernel), List.mem_of_getElem? (i := 1252) (by decide +kernel), List.mem_of_getElem? (i := 1253) (by decide +kernel)⟩
theorem lw_p66 : lw_okq (⟨"FishReadersModel", "sizeOfWanderer", "(I)I"⟩, 26) := ⟨⟨by decide +kernel, by decide +kernel⟩, List.mem_of_getElem? (i := 810) (by decide +kernel), List.mem_of_getElem? (i := 1256) (by decide +kernel), List.mem_of_getElem? (i := 1257) (by decide +kernel)⟩
theorem lw_p67 : lw_okq (⟨"FishReadersModel", "wandererSize", "(I)I"⟩, 26) := ⟨⟨by decide +kernel, by decide +kernel⟩, List.mem_of_getElem? (i := 810) (by decide +kernel), List.mem_of_getElem? (i := 1260) (by decide +kernel), List.mem_of_getElem? (i := 1261) (by decide +kernel)⟩
def lw_privs_5 : List (MethodName × Nat) := [(⟨"FishReadersModel", "markOf", "(I)I"⟩, 26), (⟨"FishReadersModel", "readerMark", "(I)I"⟩, 26), (⟨"FishReadersModel", "sizeOfWanderer", "(I)I"⟩, 26), (⟨"FishReadersModel", "wandererSize", "(I)I"⟩, 26)]
theorem lw_r5 : ∀ q ∈ lw_privs_5, lw_okq q := List.forall_mem_cons.mpr ⟨lw_p64, List.forall_mem_cons.mpr ⟨lw_p65, List.forall_mem_cons.mpr ⟨lw_p66, List.forall_mem_cons.mpr ⟨lw_p67, fun _ h => absurd h List.not_mem_nil⟩⟩⟩⟩
def lw_privs : List (MethodName × Nat) := lw_privs_1 ++ (lw_privs_2 ++ (lw_privs_3 ++ (lw_privs_4 ++ (lw_privs_5))))
def lw_tbl : List Cond := k2_sels lw_privs ++ tables_1
theorem lw_privs_ok : ∀ q ∈ lw_privs, lw_okq q := by
  show ∀ q ∈ lw_privs_1 ++ (lw_privs_2 ++ (lw_privs_3 ++ (lw_privs_4 ++ (lw_privs_5)))), lw_okq q
  exact List.forall_mem_append.mpr ⟨lw_r1, List.forall_mem_append.mpr ⟨lw_r2, List.forall_mem_append.mpr ⟨lw_r3, List.forall_mem_append.mpr ⟨lw_r4, lw_r5⟩⟩⟩⟩
end
section
def RX0 : String := "FishReaders$Acts"
def TX0 : u_T := fun k => match k with
  | 0 => ("FishReaders$Acts", "before", "[LFishReaders$Library;", true)
  | 1 => ("FishReaders$Acts", "next", "I", false)
  | _ => ("FishReaders$Acts", "kept", "I", false)
def tyX0 : Nat → FieldType := fun k => match k with
  | 0 => .array (.object "FishReaders$Library")
  | 1 => .int
  | _ => .int
abbrev wsX00 : List Cond := u_ws RX0 TX0 3
theorem nmX0 : ∀ a, a < 3 → ∀ b, b < 3 → a ≠ b → (TX0 a).2.1 ≠ (TX0 b).2.1 := by decide +kernel
theorem tyX0_ok : ∀ k, k < 3 → parseFieldDescriptor (TX0 k).2.2.1 = some (tyX0 k) := by decide +kernel
abbrev cX0_init : ByteArray := prog_2_method_1_code
def yX0_init : MethodName := ⟨RX0, "<init>", "()V"⟩
abbrev cX0_remember : ByteArray := prog_2_method_2_code
def yX0_remember : MethodName := ⟨RX0, "remember", "(LFishReaders$Library;)V"⟩
abbrev cX0_bringBack : ByteArray := prog_2_method_3_code
def yX0_bringBack : MethodName := ⟨RX0, "bringBack", "(LFishReaders$Library;)V"⟩
abbrev cX0_forget : ByteArray := prog_2_method_4_code
def yX0_forget : MethodName := ⟨RX0, "forget", "()V"⟩
abbrev cX0_slotAt : ByteArray := prog_2_method_5_code
def yX0_slotAt : MethodName := ⟨RX0, "slotAt", "(I)LFishReaders$Library;"⟩
def RX1 : String := "FishReaders$Bodies"
def TX1 : u_T := fun k => match k with
  | 0 => ("FishReaders$Bodies", "numbers", "[I", true)
  | 1 => ("FishReaders$Bodies", "length", "I", false)
  | 2 => ("FishReaders$Bodies", "one", "I", false)
  | 3 => ("FishReaders$Bodies", "kindOfOne", "I", false)
  | 4 => ("FishReaders$Bodies", "placeOfOne", "I", false)
  | _ => ("FishReaders$Bodies", "dustOfOne", "I", false)
def tyX1 : Nat → FieldType := fun k => match k with
  | 0 => .array .int
  | 1 => .int
  | 2 => .int
  | 3 => .int
  | 4 => .int
  | _ => .int
abbrev wsX10 : List Cond := u_ws RX1 TX1 6
theorem nmX1 : ∀ a, a < 6 → ∀ b, b < 6 → a ≠ b → (TX1 a).2.1 ≠ (TX1 b).2.1 := by decide +kernel
theorem tyX1_ok : ∀ k, k < 6 → parseFieldDescriptor (TX1 k).2.2.1 = some (tyX1 k) := by decide +kernel
abbrev cX1_init : ByteArray := prog_3_method_1_code
def yX1_init : MethodName := ⟨RX1, "<init>", "()V"⟩
abbrev cX1_begin : ByteArray := prog_3_method_2_code
def yX1_begin : MethodName := ⟨RX1, "begin", "(IIII)V"⟩
abbrev cX1_left : ByteArray := prog_3_method_3_code
def yX1_left : MethodName := ⟨RX1, "left", "(I)I"⟩
abbrev cX1_leave : ByteArray := prog_3_method_4_code
def yX1_leave : MethodName := ⟨RX1, "leave", "(I)V"⟩
abbrev cX1_sizeAsked : ByteArray := prog_3_method_5_code
def yX1_sizeAsked : MethodName := ⟨RX1, "sizeAsked", "()I"⟩
abbrev cX1_markAsked : ByteArray := prog_3_method_6_code
def yX1_markAsked : MethodName := ⟨RX1, "markAsked", "()I"⟩
abbrev cX1_sizeOfReader : ByteArray := prog_3_method_7_code
def yX1_sizeOfReader : MethodName := ⟨RX1, "sizeOfReader", "()I"⟩
abbrev cX1_sizeOfWanderer : ByteArray := prog_3_method_8_code
def yX1_sizeOfWanderer : MethodName := ⟨RX1, "sizeOfWanderer", "()I"⟩
abbrev cX1_markOfReader : ByteArray := prog_3_method_9_code
def yX1_markOfReader : MethodName := ⟨RX1, "markOfReader", "()I"⟩
abbrev cX1_markOfWanderer : ByteArray := prog_3_method_10_code
def yX1_markOfWanderer : MethodName := ⟨RX1, "markOfWanderer", "()I"⟩
def RX2 : String := "FishReaders$Foretold"
def TX2 : u_T := fun k => match k with
  | 0 => ("FishReaders$Foretold", "then", "LFishReaders$Library;", true)
  | 1 => ("FishReaders$Foretold", "tried", "[I", true)
  | _ => ("FishReaders$Foretold", "best", "[I", true)
def tyX2 : Nat → FieldType := fun k => match k with
  | 0 => .object "FishReaders$Library"
  | 1 => .array .int
  | _ => .array .int
abbrev wsX20 : List Cond := u_ws RX2 TX2 3
theorem nmX2 : ∀ a, a < 3 → ∀ b, b < 3 → a ≠ b → (TX2 a).2.1 ≠ (TX2 b).2.1 := by decide +kernel
theorem tyX2_ok : ∀ k, k < 3 → parseFieldDescriptor (TX2 k).2.2.1 = some (tyX2 k) := by decide +kernel
abbrev cX2_init : ByteArray := prog_4_method_1_code
def yX2_init : MethodName := ⟨RX2, "<init>", "()V"⟩
abbrev cX2_behind : ByteArray := prog_4_method_2_code
def yX2_behind : MethodName := ⟨RX2, "behind", "(LFishReaders$Library;I)LFishReaders$Library;"⟩
abbrev cX2_nightsTillEmpty : ByteArray := prog_4_method_3_code
def yX2_nightsTillEmpty : MethodName := ⟨RX2, "nightsTillEmpty", "(LFishReaders$Library;I)I"⟩
abbrev cX2_emptyOneOf : ByteArray := prog_4_method_4_code
def yX2_emptyOneOf : MethodName := ⟨RX2, "emptyOneOf", "(I)I"⟩
abbrev cX2_bestOrder : ByteArray := prog_4_method_5_code
def yX2_bestOrder : MethodName := ⟨RX2, "bestOrder", "(LFishReaders$Library;II)I"⟩
abbrev cX2_nextOrder : ByteArray := prog_4_method_6_code
def yX2_nextOrder : MethodName := ⟨RX2, "nextOrder", "(I)Z"⟩
abbrev cX2_swap : ByteArray := prog_4_method_7_code
def yX2_swap : MethodName := ⟨RX2, "swap", "(II)V"⟩
abbrev cX2_pagesIfLit : ByteArray := prog_4_method_8_code
def yX2_pagesIfLit : MethodName := ⟨RX2, "pagesIfLit", "(LFishReaders$Library;III)I"⟩
abbrev cX2_bestLamps : ByteArray := prog_4_method_9_code
def yX2_bestLamps : MethodName := ⟨RX2, "bestLamps", "(LFishReaders$Library;II)I"⟩
abbrev cX2_fewestCaught : ByteArray := prog_4_method_10_code
def yX2_fewestCaught : MethodName := ⟨RX2, "fewestCaught", "(LFishReaders$Library;II)I"⟩
abbrev cX2_kindsThatFit : ByteArray := prog_4_method_11_code
def yX2_kindsThatFit : MethodName := ⟨RX2, "kindsThatFit", "(LFishReaders$Library;IILFishReaders$Rows;)I"⟩
abbrev cX2_placesThatFit : ByteArray := prog_4_method_12_code
def yX2_placesThatFit : MethodName := ⟨RX2, "placesThatFit", "(LFishReaders$Library;IILFishReaders$Rows;)I"⟩
abbrev cX2_pastesThatFit : ByteArray := prog_4_method_13_code
def yX2_pastesThatFit : MethodName := ⟨RX2, "pastesThatFit", "(LFishReaders$Library;IILFishReaders$Rows;)I"⟩
abbrev cX2_hungersThatFit : ByteArray := prog_4_method_14_code
def yX2_hungersThatFit : MethodName := ⟨RX2, "hungersThatFit", "(LFishReaders$Library;ILFishReaders$Rows;)I"⟩
abbrev cX2_fits : ByteArray := prog_4_method_15_code
def yX2_fits : MethodName := ⟨RX2, "fits", "(ILFishReaders$Rows;)Z"⟩
abbrev cX2_casesWithPages : ByteArray := prog_4_method_16_code
def yX2_casesWithPages : MethodName := ⟨RX2, "casesWithPages", "(LFishReaders$Library;III)J"⟩
abbrev cX2_behindCenturies : ByteArray := prog_4_method_17_code
def yX2_behindCenturies : MethodName := ⟨RX2, "behindCenturies", "(LFishReaders$Library;II)LFishReaders$Library;"⟩
abbrev cX2_drawLamp : ByteArray := prog_4_method_18_code
def yX2_drawLamp : MethodName := ⟨RX2, "drawLamp", "(J)V"⟩
def RX3 : String := "FishReaders$Library"
def TX3 : u_T := fun k => match k with
  | 0 => ("FishReaders$Library", "books", "I", false)
  | 1 => ("FishReaders$Library", "fishes", "I", false)
  | 2 => ("FishReaders$Library", "hunger", "I", false)
  | 3 => ("FishReaders$Library", "lamps", "I", false)
  | 4 => ("FishReaders$Library", "night", "I", false)
  | 5 => ("FishReaders$Library", "lit", "I", false)
  | 6 => ("FishReaders$Library", "kept", "I", false)
  | 7 => ("FishReaders$Library", "caughtOnes", "I", false)
  | 8 => ("FishReaders$Library", "pages", "[I", true)
  | 9 => ("FishReaders$Library", "pasteOf", "[I", true)
  | 10 => ("FishReaders$Library", "placeOf", "[I", true)
  | 11 => ("FishReaders$Library", "shelf", "[I", true)
  | 12 => ("FishReaders$Library", "kindOf", "[I", true)
  | 13 => ("FishReaders$Library", "at", "[I", true)
  | 14 => ("FishReaders$Library", "dust", "[I", true)
  | _ => ("FishReaders$Library", "holes", "[I", true)
def tyX3 : Nat → FieldType := fun k => match k with
  | 0 => .int
  | 1 => .int
  | 2 => .int
  | 3 => .int
  | 4 => .int
  | 5 => .int
  | 6 => .int
  | 7 => .int
  | 8 => .array .int
  | 9 => .array .int
  | 10 => .array .int
  | 11 => .array .int
  | 12 => .array .int
  | 13 => .array .int
  | 14 => .array .int
  | _ => .array .int
abbrev wsX30 : List Cond := u_ws RX3 TX3 16
theorem nmX3 : ∀ a, a < 16 → ∀ b, b < 16 → a ≠ b → (TX3 a).2.1 ≠ (TX3 b).2.1 := by decide +kernel
theorem tyX3_ok : ∀ k, k < 16 → parseFieldDescriptor (TX3 k).2.2.1 = some (tyX3 k) := by decide +kernel
abbrev cX3_init : ByteArray := prog_5_method_1_code
def yX3_init : MethodName := ⟨RX3, "<init>", "()V"⟩
abbrev cX3_clear : ByteArray := prog_5_method_2_code
def yX3_clear : MethodName := ⟨RX3, "clear", "()V"⟩
abbrev cX3_take : ByteArray := prog_5_method_3_code
def yX3_take : MethodName := ⟨RX3, "take", "(LFishReaders$Library;)V"⟩
abbrev cX3_addBook : ByteArray := prog_5_method_4_code
def yX3_addBook : MethodName := ⟨RX3, "addBook", "(II)V"⟩
abbrev cX3_addFish : ByteArray := prog_5_method_5_code
def yX3_addFish : MethodName := ⟨RX3, "addFish", "(II)V"⟩
abbrev cX3_isTold : ByteArray := prog_5_method_6_code
def yX3_isTold : MethodName := ⟨RX3, "isTold", "()Z"⟩
abbrev cX3_isBook : ByteArray := prog_5_method_7_code
def yX3_isBook : MethodName := ⟨RX3, "isBook", "(I)Z"⟩
abbrev cX3_isPlace : ByteArray := prog_5_method_8_code
def yX3_isPlace : MethodName := ⟨RX3, "isPlace", "(I)Z"⟩
abbrev cX3_isFish : ByteArray := prog_5_method_9_code
def yX3_isFish : MethodName := ⟨RX3, "isFish", "(I)Z"⟩
abbrev cX3_isCaught : ByteArray := prog_5_method_10_code
def yX3_isCaught : MethodName := ⟨RX3, "isCaught", "(I)Z"⟩
abbrev cX3_bookIn : ByteArray := prog_5_method_11_code
def yX3_bookIn : MethodName := ⟨RX3, "bookIn", "(I)I"⟩
abbrev cX3_put : ByteArray := prog_5_method_12_code
def yX3_put : MethodName := ⟨RX3, "put", "(II)V"⟩
abbrev cX3_allBooks : ByteArray := prog_5_method_13_code
def yX3_allBooks : MethodName := ⟨RX3, "allBooks", "()I"⟩
abbrev cX3_fishIn : ByteArray := prog_5_method_14_code
def yX3_fishIn : MethodName := ⟨RX3, "fishIn", "(I)I"⟩
abbrev cX3_pagesOfAll : ByteArray := prog_5_method_15_code
def yX3_pagesOfAll : MethodName := ⟨RX3, "pagesOfAll", "()I"⟩
abbrev cX3_pagesOf : ByteArray := prog_5_method_16_code
def yX3_pagesOf : MethodName := ⟨RX3, "pagesOf", "(I)I"⟩
abbrev cX3_booksWithPages : ByteArray := prog_5_method_17_code
def yX3_booksWithPages : MethodName := ⟨RX3, "booksWithPages", "()I"⟩
abbrev cX3_dustOf : ByteArray := prog_5_method_18_code
def yX3_dustOf : MethodName := ⟨RX3, "dustOf", "(I)I"⟩
abbrev cX3_gramsOf : ByteArray := prog_5_method_19_code
def yX3_gramsOf : MethodName := ⟨RX3, "gramsOf", "(II)I"⟩
abbrev cX3_passNights : ByteArray := prog_5_method_20_code
def yX3_passNights : MethodName := ⟨RX3, "passNights", "(I)V"⟩
abbrev cX3_passNight : ByteArray := prog_5_method_21_code
def yX3_passNight : MethodName := ⟨RX3, "passNight", "()V"⟩
abbrev cX3_eat : ByteArray := prog_5_method_22_code
def yX3_eat : MethodName := ⟨RX3, "eat", "(I)V"⟩
abbrev cX3_dampen : ByteArray := prog_5_method_23_code
def yX3_dampen : MethodName := ⟨RX3, "dampen", "()V"⟩
abbrev cX3_isClosed : ByteArray := prog_5_method_24_code
def yX3_isClosed : MethodName := ⟨RX3, "isClosed", "(I)Z"⟩
abbrev cX3_nextPlace : ByteArray := prog_5_method_25_code
def yX3_nextPlace : MethodName := ⟨RX3, "nextPlace", "(I)I"⟩
abbrev cX3_upFrom : ByteArray := prog_5_method_26_code
def yX3_upFrom : MethodName := ⟨RX3, "upFrom", "(II)I"⟩
abbrev cX3_towards : ByteArray := prog_5_method_27_code
def yX3_towards : MethodName := ⟨RX3, "towards", "(II)I"⟩
abbrev cX3_likedPlace : ByteArray := prog_5_method_28_code
def yX3_likedPlace : MethodName := ⟨RX3, "likedPlace", "(I)I"⟩
def RX4 : String := "FishReaders$Rows"
def TX4 : u_T := fun k => match k with
  | 0 => ("FishReaders$Rows", "lanes", "[I", true)
  | 1 => ("FishReaders$Rows", "lengths", "[I", true)
  | 2 => ("FishReaders$Rows", "items", "[I", true)
  | 3 => ("FishReaders$Rows", "pickedFrom", "I", false)
  | _ => ("FishReaders$Rows", "picked", "I", false)
def tyX4 : Nat → FieldType := fun k => match k with
  | 0 => .array .int
  | 1 => .array .int
  | 2 => .array .int
  | 3 => .int
  | _ => .int
abbrev wsX40 : List Cond := u_ws RX4 TX4 5
theorem nmX4 : ∀ a, a < 5 → ∀ b, b < 5 → a ≠ b → (TX4 a).2.1 ≠ (TX4 b).2.1 := by decide +kernel
theorem tyX4_ok : ∀ k, k < 5 → parseFieldDescriptor (TX4 k).2.2.1 = some (tyX4 k) := by decide +kernel
abbrev cX4_init : ByteArray := prog_6_method_1_code
def yX4_init : MethodName := ⟨RX4, "<init>", "()V"⟩
abbrev cX4_isRow : ByteArray := prog_6_method_2_code
def yX4_isRow : MethodName := ⟨RX4, "isRow", "(I)Z"⟩
abbrev cX4_isLane : ByteArray := prog_6_method_3_code
def yX4_isLane : MethodName := ⟨RX4, "isLane", "(I)Z"⟩
abbrev cX4_isMissing : ByteArray := prog_6_method_4_code
def yX4_isMissing : MethodName := ⟨RX4, "isMissing", "(I)Z"⟩
abbrev cX4_findingAt : ByteArray := prog_6_method_5_code
def yX4_findingAt : MethodName := ⟨RX4, "findingAt", "(III)I"⟩
abbrev cX4_findingOfCopy : ByteArray := prog_6_method_6_code
def yX4_findingOfCopy : MethodName := ⟨RX4, "findingOfCopy", "(IIIII)I"⟩
abbrev cX4_make : ByteArray := prog_6_method_7_code
def yX4_make : MethodName := ⟨RX4, "make", "(III)V"⟩
abbrev cX4_put : ByteArray := prog_6_method_8_code
def yX4_put : MethodName := ⟨RX4, "put", "(III)I"⟩
abbrev cX4_shift : ByteArray := prog_6_method_9_code
def yX4_shift : MethodName := ⟨RX4, "shift", "(IIIII)V"⟩
abbrev cX4_remove : ByteArray := prog_6_method_10_code
def yX4_remove : MethodName := ⟨RX4, "remove", "(I)I"⟩
abbrev cX4_standing : ByteArray := prog_6_method_11_code
def yX4_standing : MethodName := ⟨RX4, "standing", "()I"⟩
abbrev cX4_pick : ByteArray := prog_6_method_12_code
def yX4_pick : MethodName := ⟨RX4, "pick", "(III)V"⟩
abbrev cX4_howManyTold : ByteArray := prog_6_method_13_code
def yX4_howManyTold : MethodName := ⟨RX4, "howManyTold", "()I"⟩
abbrev cX4_told : ByteArray := prog_6_method_14_code
def yX4_told : MethodName := ⟨RX4, "told", "(I)I"⟩
def RX5 : String := "FishReaders$Tape"
def TX5 : u_T := fun k => match k with
  | 0 => ("FishReaders$Tape", "bytes", "[I", true)
  | 1 => ("FishReaders$Tape", "length", "I", false)
  | 2 => ("FishReaders$Tape", "latestFault", "I", false)
  | 3 => ("FishReaders$Tape", "at", "I", false)
  | _ => ("FishReaders$Tape", "wrongAt", "I", false)
def tyX5 : Nat → FieldType := fun k => match k with
  | 0 => .array .int
  | 1 => .int
  | 2 => .int
  | 3 => .int
  | _ => .int
abbrev wsX50 : List Cond := u_ws RX5 TX5 5
theorem nmX5 : ∀ a, a < 5 → ∀ b, b < 5 → a ≠ b → (TX5 a).2.1 ≠ (TX5 b).2.1 := by decide +kernel
theorem tyX5_ok : ∀ k, k < 5 → parseFieldDescriptor (TX5 k).2.2.1 = some (tyX5 k) := by decide +kernel
abbrev cX5_init : ByteArray := prog_7_method_1_code
def yX5_init : MethodName := ⟨RX5, "<init>", "()V"⟩
abbrev cX5_add : ByteArray := prog_7_method_2_code
def yX5_add : MethodName := ⟨RX5, "add", "(I)Z"⟩
abbrev cX5_readInto : ByteArray := prog_7_method_3_code
def yX5_readInto : MethodName := ⟨RX5, "readInto", "(LFishReaders$Library;)I"⟩
abbrev cX5_readLaw : ByteArray := prog_7_method_4_code
def yX5_readLaw : MethodName := ⟨RX5, "readLaw", "(LFishReaders$Library;)V"⟩
abbrev cX5_readBooks : ByteArray := prog_7_method_5_code
def yX5_readBooks : MethodName := ⟨RX5, "readBooks", "(LFishReaders$Library;)V"⟩
abbrev cX5_readFish : ByteArray := prog_7_method_6_code
def yX5_readFish : MethodName := ⟨RX5, "readFish", "(LFishReaders$Library;)V"⟩
abbrev cX5_kindOfSort : ByteArray := prog_7_method_7_code
def yX5_kindOfSort : MethodName := ⟨RX5, "kindOfSort", "(I)I"⟩
abbrev cX5_isFine : ByteArray := prog_7_method_8_code
def yX5_isFine : MethodName := ⟨RX5, "isFine", "()Z"⟩
abbrev cX5_fail : ByteArray := prog_7_method_9_code
def yX5_fail : MethodName := ⟨RX5, "fail", "(I)V"⟩
abbrev cX5_next : ByteArray := prog_7_method_10_code
def yX5_next : MethodName := ⟨RX5, "next", "()I"⟩
abbrev cX5_pass : ByteArray := prog_7_method_11_code
def yX5_pass : MethodName := ⟨RX5, "pass", "(I)V"⟩
abbrev cX5_number : ByteArray := prog_7_method_12_code
def yX5_number : MethodName := ⟨RX5, "number", "(II)I"⟩
abbrev cX5_isFigure : ByteArray := prog_7_method_13_code
def yX5_isFigure : MethodName := ⟨RX5, "isFigure", "(I)Z"⟩
def RX6 : String := "FishReaders"
def TX6 : u_T := fun k => match k with
  | 0 => ("FishReaders", "rows", "LFishReaders$Rows;", true)
  | 1 => ("FishReaders", "tape", "LFishReaders$Tape;", true)
  | 2 => ("FishReaders", "now", "LFishReaders$Library;", true)
  | 3 => ("FishReaders", "draft", "LFishReaders$Library;", true)
  | 4 => ("FishReaders", "imageZero", "LFishReaders$Library;", true)
  | 5 => ("FishReaders", "imageOne", "LFishReaders$Library;", true)
  | 6 => ("FishReaders", "acts", "LFishReaders$Acts;", true)
  | 7 => ("FishReaders", "foretold", "LFishReaders$Foretold;", true)
  | 8 => ("FishReaders", "bodies", "LFishReaders$Bodies;", true)
  | _ => ("FishReaders", "finding", "I", false)
def tyX6 : Nat → FieldType := fun k => match k with
  | 0 => .object "FishReaders$Rows"
  | 1 => .object "FishReaders$Tape"
  | 2 => .object "FishReaders$Library"
  | 3 => .object "FishReaders$Library"
  | 4 => .object "FishReaders$Library"
  | 5 => .object "FishReaders$Library"
  | 6 => .object "FishReaders$Acts"
  | 7 => .object "FishReaders$Foretold"
  | 8 => .object "FishReaders$Bodies"
  | _ => .int
abbrev wsX60 : List Cond := u_ws RX6 TX6 10
theorem nmX6 : ∀ a, a < 10 → ∀ b, b < 10 → a ≠ b → (TX6 a).2.1 ≠ (TX6 b).2.1 := by decide +kernel
theorem tyX6_ok : ∀ k, k < 10 → parseFieldDescriptor (TX6 k).2.2.1 = some (tyX6 k) := by decide +kernel
abbrev cX6_init : ByteArray := prog_1_method_1_code
def yX6_init : MethodName := ⟨RX6, "<init>", "()V"⟩
abbrev cX6_row : ByteArray := prog_1_method_2_code
def yX6_row : MethodName := ⟨RX6, "row", "(III)I"⟩
abbrev cX6_set : ByteArray := prog_1_method_3_code
def yX6_set : MethodName := ⟨RX6, "set", "(III)I"⟩
abbrev cX6_copy : ByteArray := prog_1_method_4_code
def yX6_copy : MethodName := ⟨RX6, "copy", "(IIIII)I"⟩
abbrev cX6_drop : ByteArray := prog_1_method_5_code
def yX6_drop : MethodName := ⟨RX6, "drop", "(I)I"⟩
abbrev cX6_feed : ByteArray := prog_1_method_6_code
def yX6_feed : MethodName := ⟨RX6, "feed", "(I)I"⟩
abbrev cX6_library : ByteArray := prog_1_method_7_code
def yX6_library : MethodName := ⟨RX6, "library", "()I"⟩
abbrev cX6_fault : ByteArray := prog_1_method_8_code
def yX6_fault : MethodName := ⟨RX6, "fault", "()I"⟩
abbrev cX6_undo : ByteArray := prog_1_method_9_code
def yX6_undo : MethodName := ⟨RX6, "undo", "()I"⟩
abbrev cX6_nights : ByteArray := prog_1_method_10_code
def yX6_nights : MethodName := ⟨RX6, "nights", "(I)I"⟩
abbrev cX6_light : ByteArray := prog_1_method_11_code
def yX6_light : MethodName := ⟨RX6, "light", "(II)I"⟩
abbrev cX6_keepIt : ByteArray := prog_1_method_12_code
def yX6_keepIt : MethodName := ⟨RX6, "keepIt", "(II)I"⟩
abbrev cX6_change : ByteArray := prog_1_method_13_code
def yX6_change : MethodName := ⟨RX6, "change", "(II)I"⟩
abbrev cX6_move : ByteArray := prog_1_method_14_code
def yX6_move : MethodName := ⟨RX6, "move", "(II)I"⟩
abbrev cX6_catchIt : ByteArray := prog_1_method_15_code
def yX6_catchIt : MethodName := ⟨RX6, "catchIt", "(I)I"⟩
abbrev cX6_book : ByteArray := prog_1_method_16_code
def yX6_book : MethodName := ⟨RX6, "book", "(II)I"⟩
abbrev cX6_fish : ByteArray := prog_1_method_17_code
def yX6_fish : MethodName := ⟨RX6, "fish", "(II)I"⟩
abbrev cX6_stand : ByteArray := prog_1_method_18_code
def yX6_stand : MethodName := ⟨RX6, "stand", "(I)I"⟩
abbrev cX6_ahead : ByteArray := prog_1_method_19_code
def yX6_ahead : MethodName := ⟨RX6, "ahead", "(III)I"⟩
abbrev cX6_later : ByteArray := prog_1_method_20_code
def yX6_later : MethodName := ⟨RX6, "later", "(III)I"⟩
abbrev cX6_when : ByteArray := prog_1_method_21_code
def yX6_when : MethodName := ⟨RX6, "when", "(I)I"⟩
abbrev cX6_first : ByteArray := prog_1_method_22_code
def yX6_first : MethodName := ⟨RX6, "first", "(I)I"⟩
abbrev cX6_hole : ByteArray := prog_1_method_23_code
def yX6_hole : MethodName := ⟨RX6, "hole", "(II)I"⟩
abbrev cX6_order : ByteArray := prog_1_method_24_code
def yX6_order : MethodName := ⟨RX6, "order", "(III)I"⟩
abbrev cX6_lamp : ByteArray := prog_1_method_25_code
def yX6_lamp : MethodName := ⟨RX6, "lamp", "(III)I"⟩
abbrev cX6_caught : ByteArray := prog_1_method_26_code
def yX6_caught : MethodName := ⟨RX6, "caught", "(III)I"⟩
abbrev cX6_grams : ByteArray := prog_1_method_27_code
def yX6_grams : MethodName := ⟨RX6, "grams", "(II)I"⟩
abbrev cX6_who : ByteArray := prog_1_method_28_code
def yX6_who : MethodName := ⟨RX6, "who", "(IIIIII)I"⟩
abbrev cX6_paste : ByteArray := prog_1_method_29_code
def yX6_paste : MethodName := ⟨RX6, "paste", "(IIIII)I"⟩
abbrev cX6_hungers : ByteArray := prog_1_method_30_code
def yX6_hungers : MethodName := ⟨RX6, "hungers", "(IIII)I"⟩
abbrev cX6_dark : ByteArray := prog_1_method_31_code
def yX6_dark : MethodName := ⟨RX6, "dark", "(IIII)J"⟩
abbrev cX6_drawn : ByteArray := prog_1_method_32_code
def yX6_drawn : MethodName := ⟨RX6, "drawn", "(III)I"⟩
abbrev cX6_image : ByteArray := prog_1_method_33_code
def yX6_image : MethodName := ⟨RX6, "image", "(I)I"⟩
abbrev cX6_restore : ByteArray := prog_1_method_34_code
def yX6_restore : MethodName := ⟨RX6, "restore", "(I)I"⟩
abbrev cX6_kind : ByteArray := prog_1_method_35_code
def yX6_kind : MethodName := ⟨RX6, "kind", "(I)I"⟩
abbrev cX6_as : ByteArray := prog_1_method_36_code
def yX6_as : MethodName := ⟨RX6, "as", "(II)I"⟩
abbrev cX6_ask : ByteArray := prog_1_method_37_code
def yX6_ask : MethodName := ⟨RX6, "ask", "(II)I"⟩
abbrev cX6_trace : ByteArray := prog_1_method_38_code
def yX6_trace : MethodName := ⟨RX6, "trace", "(I)I"⟩
abbrev cX6_count : ByteArray := prog_1_method_39_code
def yX6_count : MethodName := ⟨RX6, "count", "(I)I"⟩
abbrev cX6_status : ByteArray := prog_1_method_40_code
def yX6_status : MethodName := ⟨RX6, "status", "()I"⟩
abbrev cX6_found : ByteArray := prog_1_method_41_code
def yX6_found : MethodName := ⟨RX6, "found", "(I)I"⟩
abbrev cX6_foundNothing : ByteArray := prog_1_method_42_code
def yX6_foundNothing : MethodName := ⟨RX6, "foundNothing", "(I)I"⟩
abbrev cX6_isWithin : ByteArray := prog_1_method_43_code
def yX6_isWithin : MethodName := ⟨RX6, "isWithin", "(III)Z"⟩
abbrev cX6_bitOf : ByteArray := prog_1_method_44_code
def yX6_bitOf : MethodName := ⟨RX6, "bitOf", "(II)I"⟩
abbrev cX6_isKind : ByteArray := prog_1_method_45_code
def yX6_isKind : MethodName := ⟨RX6, "isKind", "(II)Z"⟩
abbrev cX6_power : ByteArray := prog_1_method_46_code
def yX6_power : MethodName := ⟨RX6, "power", "(II)J"⟩
abbrev cX6_commonDivisor : ByteArray := prog_1_method_47_code
def yX6_commonDivisor : MethodName := ⟨RX6, "commonDivisor", "(JJ)J"⟩
def RX7 : String := "FishReadersModel"
def TX7 : u_T := fun k => match k with
  | 0 => ("FishReadersModel", "lanes", "[I", true)
  | 1 => ("FishReadersModel", "sizes", "[I", true)
  | 2 => ("FishReadersModel", "items", "[I", true)
  | 3 => ("FishReadersModel", "status", "I", false)
  | 4 => ("FishReadersModel", "isThere", "Z", false)
  | 5 => ("FishReadersModel", "st", "[I", true)
  | 6 => ("FishReadersModel", "moved", "[I", true)
  | 7 => ("FishReadersModel", "tape", "[I", true)
  | 8 => ("FishReadersModel", "bytes", "I", false)
  | 9 => ("FishReadersModel", "latest", "I", false)
  | 10 => ("FishReadersModel", "place", "I", false)
  | 11 => ("FishReadersModel", "token", "I", false)
  | 12 => ("FishReadersModel", "value", "I", false)
  | 13 => ("FishReadersModel", "begins", "I", false)
  | 14 => ("FishReadersModel", "wrong", "I", false)
  | 15 => ("FishReadersModel", "read", "[I", true)
  | 16 => ("FishReadersModel", "holes", "[I", true)
  | 17 => ("FishReadersModel", "acts", "[I", true)
  | 18 => ("FishReadersModel", "actMany", "I", false)
  | 19 => ("FishReadersModel", "aside", "[I", true)
  | 20 => ("FishReadersModel", "line", "[I", true)
  | 21 => ("FishReadersModel", "bestLine", "[I", true)
  | 22 => ("FishReadersModel", "isKept", "[Z", true)
  | 23 => ("FishReadersModel", "kept", "[I", true)
  | 24 => ("FishReadersModel", "trace", "[I", true)
  | _ => ("FishReadersModel", "traced", "I", false)
def tyX7 : Nat → FieldType := fun k => match k with
  | 0 => .array .int
  | 1 => .array .int
  | 2 => .array .int
  | 3 => .int
  | 4 => .boolean
  | 5 => .array .int
  | 6 => .array .int
  | 7 => .array .int
  | 8 => .int
  | 9 => .int
  | 10 => .int
  | 11 => .int
  | 12 => .int
  | 13 => .int
  | 14 => .int
  | 15 => .array .int
  | 16 => .array .int
  | 17 => .array .int
  | 18 => .int
  | 19 => .array .int
  | 20 => .array .int
  | 21 => .array .int
  | 22 => .array .boolean
  | 23 => .array .int
  | 24 => .array .int
  | _ => .int
abbrev wsX70 : List Cond := u_ws RX7 TX7 26
theorem nmX7 : ∀ a, a < 26 → ∀ b, b < 26 → a ≠ b → (TX7 a).2.1 ≠ (TX7 b).2.1 := by decide +kernel
theorem tyX7_ok : ∀ k, k < 26 → parseFieldDescriptor (TX7 k).2.2.1 = some (tyX7 k) := by decide +kernel
abbrev cX7_init : ByteArray := prog_9_method_1_code
def yX7_init : MethodName := ⟨RX7, "<init>", "()V"⟩
abbrev cX7_in : ByteArray := prog_9_method_2_code
def yX7_in : MethodName := ⟨RX7, "in", "(JJJ)Z"⟩
abbrev cX7_has : ByteArray := prog_9_method_3_code
def yX7_has : MethodName := ⟨RX7, "has", "(II)Z"⟩
abbrev cX7_ones : ByteArray := prog_9_method_4_code
def yX7_ones : MethodName := ⟨RX7, "ones", "(I)I"⟩
abbrev cX7_find : ByteArray := prog_9_method_5_code
def yX7_find : MethodName := ⟨RX7, "find", "(I)I"⟩
abbrev cX7_well : ByteArray := prog_9_method_6_code
def yX7_well : MethodName := ⟨RX7, "well", "(I)I"⟩
abbrev cX7_isRow : ByteArray := prog_9_method_7_code
def yX7_isRow : MethodName := ⟨RX7, "isRow", "(I)Z"⟩
abbrev cX7_row : ByteArray := prog_9_method_8_code
def yX7_row : MethodName := ⟨RX7, "row", "(III)I"⟩
abbrev cX7_asLane : ByteArray := prog_9_method_9_code
def yX7_asLane : MethodName := ⟨RX7, "asLane", "(II)I"⟩
abbrev cX7_set : ByteArray := prog_9_method_10_code
def yX7_set : MethodName := ⟨RX7, "set", "(III)I"⟩
abbrev cX7_copy : ByteArray := prog_9_method_11_code
def yX7_copy : MethodName := ⟨RX7, "copy", "(IIIII)I"⟩
abbrev cX7_drop : ByteArray := prog_9_method_12_code
def yX7_drop : MethodName := ⟨RX7, "drop", "(I)I"⟩
abbrev cX7_feed : ByteArray := prog_9_method_13_code
def yX7_feed : MethodName := ⟨RX7, "feed", "(I)I"⟩
abbrev cX7_nextToken : ByteArray := prog_9_method_14_code
def yX7_nextToken : MethodName := ⟨RX7, "nextToken", "()V"⟩
abbrev cX7_faults : ByteArray := prog_9_method_15_code
def yX7_faults : MethodName := ⟨RX7, "faults", "(I)Z"⟩
abbrev cX7_isLetter : ByteArray := prog_9_method_16_code
def yX7_isLetter : MethodName := ⟨RX7, "isLetter", "(I)Z"⟩
abbrev cX7_takes : ByteArray := prog_9_method_17_code
def yX7_takes : MethodName := ⟨RX7, "takes", "(I)Z"⟩
abbrev cX7_takesNumber : ByteArray := prog_9_method_18_code
def yX7_takesNumber : MethodName := ⟨RX7, "takesNumber", "(IIII)Z"⟩
abbrev cX7_readBook : ByteArray := prog_9_method_19_code
def yX7_readBook : MethodName := ⟨RX7, "readBook", "()Z"⟩
abbrev cX7_kindBy : ByteArray := prog_9_method_20_code
def yX7_kindBy : MethodName := ⟨RX7, "kindBy", "(I)I"⟩
abbrev cX7_readFish : ByteArray := prog_9_method_21_code
def yX7_readFish : MethodName := ⟨RX7, "readFish", "(I)Z"⟩
abbrev cX7_readLibrary : ByteArray := prog_9_method_22_code
def yX7_readLibrary : MethodName := ⟨RX7, "readLibrary", "()Z"⟩
abbrev cX7_library : ByteArray := prog_9_method_23_code
def yX7_library : MethodName := ⟨RX7, "library", "()I"⟩
abbrev cX7_fault : ByteArray := prog_9_method_24_code
def yX7_fault : MethodName := ⟨RX7, "fault", "()I"⟩
abbrev cX7_isBook : ByteArray := prog_9_method_25_code
def yX7_isBook : MethodName := ⟨RX7, "isBook", "(I)Z"⟩
abbrev cX7_isFish : ByteArray := prog_9_method_26_code
def yX7_isFish : MethodName := ⟨RX7, "isFish", "(I)Z"⟩
abbrev cX7_isCaught : ByteArray := prog_9_method_27_code
def yX7_isCaught : MethodName := ⟨RX7, "isCaught", "(I)Z"⟩
abbrev cX7_bookAt : ByteArray := prog_9_method_28_code
def yX7_bookAt : MethodName := ⟨RX7, "bookAt", "(I)I"⟩
abbrev cX7_isShut : ByteArray := prog_9_method_29_code
def yX7_isShut : MethodName := ⟨RX7, "isShut", "(I)Z"⟩
abbrev cX7_likes : ByteArray := prog_9_method_30_code
def yX7_likes : MethodName := ⟨RX7, "likes", "(II)I"⟩
abbrev cX7_likedBy : ByteArray := prog_9_method_31_code
def yX7_likedBy : MethodName := ⟨RX7, "likedBy", "(I)I"⟩
abbrev cX7_goesTo : ByteArray := prog_9_method_32_code
def yX7_goesTo : MethodName := ⟨RX7, "goesTo", "(I)I"⟩
abbrev cX7_eats : ByteArray := prog_9_method_33_code
def yX7_eats : MethodName := ⟨RX7, "eats", "(I)V"⟩
abbrev cX7_oneNight : ByteArray := prog_9_method_34_code
def yX7_oneNight : MethodName := ⟨RX7, "oneNight", "()V"⟩
abbrev cX7_allPages : ByteArray := prog_9_method_35_code
def yX7_allPages : MethodName := ⟨RX7, "allPages", "()I"⟩
abbrev cX7_note : ByteArray := prog_9_method_36_code
def yX7_note : MethodName := ⟨RX7, "note", "()V"⟩
abbrev cX7_undo : ByteArray := prog_9_method_37_code
def yX7_undo : MethodName := ⟨RX7, "undo", "()I"⟩
abbrev cX7_nights : ByteArray := prog_9_method_38_code
def yX7_nights : MethodName := ⟨RX7, "nights", "(I)I"⟩
abbrev cX7_light : ByteArray := prog_9_method_39_code
def yX7_light : MethodName := ⟨RX7, "light", "(II)I"⟩
abbrev cX7_keepIt : ByteArray := prog_9_method_40_code
def yX7_keepIt : MethodName := ⟨RX7, "keepIt", "(II)I"⟩
abbrev cX7_change : ByteArray := prog_9_method_41_code
def yX7_change : MethodName := ⟨RX7, "change", "(II)I"⟩
abbrev cX7_move : ByteArray := prog_9_method_42_code
def yX7_move : MethodName := ⟨RX7, "move", "(II)I"⟩
abbrev cX7_catchIt : ByteArray := prog_9_method_43_code
def yX7_catchIt : MethodName := ⟨RX7, "catchIt", "(I)I"⟩
abbrev cX7_fishAt : ByteArray := prog_9_method_44_code
def yX7_fishAt : MethodName := ⟨RX7, "fishAt", "(I)I"⟩
abbrev cX7_book : ByteArray := prog_9_method_45_code
def yX7_book : MethodName := ⟨RX7, "book", "(II)I"⟩
abbrev cX7_fish : ByteArray := prog_9_method_46_code
def yX7_fish : MethodName := ⟨RX7, "fish", "(II)I"⟩
abbrev cX7_stand : ByteArray := prog_9_method_47_code
def yX7_stand : MethodName := ⟨RX7, "stand", "(I)I"⟩
abbrev cX7_putAside : ByteArray := prog_9_method_48_code
def yX7_putAside : MethodName := ⟨RX7, "putAside", "()V"⟩
abbrev cX7_takeBack : ByteArray := prog_9_method_49_code
def yX7_takeBack : MethodName := ⟨RX7, "takeBack", "()V"⟩
abbrev cX7_goOn : ByteArray := prog_9_method_50_code
def yX7_goOn : MethodName := ⟨RX7, "goOn", "(I)V"⟩
abbrev cX7_isWhat : ByteArray := prog_9_method_51_code
def yX7_isWhat : MethodName := ⟨RX7, "isWhat", "(I)Z"⟩
abbrev cX7_pagesBehind : ByteArray := prog_9_method_52_code
def yX7_pagesBehind : MethodName := ⟨RX7, "pagesBehind", "(II)I"⟩
abbrev cX7_ahead : ByteArray := prog_9_method_53_code
def yX7_ahead : MethodName := ⟨RX7, "ahead", "(III)I"⟩
abbrev cX7_later : ByteArray := prog_9_method_54_code
def yX7_later : MethodName := ⟨RX7, "later", "(III)I"⟩
abbrev cX7_when : ByteArray := prog_9_method_55_code
def yX7_when : MethodName := ⟨RX7, "when", "(I)I"⟩
abbrev cX7_emptySet : ByteArray := prog_9_method_56_code
def yX7_emptySet : MethodName := ⟨RX7, "emptySet", "()I"⟩
abbrev cX7_least : ByteArray := prog_9_method_57_code
def yX7_least : MethodName := ⟨RX7, "least", "(I)I"⟩
abbrev cX7_first : ByteArray := prog_9_method_58_code
def yX7_first : MethodName := ⟨RX7, "first", "(I)I"⟩
abbrev cX7_hole : ByteArray := prog_9_method_59_code
def yX7_hole : MethodName := ⟨RX7, "hole", "(II)I"⟩
abbrev cX7_exchange : ByteArray := prog_9_method_60_code
def yX7_exchange : MethodName := ⟨RX7, "exchange", "(II)V"⟩
abbrev cX7_isNext : ByteArray := prog_9_method_61_code
def yX7_isNext : MethodName := ⟨RX7, "isNext", "(I)Z"⟩
abbrev cX7_pagesOf : ByteArray := prog_9_method_62_code
def yX7_pagesOf : MethodName := ⟨RX7, "pagesOf", "(I)I"⟩
abbrev cX7_order : ByteArray := prog_9_method_63_code
def yX7_order : MethodName := ⟨RX7, "order", "(III)I"⟩
abbrev cX7_lamp : ByteArray := prog_9_method_64_code
def yX7_lamp : MethodName := ⟨RX7, "lamp", "(III)I"⟩
abbrev cX7_caught : ByteArray := prog_9_method_65_code
def yX7_caught : MethodName := ⟨RX7, "caught", "(III)I"⟩
abbrev cX7_dustOf : ByteArray := prog_9_method_66_code
def yX7_dustOf : MethodName := ⟨RX7, "dustOf", "(I)I"⟩
abbrev cX7_grams : ByteArray := prog_9_method_67_code
def yX7_grams : MethodName := ⟨RX7, "grams", "(II)I"⟩
abbrev cX7_lacks : ByteArray := prog_9_method_68_code
def yX7_lacks : MethodName := ⟨RX7, "lacks", "(III)I"⟩
abbrev cX7_isSo : ByteArray := prog_9_method_69_code
def yX7_isSo : MethodName := ⟨RX7, "isSo", "(III)Z"⟩
abbrev cX7_fits : ByteArray := prog_9_method_70_code
def yX7_fits : MethodName := ⟨RX7, "fits", "(IIIIII)I"⟩
abbrev cX7_who : ByteArray := prog_9_method_71_code
def yX7_who : MethodName := ⟨RX7, "who", "(IIIIII)I"⟩
abbrev cX7_paste : ByteArray := prog_9_method_72_code
def yX7_paste : MethodName := ⟨RX7, "paste", "(IIIII)I"⟩
abbrev cX7_hungers : ByteArray := prog_9_method_73_code
def yX7_hungers : MethodName := ⟨RX7, "hungers", "(IIII)I"⟩
abbrev cX7_dark : ByteArray := prog_9_method_74_code
def yX7_dark : MethodName := ⟨RX7, "dark", "(IIII)J"⟩
abbrev cX7_drawn : ByteArray := prog_9_method_75_code
def yX7_drawn : MethodName := ⟨RX7, "drawn", "(III)I"⟩
abbrev cX7_image : ByteArray := prog_9_method_76_code
def yX7_image : MethodName := ⟨RX7, "image", "(I)I"⟩
abbrev cX7_restore : ByteArray := prog_9_method_77_code
def yX7_restore : MethodName := ⟨RX7, "restore", "(I)I"⟩
abbrev cX7_kind : ByteArray := prog_9_method_78_code
def yX7_kind : MethodName := ⟨RX7, "kind", "(I)I"⟩
abbrev cX7_isKind : ByteArray := prog_9_method_79_code
def yX7_isKind : MethodName := ⟨RX7, "isKind", "(II)Z"⟩
abbrev cX7_as : ByteArray := prog_9_method_80_code
def yX7_as : MethodName := ⟨RX7, "as", "(II)I"⟩
abbrev cX7_begin : ByteArray := prog_9_method_81_code
def yX7_begin : MethodName := ⟨RX7, "begin", "(I)V"⟩
abbrev cX7_lent : ByteArray := prog_9_method_82_code
def yX7_lent : MethodName := ⟨RX7, "lent", "(II)I"⟩
abbrev cX7_readerMark : ByteArray := prog_9_method_83_code
def yX7_readerMark : MethodName := ⟨RX7, "readerMark", "(I)I"⟩
abbrev cX7_wandererSize : ByteArray := prog_9_method_84_code
def yX7_wandererSize : MethodName := ⟨RX7, "wandererSize", "(I)I"⟩
abbrev cX7_sizeOfWanderer : ByteArray := prog_9_method_85_code
def yX7_sizeOfWanderer : MethodName := ⟨RX7, "sizeOfWanderer", "(I)I"⟩
abbrev cX7_markOf : ByteArray := prog_9_method_86_code
def yX7_markOf : MethodName := ⟨RX7, "markOf", "(I)I"⟩
abbrev cX7_readerSize : ByteArray := prog_9_method_87_code
def yX7_readerSize : MethodName := ⟨RX7, "readerSize", "(I)I"⟩
abbrev cX7_sizeOf : ByteArray := prog_9_method_88_code
def yX7_sizeOf : MethodName := ⟨RX7, "sizeOf", "(I)I"⟩
abbrev cX7_ask : ByteArray := prog_9_method_89_code
def yX7_ask : MethodName := ⟨RX7, "ask", "(II)I"⟩
abbrev cX7_trace : ByteArray := prog_9_method_90_code
def yX7_trace : MethodName := ⟨RX7, "trace", "(I)I"⟩
abbrev cX7_count : ByteArray := prog_9_method_91_code
def yX7_count : MethodName := ⟨RX7, "count", "(I)I"⟩
abbrev cX7_status : ByteArray := prog_9_method_92_code
def yX7_status : MethodName := ⟨RX7, "status", "()I"⟩
def RJ6 : String := "java/lang/Integer"
def TJ6 : u_T := fun k => match k with
  | _ => ("", "", "", false)
def tyJ6 : Nat → FieldType := fun k => match k with
  | _ => .int
theorem tyJ6_ok : ∀ k, k < 0 → parseFieldDescriptor (TJ6 k).2.2.1 = some (tyJ6 k) := by decide +kernel
abbrev cJ6_bitCount_0f7a4 : ByteArray := prog_10_method_49_code
def yJ6_bitCount_0f7a4 : MethodName := ⟨RJ6, "bitCount", "(I)I"⟩
def RJ9 : String := "java/lang/Math"
def TJ9 : u_T := fun k => match k with
  | _ => ("", "", "", false)
def tyJ9 : Nat → FieldType := fun k => match k with
  | _ => .int
theorem tyJ9_ok : ∀ k, k < 0 → parseFieldDescriptor (TJ9 k).2.2.1 = some (tyJ9 k) := by decide +kernel
abbrev cJ9_abs_0f7a4 : ByteArray := prog_11_method_59_code
def yJ9_abs_0f7a4 : MethodName := ⟨RJ9, "abs", "(I)I"⟩
abbrev cJ9_min_7cf53 : ByteArray := prog_11_method_69_code
def yJ9_min_7cf53 : MethodName := ⟨RJ9, "min", "(II)I"⟩
def RJ10 : String := "java/lang/System"
def TJ10 : u_T := fun k => match k with
  | _ => ("", "", "", false)
def tyJ10 : Nat → FieldType := fun k => match k with
  | _ => .int
theorem tyJ10_ok : ∀ k, k < 0 → parseFieldDescriptor (TJ10 k).2.2.1 = some (tyJ10 k) := by decide +kernel
def RL : String := "FishReadersLaw"
abbrev cL_law : ByteArray := code
def yL_law : MethodName := ⟨RL, "law", "([I)Z"⟩
abbrev vwCl : List vw_C := [(RX0, TX0, 3), (RX1, TX1, 6), (RX2, TX2, 3), (RX3, TX3, 16), (RX4, TX4, 5), (RX5, TX5, 5), (RX6, TX6, 10), (RX7, TX7, 26)]
end
section
/-! THE LAYER: the whole world as one function, and a judgement that hides the machine -/
abbrev Sg : Type := Nat → Nat → Int32 → Int32
abbrev Gw : Type := va_G × (ClassId × ClassId × ClassId) × (Nat → Nat → Nat) × Nat
def ad (G : Gw) (c k : Nat) : Nat := G.2.2.1 c k
def bkA (G : Gw) : Nat := G.2.2.2
def ofF (f : Int32 → Int32) (j : Nat) : Int32 := if j < 2147483648 then f (nI j) else 0
def iarr (G : Gw) (n : Nat) (f : Int32 → Int32) : va_E := .inl (G.2.1.1, n, .inl (ofF f))
def zarr (G : Gw) (n : Nat) (f : Int32 → Int32) : va_E := .inl (G.2.1.2.1, n, .inl (ofF f))
def larr (G : Gw) (n c : Nat) : va_E := .inl (G.2.1.2.2, n, .inr (.inr (.inr (.inr (fun j => some (ad G (c + j) 0))))))
def isLib (c : Nat) : Prop := 6 ≤ c ∧ c < 35
def celL (G : Gw) (c k : Nat) (f : Int32 → Int32) : va_E := match k with
  | 0 => .inr (3, [.int (f 0), .int (f 1), .int (f 2), .int (f 3), .int (f 4), .int (f 5), .int (f 6), .int (f 7), .ref (ad G c 1), .ref (ad G c 2), .ref (ad G c 3), .ref (ad G c 4), .ref (ad G c 5), .ref (ad G c 6), .ref (ad G c 7), .ref (ad G c 8)])
  | 1 => iarr G 6 f
  | 2 => iarr G 6 f
  | 3 => iarr G 6 f
  | 4 => iarr G 6 f
  | _ => iarr G 5 f
def celM (G : Gw) (k : Nat) (f : Int32 → Int32) : va_E := match k with
  | 0 => .inr (7, [.ref (ad G 40 1), .ref (ad G 40 2), .ref (ad G 40 3), .int (f 3), .int (f 4), .ref (ad G 40 4), .ref (ad G 40 5), .ref (ad G 40 6), .int (f 8), .int (f 9), .int (f 10), .int (f 11), .int (f 12), .int (f 13), .int (f 14), .ref (ad G 40 7), .ref (ad G 40 8), .ref (ad G 40 9), .int (f 18), .ref (ad G 40 10), .ref (ad G 40 11), .ref (ad G 40 12), .ref (ad G 40 13), .ref (ad G 40 14), .ref (ad G 40 15), .int (f 25)])
  | 1 => iarr G 8 f
  | 2 => iarr G 8 f
  | 3 => iarr G 320 f
  | 4 => iarr G 41 f
  | 5 => iarr G 40 f
  | 6 => iarr G 120 f
  | 7 => iarr G 41 f
  | 8 => iarr G 5 f
  | 9 => iarr G 984 f
  | 10 => iarr G 41 f
  | 11 => iarr G 6 f
  | 12 => iarr G 6 f
  | 13 => zarr G 2 f
  | 14 => iarr G 82 f
  | 15 => iarr G 16 f
  | _ => iarr G 0 f
def cel (G : Gw) (c k : Nat) (f : Int32 → Int32) : va_E := match c with
  | 0 => .inr (6, [.ref (ad G 1 0), .ref (ad G 2 0), .ref (ad G 6 0), .ref (ad G 7 0), .ref (ad G 8 0), .ref (ad G 9 0), .ref (ad G 3 0), .ref (ad G 5 0), .ref (ad G 4 0), .int (f 9)])
  | 1 => match k with
    | 0 => .inr (4, [.ref (ad G 1 1), .ref (ad G 1 2), .ref (ad G 1 3), .int (f 3), .int (f 4)])
    | 1 => iarr G 8 f
    | 2 => iarr G 8 f
    | _ => iarr G 320 f
  | 2 => match k with
    | 0 => .inr (5, [.ref (ad G 2 1), .int (f 1), .int (f 2), .int (f 3), .int (f 4)])
    | _ => iarr G 120 f
  | 3 => match k with
    | 0 => .inr (0, [.ref (ad G 3 1), .int (f 1), .int (f 2)])
    | _ => larr G 24 11
  | 4 => match k with
    | 0 => .inr (1, [.ref (ad G 4 1), .int (f 1), .int (f 2), .int (f 3), .int (f 4), .int (f 5)])
    | _ => iarr G 16 f
  | 5 => match k with
    | 0 => .inr (2, [.ref (ad G 10 0), .ref (ad G 5 1), .ref (ad G 5 2)])
    | _ => iarr G 6 f
  | c + 6 => if c < 29 then celL G (c + 6) k f else celM G k f
def vld (c k : Nat) : Bool := match c with
  | 0 => k == 0
  | 1 => decide (k < 4)
  | 2 => decide (k < 2)
  | 3 => decide (k < 2)
  | 4 => decide (k < 2)
  | 5 => decide (k < 3)
  | c + 6 => if c < 29 then decide (k < 9) else decide (c + 6 = 40) && decide (k < 16)
def prs : List (Nat × Nat) := (List.range 41).flatMap fun c => ((List.range 16).filter fun k => vld c k).map fun k => (c, k)
theorem prs_mem {c k : Nat} (h : vld c k = true) : (c, k) ∈ prs := by
  have hb : c < 41 ∧ k < 16 := by
    unfold vld at h
    split at h <;> (try simp at h) <;> try omega
    split at h <;> (try simp at h) <;> omega
  simp only [prs, List.mem_flatMap, List.mem_range, List.mem_map, List.mem_filter]
  exact ⟨c, hb.1, k, ⟨hb.2, h⟩, rfl⟩
theorem prs_vld {c k : Nat} (h : (c, k) ∈ prs) : vld c k = true := by
  simp only [prs, List.mem_flatMap, List.mem_range, List.mem_map, List.mem_filter] at h
  obtain ⟨a, -, b, ⟨-, h⟩, e⟩ := h
  cases e
  exact h
theorem prs_nodup : prs.Nodup := by decide +kernel
def wl (G : Gw) (σ : Sg) : va_W := prs.map fun q => (ad G q.1 q.2, cel G q.1 q.2 (σ q.1 q.2))
def Wd (G : Gw) (σ : Sg) (H : Heap) : Prop := va_P G.1 vwCl (wl G σ) H
def Ginj (G : Gw) : Prop := ∀ c k c' k', vld c k = true → vld c' k' = true → ad G c k = ad G c' k' → c = c' ∧ k = k'
def AA (G : Gw) : Nat → Prop := fun q => ∃ c k, vld c k = true ∧ q = ad G c k
abbrev gtys (G : Gw) : List (ClassId × FieldType) := [(G.2.1.1, .int), (G.2.1.2.1, .boolean), (G.2.1.2.2, .object RX3)]
def bkf (j : Nat) : Value := match j with
  | 0 => .int (-1000000)
  | 1 => .int 0
  | 2 => .int 1
  | 3 => .int 1
  | 4 => .int 0
  | _ => .int 4
/-- what does not change: classes, addresses, the static array -/
def Wk (G : Gw) (U : State) : Prop := Ginj G ∧ va_K G.1 vwCl (gtys G) U ∧ va_Z RX6 "BROADER_KIND" "[I" (.ref (bkA G)) (AA G) U U.heap ∧ va_T .int (bkA G) 6 bkf (AA G) U U.heap ∧
  va_Nw (.methodLinkNest RX2 123 yX6_power RX6) U ∧ va_Nw (.methodLinkNest RX1 32 yX6_isKind RX6) U ∧ va_Nw (.fieldLinkNest RX6 244 RX2 "best" "[I" RX6) U
theorem Wk.next {G : Gw} {U V : State} (h : Wk G U) (hvm : U.vm.Alike V.vm) (hw : U.WarmedH V.vm) (hq : ∀ a : Nat, a < U.heap.size → ¬ AA G a → V.heap[a]? = U.heap[a]?) : Wk G V :=
  ⟨h.1, h.2.1.moved hvm, (h.2.2.1.moved hvm).kept hq, (h.2.2.2.1.moved hvm).kept hq, va_Nw.warmM hw h.2.2.2.2.1, va_Nw.warmM hw h.2.2.2.2.2.1, va_Nw.warmF hw h.2.2.2.2.2.2⟩
theorem prs_inj {i j : Nat} {q : Nat × Nat} (hi : prs[i]? = some q) (hj : prs[j]? = some q) : i = j := List.getElem?_inj (List.getElem?_eq_some_iff.mp hi).1 prs_nodup |>.mp (hi.trans hj.symm)
theorem wl_at {G : Gw} {σ : Sg} {c k : Nat} (h : vld c k = true) : ∃ i : Nat, prs[i]? = some (c, k) ∧ (wl G σ)[i]? = some (ad G c k, cel G c k (σ c k)) := by
  obtain ⟨i, hi⟩ := List.getElem?_of_mem (prs_mem h)
  exact ⟨i, hi, by simp [wl, hi]⟩
theorem wl_D {G : Gw} (hG : Ginj G) (σ : Sg) : va_D (AA G) (wl G σ) := by
  refine ⟨fun i j p q hp hq h => ?_, fun k q hk => ?_⟩
  · simp only [wl, List.getElem?_map, Option.map_eq_some_iff] at hp hq
    obtain ⟨a, ha, rfl⟩ := hp
    obtain ⟨b, hb, rfl⟩ := hq
    have := hG a.1 a.2 b.1 b.2 (prs_vld (List.mem_of_getElem? ha)) (prs_vld (List.mem_of_getElem? hb)) h
    have hab : a = b := Prod.ext this.1 this.2
    subst hab
    exact prs_inj ha hb
  · simp only [wl, List.getElem?_map, Option.map_eq_some_iff] at hk
    obtain ⟨a, ha, rfl⟩ := hk
    exact ⟨a.1, a.2, prs_vld (List.mem_of_getElem? ha), rfl⟩
def up (σ : Sg) (c k : Nat) (f : Int32 → Int32) : Sg := fun a b => if a = c ∧ b = k then f else σ a b
def upI (f : Int32 → Int32) (i v : Int32) : Int32 → Int32 := fun j => if j = i then v else f j
theorem up_same (σ : Sg) (c k : Nat) (f : Int32 → Int32) : up σ c k f c k = f := by simp [up]
theorem up_ne (σ : Sg) {c k a b : Nat} (f : Int32 → Int32) (h : ¬ (a = c ∧ b = k)) : up σ c k f a b = σ a b := by simp [up, h]
theorem up_up (σ : Sg) (c k : Nat) (f g : Int32 → Int32) : up (up σ c k f) c k g = up σ c k g := by
  funext a b
  simp only [up]
  split <;> rfl
theorem upI_same (f : Int32 → Int32) (i v : Int32) : upI f i v i = v := by simp [upI]
theorem upI_ne (f : Int32 → Int32) {i j : Int32} (v : Int32) (h : j ≠ i) : upI f i v j = f j := by simp [upI, h]
theorem wl_set {G : Gw} {σ : Sg} {c k i : Nat} {f : Int32 → Int32} (hi : prs[i]? = some (c, k)) : (wl G σ).set i (ad G c k, cel G c k f) = wl G (up σ c k f) := by
  apply List.ext_getElem?
  intro j
  simp only [wl, List.getElem?_set, List.getElem?_map, List.length_map]
  by_cases h : i = j
  · subst h
    have hl := (List.getElem?_eq_some_iff.mp hi).1
    simp only [hi, hl, if_true, Option.map_some, up_same]
  · simp only [h, if_false]
    cases hj : prs[j]? with
    | none => rfl
    | some q =>
      simp only [Option.map_some]
      rw [up_ne]
      rintro ⟨h1, h2⟩
      apply h
      have e : q = (c, k) := Prod.ext h1 h2
      subst e
      exact prs_inj hi hj
/-! locals -/
def enL : Nat → List (Option Value) → List (Nat × Value)
  | _, [] => []
  | k, none :: r => enL (k + 1) r
  | k, some v :: r => (k, v) :: enL (k + 1) r
theorem enL_mem : ∀ (L : List (Option Value)) (k : Nat) (q : Nat × Value), q ∈ enL k L ↔ ∃ i, q.1 = k + i ∧ L[i]? = some (some q.2)
  | [], k, q => by simp [enL]
  | none :: r, k, q => by
    rw [enL, enL_mem r (k + 1) q]
    constructor
    · rintro ⟨i, h1, h2⟩
      exact ⟨i + 1, by omega, by simpa using h2⟩
    · rintro ⟨i, h1, h2⟩
      cases i with
      | zero => simp at h2
      | succ i => exact ⟨i, by omega, by simpa using h2⟩
  | some v :: r, k, q => by
    rw [enL, List.mem_cons, enL_mem r (k + 1) q]
    constructor
    · rintro (h | ⟨i, h1, h2⟩)
      · subst h
        exact ⟨0, rfl, rfl⟩
      · exact ⟨i + 1, by omega, by simpa using h2⟩
    · rintro ⟨i, h1, h2⟩
      cases i with
      | zero =>
        left
        simp at h2
        exact Prod.ext h1 h2.symm
      | succ i => exact Or.inr ⟨i, by omega, by simpa using h2⟩
def lx (ls : Array Slot) (L : List (Option Value)) : Prop := ls.size = L.length ∧ lv_wf ls ∧ ∀ (i : Nat) (v : Value), L[i]? = some (some v) → ls[i]? = some (.val v)
theorem lx.has {ls : Array Slot} {L : List (Option Value)} (h : lx ls L) : lv_has ls L.length (enL 0 L) := by
  refine ⟨h.1, h.2.1, fun q hq => ?_⟩
  obtain ⟨i, h1, h2⟩ := (enL_mem L 0 q).mp hq
  rw [show q.1 = i by omega]
  exact h.2.2 i _ h2
theorem lx.of {ls : Array Slot} {n : Nat} {lv : List (Nat × Value)} {L : List (Option Value)} (h : lv_has ls n lv) (hn : L.length = n) (hm : ∀ (i : Nat) (v : Value), L[i]? = some (some v) → (i, v) ∈ lv) : lx ls L :=
  ⟨h.1.trans hn.symm, h.2.1, fun i v hi => h.2.2 (i, v) (hm i v hi)⟩
theorem lx.sub {ls : Array Slot} {L L' : List (Option Value)} (h : lx ls L) (hn : L'.length = L.length) (hm : ∀ (i : Nat) (v : Value), L'[i]? = some (some v) → L[i]? = some (some v)) : lx ls L' :=
  ⟨h.1.trans hn.symm, h.2.1, fun i v hi => h.2.2 i v (hm i v hi)⟩
def noLong (o : Option Value) : Prop := match o with
  | some v => v.category = 1
  | none => True
def okPrev (L : List (Option Value)) (i : Nat) : Prop := match i with
  | 0 => True
  | i + 1 => ∀ o, L[i]? = some o → noLong o
theorem lx_st1 {L : List (Option Value)} {i : Nat} {v : Value} {lv' : List (Nat × Value)} (hp : okPrev L i) (hl : (i, v) :: (enL 0 L).filter (fun q => !(q.1 == i) && !(q.1 + 1 == i && q.2.category == 2)) = lv') {ls : Array Slot} (h : lv_has ls L.length lv') : lx ls (L.set i (some v)) := by
  refine lx.of h (by simp) (fun j w hj => ?_)
  subst hl
  rw [List.getElem?_set] at hj
  by_cases hij : i = j
  · subst hij
    simp only [if_true] at hj
    split at hj
    · cases hj
      exact List.mem_cons_self
    · cases hj
  · rw [if_neg hij] at hj
    refine List.mem_cons_of_mem _ (List.mem_filter.mpr ⟨(enL_mem L 0 _).mpr ⟨j, by simp, hj⟩, ?_⟩)
    have h1 : (j == i) = false := by simpa using fun e => hij e.symm
    have h2 : (j + 1 == i && w.category == 2) = false := by
      by_cases e : j + 1 = i
      · subst e
        have := hp _ hj
        simp only [noLong] at this
        simp [this]
      · simp [e]
    simp [h1, h2]
theorem lx_st2 {L : List (Option Value)} {i : Nat} {v : Value} {lv' : List (Nat × Value)} (hp : okPrev L i) (hl : (i, v) :: (enL 0 L).filter (fun q => !(q.1 == i) && (!(q.1 == i + 1) && !(q.1 + 1 == i && q.2.category == 2))) = lv') {ls : Array Slot} (h : lv_has ls L.length lv') : lx ls ((L.set i (some v)).set (i + 1) none) := by
  refine lx.of h (by simp) (fun j w hj => ?_)
  subst hl
  rw [List.getElem?_set, List.getElem?_set] at hj
  by_cases hij1 : i + 1 = j
  · subst hij1
    simp at hj
  · rw [if_neg hij1] at hj
    by_cases hij : i = j
    · subst hij
      simp only [if_true] at hj
      split at hj
      · cases hj
        exact List.mem_cons_self
      · cases hj
    · rw [if_neg hij] at hj
      refine List.mem_cons_of_mem _ (List.mem_filter.mpr ⟨(enL_mem L 0 _).mpr ⟨j, by simp, hj⟩, ?_⟩)
      have h1 : (j == i) = false := by simpa using fun e => hij e.symm
      have h0 : (j == i + 1) = false := by simpa using fun e => hij1 e.symm
      have h2 : (j + 1 == i && w.category == 2) = false := by
        by_cases e : j + 1 = i
        · subst e
          have := hp _ hj
          simp only [noLong] at this
          simp [this]
        · simp [e]
      simp [h1, h2, h0]
/-! the judgement -/
def tws : List Cond := lw_tbl.filter goodWord
theorem tws_of {w : Cond} (h : w ∈ lw_tbl) (hg : goodWord w = true) : w ∈ tws := List.mem_filter.mpr ⟨h, hg⟩
def Qv (G : Gw) (post : Option Value → Sg → Prop) : Array Value → State → Outcome → State → Prop := fun _ st oc t => (∃ (v : Option Value) (σ' : Sg), oc = .returned v ∧ post v σ' ∧ Wd G σ' t.heap) ∧ va_F (AA G) st t
def Mt (l : Launch) (G : Gw) (y : MethodName) (cc : ByteArray) (nL : Nat) (ret : Option FieldType) (fr lo : Nat) (av : List Value) (σ : Sg) (post : Option Value → Sg → Prop) : Prop :=
  Met l y (.code y cc nL ret :: tws) { frames := fr, cells := 0, slots := 0, locals := lo } (va_Pc av (fun U => Wd G σ U.heap ∧ Wk G U)) (Qv G post) 0 0 (AA G)
def retI (ret : Option FieldType) (cc : ByteArray) (pc : Nat) (v : Option Value) : Prop :=
  (ret = some .int ∧ decode cc pc = .ok (.ireturn, 1) ∧ ∃ x, v = some (.int x)) ∨ (ret = some .boolean ∧ decode cc pc = .ok (.ireturn, 1) ∧ (v = some (.int 0) ∨ v = some (.int 1))) ∨ (ret = none ∧ decode cc pc = .ok (.return_, 1) ∧ v = none) ∨
  (ret = some .long ∧ decode cc pc = .ok (.lreturn, 1) ∧ ∃ x, v = some (.long x)) ∨ (ret = some (.object RX3) ∧ decode cc pc = .ok (.areturn, 1) ∧ (v = some .null ∨ ∃ a, v = some (.ref a)))
abbrev Ph : Type := Nat → List (Option Value) → List Value → Sg → Prop
def Mach (l : Launch) (G : Gw) (own : String) (cc : ByteArray) (nL : Nat) (ret : Option FieldType) (fr lo : Nat) (post : Option Value → Sg → Prop) (Φ : Ph) : Prop :=
  ∃ (p : Program) (e : Env) (R : Room) (s : State) (m : MethodId) (args : Array Value) (below : List Frame) (meth : Method) (c : Code) (cells slots : Nat) (Q : State → Prop),
    (p.tables.exec = Jvm.exec ∧ c.code = cc ∧ c.maxLocals = nL ∧ s.vm.findClass own = some m.cls ∧ ∀ w ∈ tws, w.before args s = true) ∧ Wk G s ∧ (fr ≤ R.frames ∧ lo ≤ R.locals ∧ cells ≤ R.cells ∧ slots ≤ R.slots) ∧
    (∀ (pc : Nat) (v : Option Value) (σ : Sg), retI ret cc pc v → post v σ → ∀ (H : Heap) (locs : List Loc) (ls : Array Slot), Wd G σ H → va_S (AA G) s.heap H locs → W p l e R s m args below meth c H locs cells slots Q (F0 m pc ls v.toList)) ∧
    Φ = fun pc L st σ => L.length = nL → ∀ (H : Heap) (locs : List Loc) (ls : Array Slot), Wd G σ H → va_S (AA G) s.heap H locs → lx ls L → W p l e R s m args below meth c H locs cells slots Q (F0 m pc ls st)
end
section
section Rows
variable {l : Launch} {G : Gw} {own : String} {cc : ByteArray} {nL fr lo : Nat} {ret : Option FieldType} {post : Option Value → Sg → Prop} {Φ : Ph} {pc : Nat} {L : List (Option Value)} {st : List Value} {σ : Sg}
theorem j_iconst (M : Mach l G own cc nL ret fr lo post Φ) {n : Int} {v : Int32} (d : decode cc pc = .ok (.iconst n, 1)) (hv : Int32.ofInt n = v) (k : Φ (pc + 1) L (.int v :: st) σ) : Φ pc L (st) σ := by
  obtain ⟨p, e, R, s, m, args, below, meth, c, cells, slots, Q, ⟨hx, hb, hml, hown, hts⟩, hWk, hRm, hRet, rfl⟩ := M
  intro hn H locs ls hW hS hl
  exact lv_iconst hx hb d hv (k hn H locs ls hW hS hl)
theorem j_bipush (M : Mach l G own cc nL ret fr lo post Φ) {n : Int} {v : Int32} (d : decode cc pc = .ok (.bipush n, 2)) (hv : (Int8.ofInt n).toInt32 = v) (k : Φ (pc + 2) L (.int v :: st) σ) : Φ pc L (st) σ := by
  obtain ⟨p, e, R, s, m, args, below, meth, c, cells, slots, Q, ⟨hx, hb, hml, hown, hts⟩, hWk, hRm, hRet, rfl⟩ := M
  intro hn H locs ls hW hS hl
  exact lv_bipush hx hb d hv (k hn H locs ls hW hS hl)
theorem j_sipush (M : Mach l G own cc nL ret fr lo post Φ) {n : Int} {v : Int32} (d : decode cc pc = .ok (.sipush n, 3)) (hv : (Int16.ofInt n).toInt32 = v) (k : Φ (pc + 3) L (.int v :: st) σ) : Φ pc L (st) σ := by
  obtain ⟨p, e, R, s, m, args, below, meth, c, cells, slots, Q, ⟨hx, hb, hml, hown, hts⟩, hWk, hRm, hRet, rfl⟩ := M
  intro hn H locs ls hW hS hl
  exact lv_sipush hx hb d hv (k hn H locs ls hW hS hl)
theorem j_lconst (M : Mach l G own cc nL ret fr lo post Φ) {n : Fin 2} {v : Int64} (d : decode cc pc = .ok (.lconst n, 1)) (hv : Int64.ofNat (n : Nat) = v) (k : Φ (pc + 1) L (.long v :: st) σ) : Φ pc L st σ := by
  obtain ⟨p, e, R, s, m, args, below, meth, c, cells, slots, Q, ⟨hx, hb, hml, hown, hts⟩, hWk, hRm, hRet, rfl⟩ := M
  intro hn H locs ls hW hS hl
  exact lv_lconst hx hb d hv (k hn H locs ls hW hS hl)
theorem tw {s : State} {args : Array Value} (hts : ∀ w ∈ tws, w.before args s = true) {w : Cond} (h : w ∈ tws) : w.before args s = true := hts w h
theorem j_ldc (M : Mach l G own cc nL ret fr lo post Φ) {i : Nat} {v : Int32} (h : .constant own i v ∈ tws) (d : decode cc pc = .ok (.ldc i, 2)) (k : Φ (pc + 2) L (.int v :: st) σ) : Φ pc L st σ := by
  obtain ⟨p, e, R, s, m, args, below, meth, c, cells, slots, Q, ⟨hx, hb, hml, hown, hts⟩, hWk, hRm, hRet, rfl⟩ := M
  intro hn H locs ls hW hS hl
  exact lv_ldc hx hb hown (hts _ h) d (k hn H locs ls hW hS hl)
theorem j_ldcw (M : Mach l G own cc nL ret fr lo post Φ) {i : Nat} {v : Int32} (h : .constant own i v ∈ tws) (d : decode cc pc = .ok (.ldc_w i, 3)) (k : Φ (pc + 3) L (.int v :: st) σ) : Φ pc L st σ := by
  obtain ⟨p, e, R, s, m, args, below, meth, c, cells, slots, Q, ⟨hx, hb, hml, hown, hts⟩, hWk, hRm, hRet, rfl⟩ := M
  intro hn H locs ls hW hS hl
  exact lv_ldcw hx hb hown (hts _ h) d (k hn H locs ls hW hS hl)
theorem j_ldc2 (M : Mach l G own cc nL ret fr lo post Φ) {i : Nat} {v : Int64} (h : .constantLong own i v ∈ tws) (d : decode cc pc = .ok (.ldc2_w i, 3)) (k : Φ (pc + 3) L (.long v :: st) σ) : Φ pc L st σ := by
  obtain ⟨p, e, R, s, m, args, below, meth, c, cells, slots, Q, ⟨hx, hb, hml, hown, hts⟩, hWk, hRm, hRet, rfl⟩ := M
  intro hn H locs ls hW hS hl
  exact lv_ldc2 hx hb hown (hts _ h) d (k hn H locs ls hW hS hl)
theorem j_iload_n (M : Mach l G own cc nL ret fr lo post Φ) {k : Fin 4} {x : Int32} (d : decode cc pc = .ok (.iload_n k, 1)) (hL : L[(k : Nat)]? = some (some (.int x))) (k : Φ (pc + 1) L (.int x :: st) σ) : Φ pc L st σ := by
  obtain ⟨p, e, R, s, m, args, below, meth, c, cells, slots, Q, ⟨hx, hb, hml, hown, hts⟩, hWk, hRm, hRet, rfl⟩ := M
  intro hn H locs ls hW hS hl
  exact lv_iload_n hx hb d rfl (hl.2.2 _ _ hL) (k hn H locs ls hW hS hl)
theorem j_iload (M : Mach l G own cc nL ret fr lo post Φ) {i : Nat} {x : Int32} (d : decode cc pc = .ok (.iload i, 2)) (hL : L[i]? = some (some (.int x))) (k : Φ (pc + 2) L (.int x :: st) σ) : Φ pc L st σ := by
  obtain ⟨p, e, R, s, m, args, below, meth, c, cells, slots, Q, ⟨hx, hb, hml, hown, hts⟩, hWk, hRm, hRet, rfl⟩ := M
  intro hn H locs ls hW hS hl
  exact lv_iload hx hb d (hl.2.2 _ _ hL) (k hn H locs ls hW hS hl)
theorem j_istore_n0 (M : Mach l G own cc nL ret fr lo post Φ) {k : Fin 4} {x : Int32} (d : decode cc pc = .ok (.istore_n k, 1)) (hi : (k : Nat) < L.length) (hp : okPrev L k) (k : Φ (pc + 1) (L.set k (some (.int x))) st σ) : Φ pc L (.int x :: st) σ := by
  obtain ⟨p, e, R, s, m, args, below, meth, c, cells, slots, Q, ⟨hx, hb, hml, hown, hts⟩, hWk, hRm, hRet, rfl⟩ := M
  intro hn H locs ls hW hS hl
  refine lv_istore_n hx hb d rfl hl.has hi rfl (fun ls1 h1 => k (by simpa using hn) H locs ls1 hW hS (lx_st1 hp rfl h1))
theorem j_istore0 (M : Mach l G own cc nL ret fr lo post Φ) {i : Nat} {x : Int32} (d : decode cc pc = .ok (.istore i, 2)) (hi : i < L.length) (hp : okPrev L i) (k : Φ (pc + 2) (L.set i (some (.int x))) st σ) : Φ pc L (.int x :: st) σ := by
  obtain ⟨p, e, R, s, m, args, below, meth, c, cells, slots, Q, ⟨hx, hb, hml, hown, hts⟩, hWk, hRm, hRet, rfl⟩ := M
  intro hn H locs ls hW hS hl
  refine lv_istore hx hb d  hl.has hi rfl (fun ls1 h1 => k (by simpa using hn) H locs ls1 hW hS (lx_st1 hp rfl h1))
theorem j_lload_n (M : Mach l G own cc nL ret fr lo post Φ) {k : Fin 4} {x : Int64} (d : decode cc pc = .ok (.lload_n k, 1)) (hL : L[(k : Nat)]? = some (some (.long x))) (k : Φ (pc + 1) L (.long x :: st) σ) : Φ pc L st σ := by
  obtain ⟨p, e, R, s, m, args, below, meth, c, cells, slots, Q, ⟨hx, hb, hml, hown, hts⟩, hWk, hRm, hRet, rfl⟩ := M
  intro hn H locs ls hW hS hl
  exact lv_lload_n hx hb d rfl (hl.2.2 _ _ hL) (k hn H locs ls hW hS hl)
theorem j_lload (M : Mach l G own cc nL ret fr lo post Φ) {i : Nat} {x : Int64} (d : decode cc pc = .ok (.lload i, 2)) (hL : L[i]? = some (some (.long x))) (k : Φ (pc + 2) L (.long x :: st) σ) : Φ pc L st σ := by
  obtain ⟨p, e, R, s, m, args, below, meth, c, cells, slots, Q, ⟨hx, hb, hml, hown, hts⟩, hWk, hRm, hRet, rfl⟩ := M
  intro hn H locs ls hW hS hl
  exact lv_lload hx hb d (hl.2.2 _ _ hL) (k hn H locs ls hW hS hl)
theorem j_lstore_n0 (M : Mach l G own cc nL ret fr lo post Φ) {k : Fin 4} {x : Int64} (d : decode cc pc = .ok (.lstore_n k, 1)) (hi : (k : Nat) + 1 < L.length) (hp : okPrev L k) (k : Φ (pc + 1) ((L.set k (some (.long x))).set (k + 1) none) st σ) : Φ pc L (.long x :: st) σ := by
  obtain ⟨p, e, R, s, m, args, below, meth, c, cells, slots, Q, ⟨hx, hb, hml, hown, hts⟩, hWk, hRm, hRet, rfl⟩ := M
  intro hn H locs ls hW hS hl
  refine lv_lstore_n hx hb d rfl hl.has hi rfl (fun ls1 h1 => k (by simpa using hn) H locs ls1 hW hS (lx_st2 hp rfl h1))
theorem j_lstore0 (M : Mach l G own cc nL ret fr lo post Φ) {i : Nat} {x : Int64} (d : decode cc pc = .ok (.lstore i, 2)) (hi : i + 1 < L.length) (hp : okPrev L i) (k : Φ (pc + 2) ((L.set i (some (.long x))).set (i + 1) none) st σ) : Φ pc L (.long x :: st) σ := by
  obtain ⟨p, e, R, s, m, args, below, meth, c, cells, slots, Q, ⟨hx, hb, hml, hown, hts⟩, hWk, hRm, hRet, rfl⟩ := M
  intro hn H locs ls hW hS hl
  refine lv_lstore hx hb d  hl.has hi rfl (fun ls1 h1 => k (by simpa using hn) H locs ls1 hW hS (lx_st2 hp rfl h1))
theorem j_aload_n (M : Mach l G own cc nL ret fr lo post Φ) {k : Fin 4} {x : Nat} (d : decode cc pc = .ok (.aload_n k, 1)) (hL : L[(k : Nat)]? = some (some (.ref x))) (k : Φ (pc + 1) L (.ref x :: st) σ) : Φ pc L st σ := by
  obtain ⟨p, e, R, s, m, args, below, meth, c, cells, slots, Q, ⟨hx, hb, hml, hown, hts⟩, hWk, hRm, hRet, rfl⟩ := M
  intro hn H locs ls hW hS hl
  exact lv_aload_n hx hb d rfl (hl.2.2 _ _ hL) (k hn H locs ls hW hS hl)
theorem j_aload (M : Mach l G own cc nL ret fr lo post Φ) {i : Nat} {x : Nat} (d : decode cc pc = .ok (.aload i, 2)) (hL : L[i]? = some (some (.ref x))) (k : Φ (pc + 2) L (.ref x :: st) σ) : Φ pc L st σ := by
  obtain ⟨p, e, R, s, m, args, below, meth, c, cells, slots, Q, ⟨hx, hb, hml, hown, hts⟩, hWk, hRm, hRet, rfl⟩ := M
  intro hn H locs ls hW hS hl
  exact lv_aload hx hb d (hl.2.2 _ _ hL) (k hn H locs ls hW hS hl)
theorem j_astore_n0 (M : Mach l G own cc nL ret fr lo post Φ) {k : Fin 4} {x : Nat} (d : decode cc pc = .ok (.astore_n k, 1)) (hi : (k : Nat) < L.length) (hp : okPrev L k) (k : Φ (pc + 1) (L.set k (some (.ref x))) st σ) : Φ pc L (.ref x :: st) σ := by
  obtain ⟨p, e, R, s, m, args, below, meth, c, cells, slots, Q, ⟨hx, hb, hml, hown, hts⟩, hWk, hRm, hRet, rfl⟩ := M
  intro hn H locs ls hW hS hl
  refine lv_astore_n hx hb d rfl hl.has hi rfl (fun ls1 h1 => k (by simpa using hn) H locs ls1 hW hS (lx_st1 hp rfl h1))
theorem j_astore0 (M : Mach l G own cc nL ret fr lo post Φ) {i : Nat} {x : Nat} (d : decode cc pc = .ok (.astore i, 2)) (hi : i < L.length) (hp : okPrev L i) (k : Φ (pc + 2) (L.set i (some (.ref x))) st σ) : Φ pc L (.ref x :: st) σ := by
  obtain ⟨p, e, R, s, m, args, below, meth, c, cells, slots, Q, ⟨hx, hb, hml, hown, hts⟩, hWk, hRm, hRet, rfl⟩ := M
  intro hn H locs ls hW hS hl
  refine lv_astore hx hb d  hl.has hi rfl (fun ls1 h1 => k (by simpa using hn) H locs ls1 hW hS (lx_st1 hp rfl h1))
theorem j_iinc0 (M : Mach l G own cc nL ret fr lo post Φ) {i : Nat} {n : Int} {x v : Int32} (d : decode cc pc = .ok (.iinc i n, 3)) (hL : L[i]? = some (some (.int x))) (hv : x + Int32.ofInt n = v) (hp : okPrev L i) (k : Φ (pc + 3) (L.set i (some (.int v))) st σ) : Φ pc L st σ := by
  obtain ⟨p, e, R, s, m, args, below, meth, c, cells, slots, Q, ⟨hx, hb, hml, hown, hts⟩, hWk, hRm, hRet, rfl⟩ := M
  intro hn H locs ls hW hS hl
  have hi : i < L.length := (List.getElem?_eq_some_iff.mp hL).1
  obtain ⟨j, hj⟩ := List.getElem?_of_mem ((enL_mem L 0 (i, .int x)).mpr ⟨i, by simp, hL⟩)
  exact lv_iinc hx hb d hl.has hj hv hi rfl (fun ls1 h1 => k (by simpa using hn) H locs ls1 hW hS (lx_st1 hp rfl h1))
theorem j_iadd (M : Mach l G own cc nL ret fr lo post Φ) {x y : Int32} (d : decode cc pc = .ok (.iadd, 1))  (k : Φ (pc + 1) L (.int (x + y) :: st) σ) : Φ pc L (.int y :: .int x :: st) σ := by
  obtain ⟨p, e, R, s, m, args, below, meth, c, cells, slots, Q, ⟨hx, hb, hml, hown, hts⟩, hWk, hRm, hRet, rfl⟩ := M
  intro hn H locs ls hW hS hl
  exact lv_iadd hx hb d  (k hn H locs ls hW hS hl)
theorem j_isub (M : Mach l G own cc nL ret fr lo post Φ) {x y : Int32} (d : decode cc pc = .ok (.isub, 1))  (k : Φ (pc + 1) L (.int (x - y) :: st) σ) : Φ pc L (.int y :: .int x :: st) σ := by
  obtain ⟨p, e, R, s, m, args, below, meth, c, cells, slots, Q, ⟨hx, hb, hml, hown, hts⟩, hWk, hRm, hRet, rfl⟩ := M
  intro hn H locs ls hW hS hl
  exact lv_isub hx hb d  (k hn H locs ls hW hS hl)
theorem j_imul (M : Mach l G own cc nL ret fr lo post Φ) {x y : Int32} (d : decode cc pc = .ok (.imul, 1))  (k : Φ (pc + 1) L (.int (x * y) :: st) σ) : Φ pc L (.int y :: .int x :: st) σ := by
  obtain ⟨p, e, R, s, m, args, below, meth, c, cells, slots, Q, ⟨hx, hb, hml, hown, hts⟩, hWk, hRm, hRet, rfl⟩ := M
  intro hn H locs ls hW hS hl
  exact lv_imul hx hb d  (k hn H locs ls hW hS hl)
theorem j_iand (M : Mach l G own cc nL ret fr lo post Φ) {x y : Int32} (d : decode cc pc = .ok (.iand, 1))  (k : Φ (pc + 1) L (.int (x &&& y) :: st) σ) : Φ pc L (.int y :: .int x :: st) σ := by
  obtain ⟨p, e, R, s, m, args, below, meth, c, cells, slots, Q, ⟨hx, hb, hml, hown, hts⟩, hWk, hRm, hRet, rfl⟩ := M
  intro hn H locs ls hW hS hl
  exact lv_iand hx hb d  (k hn H locs ls hW hS hl)
theorem j_ior (M : Mach l G own cc nL ret fr lo post Φ) {x y : Int32} (d : decode cc pc = .ok (.ior, 1))  (k : Φ (pc + 1) L (.int (x ||| y) :: st) σ) : Φ pc L (.int y :: .int x :: st) σ := by
  obtain ⟨p, e, R, s, m, args, below, meth, c, cells, slots, Q, ⟨hx, hb, hml, hown, hts⟩, hWk, hRm, hRet, rfl⟩ := M
  intro hn H locs ls hW hS hl
  exact lv_ior hx hb d  (k hn H locs ls hW hS hl)
theorem j_ixor (M : Mach l G own cc nL ret fr lo post Φ) {x y : Int32} (d : decode cc pc = .ok (.ixor, 1))  (k : Φ (pc + 1) L (.int (x ^^^ y) :: st) σ) : Φ pc L (.int y :: .int x :: st) σ := by
  obtain ⟨p, e, R, s, m, args, below, meth, c, cells, slots, Q, ⟨hx, hb, hml, hown, hts⟩, hWk, hRm, hRet, rfl⟩ := M
  intro hn H locs ls hW hS hl
  exact lv_ixor hx hb d  (k hn H locs ls hW hS hl)
def rem32 (x y : Int32) : Int32 := x - x / y * y
def rem64 (x y : Int64) : Int64 := x - x / y * y
def shl32 (x y : Int32) : Int32 := x <<< (y &&& 31)
def shr32 (x y : Int32) : Int32 := x >>> (y &&& 31)
theorem j_ishl (M : Mach l G own cc nL ret fr lo post Φ) {x y : Int32} (d : decode cc pc = .ok (.ishl, 1))  (k : Φ (pc + 1) L (.int (shl32 x y) :: st) σ) : Φ pc L (.int y :: .int x :: st) σ := by
  obtain ⟨p, e, R, s, m, args, below, meth, c, cells, slots, Q, ⟨hx, hb, hml, hown, hts⟩, hWk, hRm, hRet, rfl⟩ := M
  intro hn H locs ls hW hS hl
  exact lv_ishl hx hb d  (k hn H locs ls hW hS hl)
theorem j_ishr (M : Mach l G own cc nL ret fr lo post Φ) {x y : Int32} (d : decode cc pc = .ok (.ishr, 1))  (k : Φ (pc + 1) L (.int (shr32 x y) :: st) σ) : Φ pc L (.int y :: .int x :: st) σ := by
  obtain ⟨p, e, R, s, m, args, below, meth, c, cells, slots, Q, ⟨hx, hb, hml, hown, hts⟩, hWk, hRm, hRet, rfl⟩ := M
  intro hn H locs ls hW hS hl
  exact lv_ishr hx hb d  (k hn H locs ls hW hS hl)
theorem j_iushr (M : Mach l G own cc nL ret fr lo post Φ) {x y v : Int32} (d : decode cc pc = .ok (.iushr, 1)) (hv : (x.toUInt32 >>> (y.toUInt32 &&& Int32.toUInt32 31)).toInt32 = v) (k : Φ (pc + 1) L (.int v :: st) σ) : Φ pc L (.int y :: .int x :: st) σ := by
  obtain ⟨p, e, R, s, m, args, below, meth, c, cells, slots, Q, ⟨hx, hb, hml, hown, hts⟩, hWk, hRm, hRet, rfl⟩ := M
  intro hn H locs ls hW hS hl
  exact lv_iushr hx hb d hv (k hn H locs ls hW hS hl)
theorem j_idiv (M : Mach l G own cc nL ret fr lo post Φ) {x y : Int32} (d : decode cc pc = .ok (.idiv, 1)) (hy : ¬ y = 0) (k : Φ (pc + 1) L (.int (x / y) :: st) σ) : Φ pc L (.int y :: .int x :: st) σ := by
  obtain ⟨p, e, R, s, m, args, below, meth, c, cells, slots, Q, ⟨hx, hb, hml, hown, hts⟩, hWk, hRm, hRet, rfl⟩ := M
  intro hn H locs ls hW hS hl
  exact lv_idiv hx hb d hy (k hn H locs ls hW hS hl)
theorem j_irem (M : Mach l G own cc nL ret fr lo post Φ) {x y : Int32} (d : decode cc pc = .ok (.irem, 1)) (hy : ¬ y = 0) (k : Φ (pc + 1) L (.int (rem32 x y) :: st) σ) : Φ pc L (.int y :: .int x :: st) σ := by
  obtain ⟨p, e, R, s, m, args, below, meth, c, cells, slots, Q, ⟨hx, hb, hml, hown, hts⟩, hWk, hRm, hRet, rfl⟩ := M
  intro hn H locs ls hW hS hl
  exact lv_irem hx hb d hy (k hn H locs ls hW hS hl)
theorem j_ineg (M : Mach l G own cc nL ret fr lo post Φ) {x : Int32} (d : decode cc pc = .ok (.ineg, 1))  (k : Φ (pc + 1) L (.int (-x) :: st) σ) : Φ pc L (.int x :: st) σ := by
  obtain ⟨p, e, R, s, m, args, below, meth, c, cells, slots, Q, ⟨hx, hb, hml, hown, hts⟩, hWk, hRm, hRet, rfl⟩ := M
  intro hn H locs ls hW hS hl
  exact lv_ineg hx hb d  (k hn H locs ls hW hS hl)
theorem j_ladd (M : Mach l G own cc nL ret fr lo post Φ) {x y : Int64} (d : decode cc pc = .ok (.ladd, 1))  (k : Φ (pc + 1) L (.long (x + y) :: st) σ) : Φ pc L (.long y :: .long x :: st) σ := by
  obtain ⟨p, e, R, s, m, args, below, meth, c, cells, slots, Q, ⟨hx, hb, hml, hown, hts⟩, hWk, hRm, hRet, rfl⟩ := M
  intro hn H locs ls hW hS hl
  exact lv_ladd hx hb d  (k hn H locs ls hW hS hl)
theorem j_lsub (M : Mach l G own cc nL ret fr lo post Φ) {x y : Int64} (d : decode cc pc = .ok (.lsub, 1))  (k : Φ (pc + 1) L (.long (x - y) :: st) σ) : Φ pc L (.long y :: .long x :: st) σ := by
  obtain ⟨p, e, R, s, m, args, below, meth, c, cells, slots, Q, ⟨hx, hb, hml, hown, hts⟩, hWk, hRm, hRet, rfl⟩ := M
  intro hn H locs ls hW hS hl
  exact lv_lsub hx hb d  (k hn H locs ls hW hS hl)
theorem j_lmul (M : Mach l G own cc nL ret fr lo post Φ) {x y : Int64} (d : decode cc pc = .ok (.lmul, 1))  (k : Φ (pc + 1) L (.long (x * y) :: st) σ) : Φ pc L (.long y :: .long x :: st) σ := by
  obtain ⟨p, e, R, s, m, args, below, meth, c, cells, slots, Q, ⟨hx, hb, hml, hown, hts⟩, hWk, hRm, hRet, rfl⟩ := M
  intro hn H locs ls hW hS hl
  exact lv_lmul hx hb d  (k hn H locs ls hW hS hl)
theorem j_ldiv (M : Mach l G own cc nL ret fr lo post Φ) {x y : Int64} (d : decode cc pc = .ok (.ldiv, 1)) (hy : ¬ y = 0) (k : Φ (pc + 1) L (.long (x / y) :: st) σ) : Φ pc L (.long y :: .long x :: st) σ := by
  obtain ⟨p, e, R, s, m, args, below, meth, c, cells, slots, Q, ⟨hx, hb, hml, hown, hts⟩, hWk, hRm, hRet, rfl⟩ := M
  intro hn H locs ls hW hS hl
  exact lv_ldiv hx hb d hy (k hn H locs ls hW hS hl)
theorem j_lrem (M : Mach l G own cc nL ret fr lo post Φ) {x y : Int64} (d : decode cc pc = .ok (.lrem, 1)) (hy : ¬ y = 0) (k : Φ (pc + 1) L (.long (rem64 x y) :: st) σ) : Φ pc L (.long y :: .long x :: st) σ := by
  obtain ⟨p, e, R, s, m, args, below, meth, c, cells, slots, Q, ⟨hx, hb, hml, hown, hts⟩, hWk, hRm, hRet, rfl⟩ := M
  intro hn H locs ls hW hS hl
  exact lv_lrem hx hb d hy (k hn H locs ls hW hS hl)
theorem j_lcmp (M : Mach l G own cc nL ret fr lo post Φ) {x y : Int64} (d : decode cc pc = .ok (.lcmp, 1)) (k : Φ (pc + 1) L (.int (lg_cmp x y) :: st) σ) : Φ pc L (.long y :: .long x :: st) σ := by
  obtain ⟨p, e, R, s, m, args, below, meth, c, cells, slots, Q, ⟨hx, hb, hml, hown, hts⟩, hWk, hRm, hRet, rfl⟩ := M
  intro hn H locs ls hW hS hl
  exact W.lcmp hx hb d (k hn H locs ls hW hS hl)
theorem j_i2l (M : Mach l G own cc nL ret fr lo post Φ) {x : Int32} (d : decode cc pc = .ok (.i2l, 1))  (k : Φ (pc + 1) L (.long x.toInt64 :: st) σ) : Φ pc L (.int x :: st) σ := by
  obtain ⟨p, e, R, s, m, args, below, meth, c, cells, slots, Q, ⟨hx, hb, hml, hown, hts⟩, hWk, hRm, hRet, rfl⟩ := M
  intro hn H locs ls hW hS hl
  exact lv_i2l hx hb d rfl (k hn H locs ls hW hS hl)
theorem j_l2i (M : Mach l G own cc nL ret fr lo post Φ) {x : Int64} (d : decode cc pc = .ok (.l2i, 1))  (k : Φ (pc + 1) L (.int x.toInt32 :: st) σ) : Φ pc L (.long x :: st) σ := by
  obtain ⟨p, e, R, s, m, args, below, meth, c, cells, slots, Q, ⟨hx, hb, hml, hown, hts⟩, hWk, hRm, hRet, rfl⟩ := M
  intro hn H locs ls hW hS hl
  exact lv_l2i hx hb d rfl (k hn H locs ls hW hS hl)
theorem j_i2b (M : Mach l G own cc nL ret fr lo post Φ) {x : Int32} (d : decode cc pc = .ok (.i2b, 1))  (k : Φ (pc + 1) L (.int x.toInt8.toInt32 :: st) σ) : Φ pc L (.int x :: st) σ := by
  obtain ⟨p, e, R, s, m, args, below, meth, c, cells, slots, Q, ⟨hx, hb, hml, hown, hts⟩, hWk, hRm, hRet, rfl⟩ := M
  intro hn H locs ls hW hS hl
  exact lv_i2b hx hb d rfl (k hn H locs ls hW hS hl)
theorem j_i2s (M : Mach l G own cc nL ret fr lo post Φ) {x : Int32} (d : decode cc pc = .ok (.i2s, 1))  (k : Φ (pc + 1) L (.int x.toInt16.toInt32 :: st) σ) : Φ pc L (.int x :: st) σ := by
  obtain ⟨p, e, R, s, m, args, below, meth, c, cells, slots, Q, ⟨hx, hb, hml, hown, hts⟩, hWk, hRm, hRet, rfl⟩ := M
  intro hn H locs ls hW hS hl
  exact lv_i2s hx hb d rfl (k hn H locs ls hW hS hl)
theorem j_dup (M : Mach l G own cc nL ret fr lo post Φ) {v : Value} (d : decode cc pc = .ok (.dup, 1)) (hv : v.category = 1) (k : Φ (pc + 1) L (v :: v :: st) σ) : Φ pc L (v :: st) σ := by
  obtain ⟨p, e, R, s, m, args, below, meth, c, cells, slots, Q, ⟨hx, hb, hml, hown, hts⟩, hWk, hRm, hRet, rfl⟩ := M
  intro hn H locs ls hW hS hl
  exact lv_dup hx hb d hv (k hn H locs ls hW hS hl)
theorem j_pop (M : Mach l G own cc nL ret fr lo post Φ) {v : Value} (d : decode cc pc = .ok (.pop, 1)) (hv : v.category = 1) (k : Φ (pc + 1) L st σ) : Φ pc L (v :: st) σ := by
  obtain ⟨p, e, R, s, m, args, below, meth, c, cells, slots, Q, ⟨hx, hb, hml, hown, hts⟩, hWk, hRm, hRet, rfl⟩ := M
  intro hn H locs ls hW hS hl
  exact lv_pop hx hb d hv (k hn H locs ls hW hS hl)
theorem j_dup2 (M : Mach l G own cc nL ret fr lo post Φ) {v w : Value} (d : decode cc pc = .ok (.dup2, 1)) (hv : v.category = 1) (hw : w.category = 1) (k : Φ (pc + 1) L (v :: w :: v :: w :: st) σ) : Φ pc L (v :: w :: st) σ := by
  obtain ⟨p, e, R, s, m, args, below, meth, c, cells, slots, Q, ⟨hx, hb, hml, hown, hts⟩, hWk, hRm, hRet, rfl⟩ := M
  intro hn H locs ls hW hS hl
  exact lv_dup2_11 hx hb d hv hw (k hn H locs ls hW hS hl)
theorem j_null (M : Mach l G own cc nL ret fr lo post Φ) (d : decode cc pc = .ok (.aconst_null, 1)) (k : Φ (pc + 1) L (.null :: st) σ) : Φ pc L st σ := by
  obtain ⟨p, e, R, s, m, args, below, meth, c, cells, slots, Q, ⟨hx, hb, hml, hown, hts⟩, hWk, hRm, hRet, rfl⟩ := M
  intro hn H locs ls hW hS hl
  exact lv_null hx hb d (k hn H locs ls hW hS hl)
theorem j_if_eq (M : Mach l G own cc nL ret fr lo post Φ) {x : Int32} {off : Int} {tgt : Nat} (d : decode cc pc = .ok (.ifCond .eq off, 3)) (ht : (pc : Int) + off = (tgt : Int)) (kt : x = 0 → Φ tgt L st σ) (kf : ¬ x = 0 → Φ (pc + 3) L st σ) : Φ pc L (.int x :: st) σ := by
  obtain ⟨p, e, R, s, m, args, below, meth, c, cells, slots, Q, ⟨hx, hb, hml, hown, hts⟩, hWk, hRm, hRet, rfl⟩ := M
  intro hn H locs ls hW hS hl
  exact lv_if_eq hx hb d ht (fun h => kt h hn H locs ls hW hS hl) (fun h => kf h hn H locs ls hW hS hl)
theorem j_icmp_eq (M : Mach l G own cc nL ret fr lo post Φ) {x y : Int32} {off : Int} {tgt : Nat} (d : decode cc pc = .ok (.if_icmp .eq off, 3)) (ht : (pc : Int) + off = (tgt : Int)) (kt : x = y → Φ tgt L st σ) (kf : ¬ x = y → Φ (pc + 3) L st σ) : Φ pc L (.int y :: .int x :: st) σ := by
  obtain ⟨p, e, R, s, m, args, below, meth, c, cells, slots, Q, ⟨hx, hb, hml, hown, hts⟩, hWk, hRm, hRet, rfl⟩ := M
  intro hn H locs ls hW hS hl
  exact lv_icmp_eq hx hb d ht (fun h => kt h hn H locs ls hW hS hl) (fun h => kf h hn H locs ls hW hS hl)
theorem j_if_ne (M : Mach l G own cc nL ret fr lo post Φ) {x : Int32} {off : Int} {tgt : Nat} (d : decode cc pc = .ok (.ifCond .ne off, 3)) (ht : (pc : Int) + off = (tgt : Int)) (kt : ¬ x = 0 → Φ tgt L st σ) (kf : x = 0 → Φ (pc + 3) L st σ) : Φ pc L (.int x :: st) σ := by
  obtain ⟨p, e, R, s, m, args, below, meth, c, cells, slots, Q, ⟨hx, hb, hml, hown, hts⟩, hWk, hRm, hRet, rfl⟩ := M
  intro hn H locs ls hW hS hl
  exact lv_if_ne hx hb d ht (fun h => kt h hn H locs ls hW hS hl) (fun h => kf h hn H locs ls hW hS hl)
theorem j_icmp_ne (M : Mach l G own cc nL ret fr lo post Φ) {x y : Int32} {off : Int} {tgt : Nat} (d : decode cc pc = .ok (.if_icmp .ne off, 3)) (ht : (pc : Int) + off = (tgt : Int)) (kt : ¬ x = y → Φ tgt L st σ) (kf : x = y → Φ (pc + 3) L st σ) : Φ pc L (.int y :: .int x :: st) σ := by
  obtain ⟨p, e, R, s, m, args, below, meth, c, cells, slots, Q, ⟨hx, hb, hml, hown, hts⟩, hWk, hRm, hRet, rfl⟩ := M
  intro hn H locs ls hW hS hl
  exact lv_icmp_ne hx hb d ht (fun h => kt h hn H locs ls hW hS hl) (fun h => kf h hn H locs ls hW hS hl)
theorem j_if_lt (M : Mach l G own cc nL ret fr lo post Φ) {x : Int32} {off : Int} {tgt : Nat} (d : decode cc pc = .ok (.ifCond .lt off, 3)) (ht : (pc : Int) + off = (tgt : Int)) (kt : x < 0 → Φ tgt L st σ) (kf : ¬ x < 0 → Φ (pc + 3) L st σ) : Φ pc L (.int x :: st) σ := by
  obtain ⟨p, e, R, s, m, args, below, meth, c, cells, slots, Q, ⟨hx, hb, hml, hown, hts⟩, hWk, hRm, hRet, rfl⟩ := M
  intro hn H locs ls hW hS hl
  exact lv_if_lt hx hb d ht (fun h => kt h hn H locs ls hW hS hl) (fun h => kf h hn H locs ls hW hS hl)
theorem j_icmp_lt (M : Mach l G own cc nL ret fr lo post Φ) {x y : Int32} {off : Int} {tgt : Nat} (d : decode cc pc = .ok (.if_icmp .lt off, 3)) (ht : (pc : Int) + off = (tgt : Int)) (kt : x < y → Φ tgt L st σ) (kf : ¬ x < y → Φ (pc + 3) L st σ) : Φ pc L (.int y :: .int x :: st) σ := by
  obtain ⟨p, e, R, s, m, args, below, meth, c, cells, slots, Q, ⟨hx, hb, hml, hown, hts⟩, hWk, hRm, hRet, rfl⟩ := M
  intro hn H locs ls hW hS hl
  exact lv_icmp_lt hx hb d ht (fun h => kt h hn H locs ls hW hS hl) (fun h => kf h hn H locs ls hW hS hl)
theorem j_if_ge (M : Mach l G own cc nL ret fr lo post Φ) {x : Int32} {off : Int} {tgt : Nat} (d : decode cc pc = .ok (.ifCond .ge off, 3)) (ht : (pc : Int) + off = (tgt : Int)) (kt : 0 ≤ x → Φ tgt L st σ) (kf : ¬ 0 ≤ x → Φ (pc + 3) L st σ) : Φ pc L (.int x :: st) σ := by
  obtain ⟨p, e, R, s, m, args, below, meth, c, cells, slots, Q, ⟨hx, hb, hml, hown, hts⟩, hWk, hRm, hRet, rfl⟩ := M
  intro hn H locs ls hW hS hl
  exact lv_if_ge hx hb d ht (fun h => kt h hn H locs ls hW hS hl) (fun h => kf h hn H locs ls hW hS hl)
theorem j_icmp_ge (M : Mach l G own cc nL ret fr lo post Φ) {x y : Int32} {off : Int} {tgt : Nat} (d : decode cc pc = .ok (.if_icmp .ge off, 3)) (ht : (pc : Int) + off = (tgt : Int)) (kt : y ≤ x → Φ tgt L st σ) (kf : ¬ y ≤ x → Φ (pc + 3) L st σ) : Φ pc L (.int y :: .int x :: st) σ := by
  obtain ⟨p, e, R, s, m, args, below, meth, c, cells, slots, Q, ⟨hx, hb, hml, hown, hts⟩, hWk, hRm, hRet, rfl⟩ := M
  intro hn H locs ls hW hS hl
  exact lv_icmp_ge hx hb d ht (fun h => kt h hn H locs ls hW hS hl) (fun h => kf h hn H locs ls hW hS hl)
theorem j_if_gt (M : Mach l G own cc nL ret fr lo post Φ) {x : Int32} {off : Int} {tgt : Nat} (d : decode cc pc = .ok (.ifCond .gt off, 3)) (ht : (pc : Int) + off = (tgt : Int)) (kt : 0 < x → Φ tgt L st σ) (kf : ¬ 0 < x → Φ (pc + 3) L st σ) : Φ pc L (.int x :: st) σ := by
  obtain ⟨p, e, R, s, m, args, below, meth, c, cells, slots, Q, ⟨hx, hb, hml, hown, hts⟩, hWk, hRm, hRet, rfl⟩ := M
  intro hn H locs ls hW hS hl
  exact lv_if_gt hx hb d ht (fun h => kt h hn H locs ls hW hS hl) (fun h => kf h hn H locs ls hW hS hl)
theorem j_icmp_gt (M : Mach l G own cc nL ret fr lo post Φ) {x y : Int32} {off : Int} {tgt : Nat} (d : decode cc pc = .ok (.if_icmp .gt off, 3)) (ht : (pc : Int) + off = (tgt : Int)) (kt : y < x → Φ tgt L st σ) (kf : ¬ y < x → Φ (pc + 3) L st σ) : Φ pc L (.int y :: .int x :: st) σ := by
  obtain ⟨p, e, R, s, m, args, below, meth, c, cells, slots, Q, ⟨hx, hb, hml, hown, hts⟩, hWk, hRm, hRet, rfl⟩ := M
  intro hn H locs ls hW hS hl
  exact lv_icmp_gt hx hb d ht (fun h => kt h hn H locs ls hW hS hl) (fun h => kf h hn H locs ls hW hS hl)
theorem j_if_le (M : Mach l G own cc nL ret fr lo post Φ) {x : Int32} {off : Int} {tgt : Nat} (d : decode cc pc = .ok (.ifCond .le off, 3)) (ht : (pc : Int) + off = (tgt : Int)) (kt : x ≤ 0 → Φ tgt L st σ) (kf : ¬ x ≤ 0 → Φ (pc + 3) L st σ) : Φ pc L (.int x :: st) σ := by
  obtain ⟨p, e, R, s, m, args, below, meth, c, cells, slots, Q, ⟨hx, hb, hml, hown, hts⟩, hWk, hRm, hRet, rfl⟩ := M
  intro hn H locs ls hW hS hl
  exact lv_if_le hx hb d ht (fun h => kt h hn H locs ls hW hS hl) (fun h => kf h hn H locs ls hW hS hl)
theorem j_icmp_le (M : Mach l G own cc nL ret fr lo post Φ) {x y : Int32} {off : Int} {tgt : Nat} (d : decode cc pc = .ok (.if_icmp .le off, 3)) (ht : (pc : Int) + off = (tgt : Int)) (kt : x ≤ y → Φ tgt L st σ) (kf : ¬ x ≤ y → Φ (pc + 3) L st σ) : Φ pc L (.int y :: .int x :: st) σ := by
  obtain ⟨p, e, R, s, m, args, below, meth, c, cells, slots, Q, ⟨hx, hb, hml, hown, hts⟩, hWk, hRm, hRet, rfl⟩ := M
  intro hn H locs ls hW hS hl
  exact lv_icmp_le hx hb d ht (fun h => kt h hn H locs ls hW hS hl) (fun h => kf h hn H locs ls hW hS hl)
theorem j_goto (M : Mach l G own cc nL ret fr lo post Φ) {off : Int} {tgt : Nat} (d : decode cc pc = .ok (.goto off, 3)) (ht : (pc : Int) + off = (tgt : Int)) (k : Φ tgt L st σ) : Φ pc L st σ := by
  obtain ⟨p, e, R, s, m, args, below, meth, c, cells, slots, Q, ⟨hx, hb, hml, hown, hts⟩, hWk, hRm, hRet, rfl⟩ := M
  intro hn H locs ls hW hS hl
  exact lv_goto hx hb d ht (k hn H locs ls hW hS hl)
theorem j_ifnonnull (M : Mach l G own cc nL ret fr lo post Φ) {x : Nat} {off : Int} {tgt : Nat} (d : decode cc pc = .ok (.ifnonnull off, 3)) (ht : (pc : Int) + off = (tgt : Int)) (k : Φ tgt L st σ) : Φ pc L (.ref x :: st) σ := by
  obtain ⟨p, e, R, s, m, args, below, meth, c, cells, slots, Q, ⟨hx, hb, hml, hown, hts⟩, hWk, hRm, hRet, rfl⟩ := M
  intro hn H locs ls hW hS hl
  exact lv_ifnonnull hx hb d ht (k hn H locs ls hW hS hl)
theorem j_ifnull (M : Mach l G own cc nL ret fr lo post Φ) {x : Nat} {off : Int} (d : decode cc pc = .ok (.ifnull off, 3)) (k : Φ (pc + 3) L st σ) : Φ pc L (.ref x :: st) σ := by
  obtain ⟨p, e, R, s, m, args, below, meth, c, cells, slots, Q, ⟨hx, hb, hml, hown, hts⟩, hWk, hRm, hRet, rfl⟩ := M
  intro hn H locs ls hW hS hl
  exact lv_ifnull hx hb d (k hn H locs ls hW hS hl)
theorem j_ifnonnullN (M : Mach l G own cc nL ret fr lo post Φ) {off : Int} (d : decode cc pc = .ok (.ifnonnull off, 3)) (k : Φ (pc + 3) L st σ) : Φ pc L (.null :: st) σ := by
  obtain ⟨p, e, R, s, m, args, below, meth, c, cells, slots, Q, ⟨hx, hb, hml, hown, hts⟩, hWk, hRm, hRet, rfl⟩ := M
  intro hn H locs ls hW hS hl
  exact lv_ifnonnullN hx hb d (k hn H locs ls hW hS hl)
theorem j_ifnullN (M : Mach l G own cc nL ret fr lo post Φ) {off : Int} {tgt : Nat} (d : decode cc pc = .ok (.ifnull off, 3)) (ht : (pc : Int) + off = (tgt : Int)) (k : Φ tgt L st σ) : Φ pc L (.null :: st) σ := by
  obtain ⟨p, e, R, s, m, args, below, meth, c, cells, slots, Q, ⟨hx, hb, hml, hown, hts⟩, hWk, hRm, hRet, rfl⟩ := M
  intro hn H locs ls hW hS hl
  exact lv_ifnullN hx hb d ht (k hn H locs ls hW hS hl)
theorem j_tabOut (M : Mach l G own cc nL ret fr lo post Φ) {dflt lo hi : Int} {offs : Array Int} {len : Nat} {x : Int32} {tgt : Nat} (d : decode cc pc = .ok (.tableswitch dflt lo hi offs, len)) (h : x.toInt < lo ∨ hi < x.toInt) (ht : (pc : Int) + dflt = (tgt : Int)) (k : Φ tgt L st σ) : Φ pc L (.int x :: st) σ := by
  obtain ⟨p, e, R, s, m, args, below, meth, c, cells, slots, Q, ⟨hx, hb, hml, hown, hts⟩, hWk, hRm, hRet, rfl⟩ := M
  intro hn H locs ls hW hS hl
  exact lv_tableOut hx hb d h ht (k hn H locs ls hW hS hl)
theorem j_tabIn (M : Mach l G own cc nL ret fr lo post Φ) {dflt lo hi : Int} {offs : Array Int} {len : Nat} {x : Int32} {off : Int} {tgt : Nat} (d : decode cc pc = .ok (.tableswitch dflt lo hi offs, len)) (h1 : ¬ x.toInt < lo) (h2 : ¬ hi < x.toInt) (ho : offs[(x.toInt - lo).toNat]? = some off) (ht : (pc : Int) + off = (tgt : Int)) (k : Φ tgt L st σ) : Φ pc L (.int x :: st) σ := by
  obtain ⟨p, e, R, s, m, args, below, meth, c, cells, slots, Q, ⟨hx, hb, hml, hown, hts⟩, hWk, hRm, hRet, rfl⟩ := M
  intro hn H locs ls hW hS hl
  exact lv_tableIn hx hb d h1 h2 ho ht (k hn H locs ls hW hS hl)
theorem j_lookup (M : Mach l G own cc nL ret fr lo post Φ) {dflt : Int} {ps : Array (Int × Int)} {len : Nat} {x : Int32} {off : Int} {tgt : Nat} (d : decode cc pc = .ok (.lookupswitch dflt ps, len)) (hp : (ps.toList.zip (ps.toList.drop 1)).all (fun (a, next) => a.1 < next.1) = true) (ho : Op.lookupswitch.offset ps.toList dflt x.toInt = off) (ht : (pc : Int) + off = (tgt : Int)) (k : Φ tgt L st σ) : Φ pc L (.int x :: st) σ := by
  obtain ⟨p, e, R, s, m, args, below, meth, c, cells, slots, Q, ⟨hx, hb, hml, hown, hts⟩, hWk, hRm, hRet, rfl⟩ := M
  intro hn H locs ls hW hS hl
  exact lv_lookup hx hb d hp ho ht (k hn H locs ls hW hS hl)
theorem j_iret (M : Mach l G own cc nL (some .int) fr lo post Φ) {x : Int32} (d : decode cc pc = .ok (.ireturn, 1))  (h : post (some (.int x)) σ) : Φ pc L ([.int x]) σ := by
  obtain ⟨p, e, R, s, m, args, below, meth, c, cells, slots, Q, ⟨hx, hb, hml, hown, hts⟩, hWk, hRm, hRet, rfl⟩ := M
  intro hn H locs ls hW hS hl
  exact hRet pc (some (.int x)) σ (Or.inl ⟨rfl, d, x, rfl⟩) h H locs ls hW hS
theorem j_zret (M : Mach l G own cc nL (some .boolean) fr lo post Φ) {x : Int32} (d : decode cc pc = .ok (.ireturn, 1)) (hz : x = 0 ∨ x = 1) (h : post (some (.int x)) σ) : Φ pc L ([.int x]) σ := by
  obtain ⟨p, e, R, s, m, args, below, meth, c, cells, slots, Q, ⟨hx, hb, hml, hown, hts⟩, hWk, hRm, hRet, rfl⟩ := M
  intro hn H locs ls hW hS hl
  exact hRet pc (some (.int x)) σ (Or.inr (Or.inl ⟨rfl, d, by rcases hz with rfl | rfl <;> simp⟩)) h H locs ls hW hS
theorem j_vret (M : Mach l G own cc nL none fr lo post Φ)  (d : decode cc pc = .ok (.return_, 1))  (h : post (none) σ) : Φ pc L ([]) σ := by
  obtain ⟨p, e, R, s, m, args, below, meth, c, cells, slots, Q, ⟨hx, hb, hml, hown, hts⟩, hWk, hRm, hRet, rfl⟩ := M
  intro hn H locs ls hW hS hl
  exact hRet pc (none) σ (Or.inr (Or.inr (Or.inl ⟨rfl, d, rfl⟩))) h H locs ls hW hS
theorem j_lret (M : Mach l G own cc nL (some .long) fr lo post Φ) {x : Int64} (d : decode cc pc = .ok (.lreturn, 1))  (h : post (some (.long x)) σ) : Φ pc L ([.long x]) σ := by
  obtain ⟨p, e, R, s, m, args, below, meth, c, cells, slots, Q, ⟨hx, hb, hml, hown, hts⟩, hWk, hRm, hRet, rfl⟩ := M
  intro hn H locs ls hW hS hl
  exact hRet pc (some (.long x)) σ (Or.inr (Or.inr (Or.inr (Or.inl ⟨rfl, d, x, rfl⟩)))) h H locs ls hW hS
theorem j_aret (M : Mach l G own cc nL (some (.object RX3)) fr lo post Φ) {x : Nat} (d : decode cc pc = .ok (.areturn, 1))  (h : post (some (.ref x)) σ) : Φ pc L ([.ref x]) σ := by
  obtain ⟨p, e, R, s, m, args, below, meth, c, cells, slots, Q, ⟨hx, hb, hml, hown, hts⟩, hWk, hRm, hRet, rfl⟩ := M
  intro hn H locs ls hW hS hl
  exact hRet pc (some (.ref x)) σ (Or.inr (Or.inr (Or.inr (Or.inr ⟨rfl, d, Or.inr ⟨x, rfl⟩⟩)))) h H locs ls hW hS
theorem j_aretN (M : Mach l G own cc nL (some (.object RX3)) fr lo post Φ)  (d : decode cc pc = .ok (.areturn, 1))  (h : post (some .null) σ) : Φ pc L ([.null]) σ := by
  obtain ⟨p, e, R, s, m, args, below, meth, c, cells, slots, Q, ⟨hx, hb, hml, hown, hts⟩, hWk, hRm, hRet, rfl⟩ := M
  intro hn H locs ls hW hS hl
  exact hRet pc (some .null) σ (Or.inr (Or.inr (Or.inr (Or.inr ⟨rfl, d, Or.inl rfl⟩)))) h H locs ls hW hS
def lsub : List (Option Value) → List (Option Value) → Prop
  | [], [] => True
  | none :: a, _ :: b => lsub a b
  | some v :: a, w :: b => w = some v ∧ lsub a b
  | _, _ => False
theorem lsub_len : ∀ {a b : List (Option Value)}, lsub a b → a.length = b.length
  | [], [], _ => rfl
  | none :: a, _ :: b, h => congrArg (· + 1) (lsub_len (a := a) (b := b) h)
  | some v :: a, w :: b, h => congrArg (· + 1) (lsub_len (a := a) (b := b) h.2)
  | [], _ :: _, h => h.elim
  | none :: _, [], h => h.elim
  | some _ :: _, [], h => h.elim
theorem lsub_at : ∀ {a b : List (Option Value)}, lsub a b → ∀ (i : Nat) (v : Value), a[i]? = some (some v) → b[i]? = some (some v)
  | [], [], _, i, v, h => by simp at h
  | none :: a, _ :: b, h, 0, v, hi => by simp at hi
  | none :: a, _ :: b, h, i + 1, v, hi => by simpa using lsub_at (a := a) (b := b) h i v (by simpa using hi)
  | some u :: a, w :: b, h, 0, v, hi => by simpa [h.1] using hi
  | some u :: a, w :: b, h, i + 1, v, hi => by simpa using lsub_at (a := a) (b := b) h.2 i v (by simpa using hi)
  | [], _ :: _, h, _, _, _ => h.elim
  | none :: _, [], h, _, _, _ => h.elim
  | some _ :: _, [], h, _, _, _ => h.elim
theorem j_forget (M : Mach l G own cc nL ret fr lo post Φ) {L' : List (Option Value)} (h : lsub L' L) (k : Φ pc L' st σ) : Φ pc L st σ := by
  obtain ⟨p, e, R, s, m, args, below, meth, c, cells, slots, Q, ⟨hx, hb, hml, hown, hts⟩, hWk, hRm, hRet, rfl⟩ := M
  intro hn H locs ls hW hS hl
  exact k ((lsub_len h).trans hn) H locs ls hW hS (hl.sub (lsub_len h) (lsub_at h))
end Rows
section Rows2
variable {l : Launch} {G : Gw} {own : String} {cc : ByteArray} {nL fr lo : Nat} {ret : Option FieldType} {post : Option Value → Sg → Prop} {Φ : Ph} {pc : Nat} {rest : List (Option Value)} {st : List Value} {σ : Sg}
theorem j_istore_0 (M : Mach l G own cc nL ret fr lo post Φ) {x0 : Option Value} {x : Int32} (d : decode cc pc = .ok (.istore_n 0, 1))  (k : Φ (pc + 1) (some (.int x) :: rest) st σ) : Φ pc (x0 :: rest) (.int x :: st) σ := j_istore_n0 M d (by show 0 < _; simp only [List.length_cons]; omega) trivial k
theorem j_astore_0 (M : Mach l G own cc nL ret fr lo post Φ) {x0 : Option Value} {x : Nat} (d : decode cc pc = .ok (.astore_n 0, 1))  (k : Φ (pc + 1) (some (.ref x) :: rest) st σ) : Φ pc (x0 :: rest) (.ref x :: st) σ := j_astore_n0 M d (by show 0 < _; simp only [List.length_cons]; omega) trivial k
theorem j_iinc_0 (M : Mach l G own cc nL ret fr lo post Φ) {n : Int} {x v : Int32} (d : decode cc pc = .ok (.iinc 0 n, 3)) (hv : x + Int32.ofInt n = v) (k : Φ (pc + 3) (some (.int v) :: rest) st σ) : Φ pc (some (.int x) :: rest) st σ := j_iinc0 M d (by simp) hv trivial k
theorem j_lstore_0 (M : Mach l G own cc nL ret fr lo post Φ) {x0 x1 : Option Value} {x : Int64} (d : decode cc pc = .ok (.lstore_n 0, 1))  (k : Φ (pc + 1) (some (.long x) :: none :: rest) st σ) : Φ pc (x0 :: x1 :: rest) (.long x :: st) σ := j_lstore_n0 M d (by show 0 + 1 < _; simp only [List.length_cons]; omega) trivial k
theorem j_istore_1 (M : Mach l G own cc nL ret fr lo post Φ) {x0 x1 : Option Value} {x : Int32} (d : decode cc pc = .ok (.istore_n 1, 1)) (hp : noLong x0) (k : Φ (pc + 1) (x0 :: some (.int x) :: rest) st σ) : Φ pc (x0 :: x1 :: rest) (.int x :: st) σ := j_istore_n0 M d (by show 1 < _; simp only [List.length_cons]; omega) (fun o ho => by simp at ho; subst ho; exact hp) k
theorem j_astore_1 (M : Mach l G own cc nL ret fr lo post Φ) {x0 x1 : Option Value} {x : Nat} (d : decode cc pc = .ok (.astore_n 1, 1)) (hp : noLong x0) (k : Φ (pc + 1) (x0 :: some (.ref x) :: rest) st σ) : Φ pc (x0 :: x1 :: rest) (.ref x :: st) σ := j_astore_n0 M d (by show 1 < _; simp only [List.length_cons]; omega) (fun o ho => by simp at ho; subst ho; exact hp) k
theorem j_iinc_1 (M : Mach l G own cc nL ret fr lo post Φ) {x0 : Option Value} {n : Int} {x v : Int32} (d : decode cc pc = .ok (.iinc 1 n, 3)) (hv : x + Int32.ofInt n = v) (hp : noLong x0) (k : Φ (pc + 3) (x0 :: some (.int v) :: rest) st σ) : Φ pc (x0 :: some (.int x) :: rest) st σ := j_iinc0 M d (by simp) hv (fun o ho => by simp at ho; subst ho; exact hp) k
theorem j_lstore_1 (M : Mach l G own cc nL ret fr lo post Φ) {x0 x1 x2 : Option Value} {x : Int64} (d : decode cc pc = .ok (.lstore_n 1, 1)) (hp : noLong x0) (k : Φ (pc + 1) (x0 :: some (.long x) :: none :: rest) st σ) : Φ pc (x0 :: x1 :: x2 :: rest) (.long x :: st) σ := j_lstore_n0 M d (by show 1 + 1 < _; simp only [List.length_cons]; omega) (fun o ho => by simp at ho; subst ho; exact hp) k
theorem j_istore_2 (M : Mach l G own cc nL ret fr lo post Φ) {x0 x1 x2 : Option Value} {x : Int32} (d : decode cc pc = .ok (.istore_n 2, 1)) (hp : noLong x1) (k : Φ (pc + 1) (x0 :: x1 :: some (.int x) :: rest) st σ) : Φ pc (x0 :: x1 :: x2 :: rest) (.int x :: st) σ := j_istore_n0 M d (by show 2 < _; simp only [List.length_cons]; omega) (fun o ho => by simp at ho; subst ho; exact hp) k
theorem j_astore_2 (M : Mach l G own cc nL ret fr lo post Φ) {x0 x1 x2 : Option Value} {x : Nat} (d : decode cc pc = .ok (.astore_n 2, 1)) (hp : noLong x1) (k : Φ (pc + 1) (x0 :: x1 :: some (.ref x) :: rest) st σ) : Φ pc (x0 :: x1 :: x2 :: rest) (.ref x :: st) σ := j_astore_n0 M d (by show 2 < _; simp only [List.length_cons]; omega) (fun o ho => by simp at ho; subst ho; exact hp) k
theorem j_iinc_2 (M : Mach l G own cc nL ret fr lo post Φ) {x0 x1 : Option Value} {n : Int} {x v : Int32} (d : decode cc pc = .ok (.iinc 2 n, 3)) (hv : x + Int32.ofInt n = v) (hp : noLong x1) (k : Φ (pc + 3) (x0 :: x1 :: some (.int v) :: rest) st σ) : Φ pc (x0 :: x1 :: some (.int x) :: rest) st σ := j_iinc0 M d (by simp) hv (fun o ho => by simp at ho; subst ho; exact hp) k
theorem j_lstore_2 (M : Mach l G own cc nL ret fr lo post Φ) {x0 x1 x2 x3 : Option Value} {x : Int64} (d : decode cc pc = .ok (.lstore_n 2, 1)) (hp : noLong x1) (k : Φ (pc + 1) (x0 :: x1 :: some (.long x) :: none :: rest) st σ) : Φ pc (x0 :: x1 :: x2 :: x3 :: rest) (.long x :: st) σ := j_lstore_n0 M d (by show 2 + 1 < _; simp only [List.length_cons]; omega) (fun o ho => by simp at ho; subst ho; exact hp) k
theorem j_istore_3 (M : Mach l G own cc nL ret fr lo post Φ) {x0 x1 x2 x3 : Option Value} {x : Int32} (d : decode cc pc = .ok (.istore_n 3, 1)) (hp : noLong x2) (k : Φ (pc + 1) (x0 :: x1 :: x2 :: some (.int x) :: rest) st σ) : Φ pc (x0 :: x1 :: x2 :: x3 :: rest) (.int x :: st) σ := j_istore_n0 M d (by show 3 < _; simp only [List.length_cons]; omega) (fun o ho => by simp at ho; subst ho; exact hp) k
theorem j_astore_3 (M : Mach l G own cc nL ret fr lo post Φ) {x0 x1 x2 x3 : Option Value} {x : Nat} (d : decode cc pc = .ok (.astore_n 3, 1)) (hp : noLong x2) (k : Φ (pc + 1) (x0 :: x1 :: x2 :: some (.ref x) :: rest) st σ) : Φ pc (x0 :: x1 :: x2 :: x3 :: rest) (.ref x :: st) σ := j_astore_n0 M d (by show 3 < _; simp only [List.length_cons]; omega) (fun o ho => by simp at ho; subst ho; exact hp) k
theorem j_iinc_3 (M : Mach l G own cc nL ret fr lo post Φ) {x0 x1 x2 : Option Value} {n : Int} {x v : Int32} (d : decode cc pc = .ok (.iinc 3 n, 3)) (hv : x + Int32.ofInt n = v) (hp : noLong x2) (k : Φ (pc + 3) (x0 :: x1 :: x2 :: some (.int v) :: rest) st σ) : Φ pc (x0 :: x1 :: x2 :: some (.int x) :: rest) st σ := j_iinc0 M d (by simp) hv (fun o ho => by simp at ho; subst ho; exact hp) k
theorem j_lstore_3 (M : Mach l G own cc nL ret fr lo post Φ) {x0 x1 x2 x3 x4 : Option Value} {x : Int64} (d : decode cc pc = .ok (.lstore_n 3, 1)) (hp : noLong x2) (k : Φ (pc + 1) (x0 :: x1 :: x2 :: some (.long x) :: none :: rest) st σ) : Φ pc (x0 :: x1 :: x2 :: x3 :: x4 :: rest) (.long x :: st) σ := j_lstore_n0 M d (by show 3 + 1 < _; simp only [List.length_cons]; omega) (fun o ho => by simp at ho; subst ho; exact hp) k
theorem j_istore_4 (M : Mach l G own cc nL ret fr lo post Φ) {x0 x1 x2 x3 x4 : Option Value} {x : Int32} (d : decode cc pc = .ok (.istore 4, 2)) (hp : noLong x3) (k : Φ (pc + 2) (x0 :: x1 :: x2 :: x3 :: some (.int x) :: rest) st σ) : Φ pc (x0 :: x1 :: x2 :: x3 :: x4 :: rest) (.int x :: st) σ := j_istore0 M d (by simp) (fun o ho => by simp at ho; subst ho; exact hp) k
theorem j_astore_4 (M : Mach l G own cc nL ret fr lo post Φ) {x0 x1 x2 x3 x4 : Option Value} {x : Nat} (d : decode cc pc = .ok (.astore 4, 2)) (hp : noLong x3) (k : Φ (pc + 2) (x0 :: x1 :: x2 :: x3 :: some (.ref x) :: rest) st σ) : Φ pc (x0 :: x1 :: x2 :: x3 :: x4 :: rest) (.ref x :: st) σ := j_astore0 M d (by simp) (fun o ho => by simp at ho; subst ho; exact hp) k
theorem j_iinc_4 (M : Mach l G own cc nL ret fr lo post Φ) {x0 x1 x2 x3 : Option Value} {n : Int} {x v : Int32} (d : decode cc pc = .ok (.iinc 4 n, 3)) (hv : x + Int32.ofInt n = v) (hp : noLong x3) (k : Φ (pc + 3) (x0 :: x1 :: x2 :: x3 :: some (.int v) :: rest) st σ) : Φ pc (x0 :: x1 :: x2 :: x3 :: some (.int x) :: rest) st σ := j_iinc0 M d (by simp) hv (fun o ho => by simp at ho; subst ho; exact hp) k
theorem j_lstore_4 (M : Mach l G own cc nL ret fr lo post Φ) {x0 x1 x2 x3 x4 x5 : Option Value} {x : Int64} (d : decode cc pc = .ok (.lstore 4, 2)) (hp : noLong x3) (k : Φ (pc + 2) (x0 :: x1 :: x2 :: x3 :: some (.long x) :: none :: rest) st σ) : Φ pc (x0 :: x1 :: x2 :: x3 :: x4 :: x5 :: rest) (.long x :: st) σ := j_lstore0 M d (by simp) (fun o ho => by simp at ho; subst ho; exact hp) k
theorem j_istore_5 (M : Mach l G own cc nL ret fr lo post Φ) {x0 x1 x2 x3 x4 x5 : Option Value} {x : Int32} (d : decode cc pc = .ok (.istore 5, 2)) (hp : noLong x4) (k : Φ (pc + 2) (x0 :: x1 :: x2 :: x3 :: x4 :: some (.int x) :: rest) st σ) : Φ pc (x0 :: x1 :: x2 :: x3 :: x4 :: x5 :: rest) (.int x :: st) σ := j_istore0 M d (by simp) (fun o ho => by simp at ho; subst ho; exact hp) k
theorem j_astore_5 (M : Mach l G own cc nL ret fr lo post Φ) {x0 x1 x2 x3 x4 x5 : Option Value} {x : Nat} (d : decode cc pc = .ok (.astore 5, 2)) (hp : noLong x4) (k : Φ (pc + 2) (x0 :: x1 :: x2 :: x3 :: x4 :: some (.ref x) :: rest) st σ) : Φ pc (x0 :: x1 :: x2 :: x3 :: x4 :: x5 :: rest) (.ref x :: st) σ := j_astore0 M d (by simp) (fun o ho => by simp at ho; subst ho; exact hp) k
theorem j_iinc_5 (M : Mach l G own cc nL ret fr lo post Φ) {x0 x1 x2 x3 x4 : Option Value} {n : Int} {x v : Int32} (d : decode cc pc = .ok (.iinc 5 n, 3)) (hv : x + Int32.ofInt n = v) (hp : noLong x4) (k : Φ (pc + 3) (x0 :: x1 :: x2 :: x3 :: x4 :: some (.int v) :: rest) st σ) : Φ pc (x0 :: x1 :: x2 :: x3 :: x4 :: some (.int x) :: rest) st σ := j_iinc0 M d (by simp) hv (fun o ho => by simp at ho; subst ho; exact hp) k
theorem j_lstore_5 (M : Mach l G own cc nL ret fr lo post Φ) {x0 x1 x2 x3 x4 x5 x6 : Option Value} {x : Int64} (d : decode cc pc = .ok (.lstore 5, 2)) (hp : noLong x4) (k : Φ (pc + 2) (x0 :: x1 :: x2 :: x3 :: x4 :: some (.long x) :: none :: rest) st σ) : Φ pc (x0 :: x1 :: x2 :: x3 :: x4 :: x5 :: x6 :: rest) (.long x :: st) σ := j_lstore0 M d (by simp) (fun o ho => by simp at ho; subst ho; exact hp) k
theorem j_istore_6 (M : Mach l G own cc nL ret fr lo post Φ) {x0 x1 x2 x3 x4 x5 x6 : Option Value} {x : Int32} (d : decode cc pc = .ok (.istore 6, 2)) (hp : noLong x5) (k : Φ (pc + 2) (x0 :: x1 :: x2 :: x3 :: x4 :: x5 :: some (.int x) :: rest) st σ) : Φ pc (x0 :: x1 :: x2 :: x3 :: x4 :: x5 :: x6 :: rest) (.int x :: st) σ := j_istore0 M d (by simp) (fun o ho => by simp at ho; subst ho; exact hp) k
theorem j_astore_6 (M : Mach l G own cc nL ret fr lo post Φ) {x0 x1 x2 x3 x4 x5 x6 : Option Value} {x : Nat} (d : decode cc pc = .ok (.astore 6, 2)) (hp : noLong x5) (k : Φ (pc + 2) (x0 :: x1 :: x2 :: x3 :: x4 :: x5 :: some (.ref x) :: rest) st σ) : Φ pc (x0 :: x1 :: x2 :: x3 :: x4 :: x5 :: x6 :: rest) (.ref x :: st) σ := j_astore0 M d (by simp) (fun o ho => by simp at ho; subst ho; exact hp) k
theorem j_iinc_6 (M : Mach l G own cc nL ret fr lo post Φ) {x0 x1 x2 x3 x4 x5 : Option Value} {n : Int} {x v : Int32} (d : decode cc pc = .ok (.iinc 6 n, 3)) (hv : x + Int32.ofInt n = v) (hp : noLong x5) (k : Φ (pc + 3) (x0 :: x1 :: x2 :: x3 :: x4 :: x5 :: some (.int v) :: rest) st σ) : Φ pc (x0 :: x1 :: x2 :: x3 :: x4 :: x5 :: some (.int x) :: rest) st σ := j_iinc0 M d (by simp) hv (fun o ho => by simp at ho; subst ho; exact hp) k
theorem j_lstore_6 (M : Mach l G own cc nL ret fr lo post Φ) {x0 x1 x2 x3 x4 x5 x6 x7 : Option Value} {x : Int64} (d : decode cc pc = .ok (.lstore 6, 2)) (hp : noLong x5) (k : Φ (pc + 2) (x0 :: x1 :: x2 :: x3 :: x4 :: x5 :: some (.long x) :: none :: rest) st σ) : Φ pc (x0 :: x1 :: x2 :: x3 :: x4 :: x5 :: x6 :: x7 :: rest) (.long x :: st) σ := j_lstore0 M d (by simp) (fun o ho => by simp at ho; subst ho; exact hp) k
theorem j_istore_7 (M : Mach l G own cc nL ret fr lo post Φ) {x0 x1 x2 x3 x4 x5 x6 x7 : Option Value} {x : Int32} (d : decode cc pc = .ok (.istore 7, 2)) (hp : noLong x6) (k : Φ (pc + 2) (x0 :: x1 :: x2 :: x3 :: x4 :: x5 :: x6 :: some (.int x) :: rest) st σ) : Φ pc (x0 :: x1 :: x2 :: x3 :: x4 :: x5 :: x6 :: x7 :: rest) (.int x :: st) σ := j_istore0 M d (by simp) (fun o ho => by simp at ho; subst ho; exact hp) k
theorem j_astore_7 (M : Mach l G own cc nL ret fr lo post Φ) {x0 x1 x2 x3 x4 x5 x6 x7 : Option Value} {x : Nat} (d : decode cc pc = .ok (.astore 7, 2)) (hp : noLong x6) (k : Φ (pc + 2) (x0 :: x1 :: x2 :: x3 :: x4 :: x5 :: x6 :: some (.ref x) :: rest) st σ) : Φ pc (x0 :: x1 :: x2 :: x3 :: x4 :: x5 :: x6 :: x7 :: rest) (.ref x :: st) σ := j_astore0 M d (by simp) (fun o ho => by simp at ho; subst ho; exact hp) k
theorem j_iinc_7 (M : Mach l G own cc nL ret fr lo post Φ) {x0 x1 x2 x3 x4 x5 x6 : Option Value} {n : Int} {x v : Int32} (d : decode cc pc = .ok (.iinc 7 n, 3)) (hv : x + Int32.ofInt n = v) (hp : noLong x6) (k : Φ (pc + 3) (x0 :: x1 :: x2 :: x3 :: x4 :: x5 :: x6 :: some (.int v) :: rest) st σ) : Φ pc (x0 :: x1 :: x2 :: x3 :: x4 :: x5 :: x6 :: some (.int x) :: rest) st σ := j_iinc0 M d (by simp) hv (fun o ho => by simp at ho; subst ho; exact hp) k
theorem j_lstore_7 (M : Mach l G own cc nL ret fr lo post Φ) {x0 x1 x2 x3 x4 x5 x6 x7 x8 : Option Value} {x : Int64} (d : decode cc pc = .ok (.lstore 7, 2)) (hp : noLong x6) (k : Φ (pc + 2) (x0 :: x1 :: x2 :: x3 :: x4 :: x5 :: x6 :: some (.long x) :: none :: rest) st σ) : Φ pc (x0 :: x1 :: x2 :: x3 :: x4 :: x5 :: x6 :: x7 :: x8 :: rest) (.long x :: st) σ := j_lstore0 M d (by simp) (fun o ho => by simp at ho; subst ho; exact hp) k
theorem j_istore_8 (M : Mach l G own cc nL ret fr lo post Φ) {x0 x1 x2 x3 x4 x5 x6 x7 x8 : Option Value} {x : Int32} (d : decode cc pc = .ok (.istore 8, 2)) (hp : noLong x7) (k : Φ (pc + 2) (x0 :: x1 :: x2 :: x3 :: x4 :: x5 :: x6 :: x7 :: some (.int x) :: rest) st σ) : Φ pc (x0 :: x1 :: x2 :: x3 :: x4 :: x5 :: x6 :: x7 :: x8 :: rest) (.int x :: st) σ := j_istore0 M d (by simp) (fun o ho => by simp at ho; subst ho; exact hp) k
theorem j_astore_8 (M : Mach l G own cc nL ret fr lo post Φ) {x0 x1 x2 x3 x4 x5 x6 x7 x8 : Option Value} {x : Nat} (d : decode cc pc = .ok (.astore 8, 2)) (hp : noLong x7) (k : Φ (pc + 2) (x0 :: x1 :: x2 :: x3 :: x4 :: x5 :: x6 :: x7 :: some (.ref x) :: rest) st σ) : Φ pc (x0 :: x1 :: x2 :: x3 :: x4 :: x5 :: x6 :: x7 :: x8 :: rest) (.ref x :: st) σ := j_astore0 M d (by simp) (fun o ho => by simp at ho; subst ho; exact hp) k
theorem j_iinc_8 (M : Mach l G own cc nL ret fr lo post Φ) {x0 x1 x2 x3 x4 x5 x6 x7 : Option Value} {n : Int} {x v : Int32} (d : decode cc pc = .ok (.iinc 8 n, 3)) (hv : x + Int32.ofInt n = v) (hp : noLong x7) (k : Φ (pc + 3) (x0 :: x1 :: x2 :: x3 :: x4 :: x5 :: x6 :: x7 :: some (.int v) :: rest) st σ) : Φ pc (x0 :: x1 :: x2 :: x3 :: x4 :: x5 :: x6 :: x7 :: some (.int x) :: rest) st σ := j_iinc0 M d (by simp) hv (fun o ho => by simp at ho; subst ho; exact hp) k
theorem j_lstore_8 (M : Mach l G own cc nL ret fr lo post Φ) {x0 x1 x2 x3 x4 x5 x6 x7 x8 x9 : Option Value} {x : Int64} (d : decode cc pc = .ok (.lstore 8, 2)) (hp : noLong x7) (k : Φ (pc + 2) (x0 :: x1 :: x2 :: x3 :: x4 :: x5 :: x6 :: x7 :: some (.long x) :: none :: rest) st σ) : Φ pc (x0 :: x1 :: x2 :: x3 :: x4 :: x5 :: x6 :: x7 :: x8 :: x9 :: rest) (.long x :: st) σ := j_lstore0 M d (by simp) (fun o ho => by simp at ho; subst ho; exact hp) k
theorem j_istore_9 (M : Mach l G own cc nL ret fr lo post Φ) {x0 x1 x2 x3 x4 x5 x6 x7 x8 x9 : Option Value} {x : Int32} (d : decode cc pc = .ok (.istore 9, 2)) (hp : noLong x8) (k : Φ (pc + 2) (x0 :: x1 :: x2 :: x3 :: x4 :: x5 :: x6 :: x7 :: x8 :: some (.int x) :: rest) st σ) : Φ pc (x0 :: x1 :: x2 :: x3 :: x4 :: x5 :: x6 :: x7 :: x8 :: x9 :: rest) (.int x :: st) σ := j_istore0 M d (by simp) (fun o ho => by simp at ho; subst ho; exact hp) k
theorem j_astore_9 (M : Mach l G own cc nL ret fr lo post Φ) {x0 x1 x2 x3 x4 x5 x6 x7 x8 x9 : Option Value} {x : Nat} (d : decode cc pc = .ok (.astore 9, 2)) (hp : noLong x8) (k : Φ (pc + 2) (x0 :: x1 :: x2 :: x3 :: x4 :: x5 :: x6 :: x7 :: x8 :: some (.ref x) :: rest) st σ) : Φ pc (x0 :: x1 :: x2 :: x3 :: x4 :: x5 :: x6 :: x7 :: x8 :: x9 :: rest) (.ref x :: st) σ := j_astore0 M d (by simp) (fun o ho => by simp at ho; subst ho; exact hp) k
theorem j_iinc_9 (M : Mach l G own cc nL ret fr lo post Φ) {x0 x1 x2 x3 x4 x5 x6 x7 x8 : Option Value} {n : Int} {x v : Int32} (d : decode cc pc = .ok (.iinc 9 n, 3)) (hv : x + Int32.ofInt n = v) (hp : noLong x8) (k : Φ (pc + 3) (x0 :: x1 :: x2 :: x3 :: x4 :: x5 :: x6 :: x7 :: x8 :: some (.int v) :: rest) st σ) : Φ pc (x0 :: x1 :: x2 :: x3 :: x4 :: x5 :: x6 :: x7 :: x8 :: some (.int x) :: rest) st σ := j_iinc0 M d (by simp) hv (fun o ho => by simp at ho; subst ho; exact hp) k
theorem j_lstore_9 (M : Mach l G own cc nL ret fr lo post Φ) {x0 x1 x2 x3 x4 x5 x6 x7 x8 x9 x10 : Option Value} {x : Int64} (d : decode cc pc = .ok (.lstore 9, 2)) (hp : noLong x8) (k : Φ (pc + 2) (x0 :: x1 :: x2 :: x3 :: x4 :: x5 :: x6 :: x7 :: x8 :: some (.long x) :: none :: rest) st σ) : Φ pc (x0 :: x1 :: x2 :: x3 :: x4 :: x5 :: x6 :: x7 :: x8 :: x9 :: x10 :: rest) (.long x :: st) σ := j_lstore0 M d (by simp) (fun o ho => by simp at ho; subst ho; exact hp) k
theorem j_istore_10 (M : Mach l G own cc nL ret fr lo post Φ) {x0 x1 x2 x3 x4 x5 x6 x7 x8 x9 x10 : Option Value} {x : Int32} (d : decode cc pc = .ok (.istore 10, 2)) (hp : noLong x9) (k : Φ (pc + 2) (x0 :: x1 :: x2 :: x3 :: x4 :: x5 :: x6 :: x7 :: x8 :: x9 :: some (.int x) :: rest) st σ) : Φ pc (x0 :: x1 :: x2 :: x3 :: x4 :: x5 :: x6 :: x7 :: x8 :: x9 :: x10 :: rest) (.int x :: st) σ := j_istore0 M d (by simp) (fun o ho => by simp at ho; subst ho; exact hp) k
theorem j_astore_10 (M : Mach l G own cc nL ret fr lo post Φ) {x0 x1 x2 x3 x4 x5 x6 x7 x8 x9 x10 : Option Value} {x : Nat} (d : decode cc pc = .ok (.astore 10, 2)) (hp : noLong x9) (k : Φ (pc + 2) (x0 :: x1 :: x2 :: x3 :: x4 :: x5 :: x6 :: x7 :: x8 :: x9 :: some (.ref x) :: rest) st σ) : Φ pc (x0 :: x1 :: x2 :: x3 :: x4 :: x5 :: x6 :: x7 :: x8 :: x9 :: x10 :: rest) (.ref x :: st) σ := j_astore0 M d (by simp) (fun o ho => by simp at ho; subst ho; exact hp) k
theorem j_iinc_10 (M : Mach l G own cc nL ret fr lo post Φ) {x0 x1 x2 x3 x4 x5 x6 x7 x8 x9 : Option Value} {n : Int} {x v : Int32} (d : decode cc pc = .ok (.iinc 10 n, 3)) (hv : x + Int32.ofInt n = v) (hp : noLong x9) (k : Φ (pc + 3) (x0 :: x1 :: x2 :: x3 :: x4 :: x5 :: x6 :: x7 :: x8 :: x9 :: some (.int v) :: rest) st σ) : Φ pc (x0 :: x1 :: x2 :: x3 :: x4 :: x5 :: x6 :: x7 :: x8 :: x9 :: some (.int x) :: rest) st σ := j_iinc0 M d (by simp) hv (fun o ho => by simp at ho; subst ho; exact hp) k
theorem j_lstore_10 (M : Mach l G own cc nL ret fr lo post Φ) {x0 x1 x2 x3 x4 x5 x6 x7 x8 x9 x10 x11 : Option Value} {x : Int64} (d : decode cc pc = .ok (.lstore 10, 2)) (hp : noLong x9) (k : Φ (pc + 2) (x0 :: x1 :: x2 :: x3 :: x4 :: x5 :: x6 :: x7 :: x8 :: x9 :: some (.long x) :: none :: rest) st σ) : Φ pc (x0 :: x1 :: x2 :: x3 :: x4 :: x5 :: x6 :: x7 :: x8 :: x9 :: x10 :: x11 :: rest) (.long x :: st) σ := j_lstore0 M d (by simp) (fun o ho => by simp at ho; subst ho; exact hp) k
theorem j_istore_11 (M : Mach l G own cc nL ret fr lo post Φ) {x0 x1 x2 x3 x4 x5 x6 x7 x8 x9 x10 x11 : Option Value} {x : Int32} (d : decode cc pc = .ok (.istore 11, 2)) (hp : noLong x10) (k : Φ (pc + 2) (x0 :: x1 :: x2 :: x3 :: x4 :: x5 :: x6 :: x7 :: x8 :: x9 :: x10 :: some (.int x) :: rest) st σ) : Φ pc (x0 :: x1 :: x2 :: x3 :: x4 :: x5 :: x6 :: x7 :: x8 :: x9 :: x10 :: x11 :: rest) (.int x :: st) σ := j_istore0 M d (by simp) (fun o ho => by simp at ho; subst ho; exact hp) k
theorem j_astore_11 (M : Mach l G own cc nL ret fr lo post Φ) {x0 x1 x2 x3 x4 x5 x6 x7 x8 x9 x10 x11 : Option Value} {x : Nat} (d : decode cc pc = .ok (.astore 11, 2)) (hp : noLong x10) (k : Φ (pc + 2) (x0 :: x1 :: x2 :: x3 :: x4 :: x5 :: x6 :: x7 :: x8 :: x9 :: x10 :: some (.ref x) :: rest) st σ) : Φ pc (x0 :: x1 :: x2 :: x3 :: x4 :: x5 :: x6 :: x7 :: x8 :: x9 :: x10 :: x11 :: rest) (.ref x :: st) σ := j_astore0 M d (by simp) (fun o ho => by simp at ho; subst ho; exact hp) k
theorem j_iinc_11 (M : Mach l G own cc nL ret fr lo post Φ) {x0 x1 x2 x3 x4 x5 x6 x7 x8 x9 x10 : Option Value} {n : Int} {x v : Int32} (d : decode cc pc = .ok (.iinc 11 n, 3)) (hv : x + Int32.ofInt n = v) (hp : noLong x10) (k : Φ (pc + 3) (x0 :: x1 :: x2 :: x3 :: x4 :: x5 :: x6 :: x7 :: x8 :: x9 :: x10 :: some (.int v) :: rest) st σ) : Φ pc (x0 :: x1 :: x2 :: x3 :: x4 :: x5 :: x6 :: x7 :: x8 :: x9 :: x10 :: some (.int x) :: rest) st σ := j_iinc0 M d (by simp) hv (fun o ho => by simp at ho; subst ho; exact hp) k
theorem j_lstore_11 (M : Mach l G own cc nL ret fr lo post Φ) {x0 x1 x2 x3 x4 x5 x6 x7 x8 x9 x10 x11 x12 : Option Value} {x : Int64} (d : decode cc pc = .ok (.lstore 11, 2)) (hp : noLong x10) (k : Φ (pc + 2) (x0 :: x1 :: x2 :: x3 :: x4 :: x5 :: x6 :: x7 :: x8 :: x9 :: x10 :: some (.long x) :: none :: rest) st σ) : Φ pc (x0 :: x1 :: x2 :: x3 :: x4 :: x5 :: x6 :: x7 :: x8 :: x9 :: x10 :: x11 :: x12 :: rest) (.long x :: st) σ := j_lstore0 M d (by simp) (fun o ho => by simp at ho; subst ho; exact hp) k
theorem j_istore_12 (M : Mach l G own cc nL ret fr lo post Φ) {x0 x1 x2 x3 x4 x5 x6 x7 x8 x9 x10 x11 x12 : Option Value} {x : Int32} (d : decode cc pc = .ok (.istore 12, 2)) (hp : noLong x11) (k : Φ (pc + 2) (x0 :: x1 :: x2 :: x3 :: x4 :: x5 :: x6 :: x7 :: x8 :: x9 :: x10 :: x11 :: some (.int x) :: rest) st σ) : Φ pc (x0 :: x1 :: x2 :: x3 :: x4 :: x5 :: x6 :: x7 :: x8 :: x9 :: x10 :: x11 :: x12 :: rest) (.int x :: st) σ := j_istore0 M d (by simp) (fun o ho => by simp at ho; subst ho; exact hp) k
theorem j_astore_12 (M : Mach l G own cc nL ret fr lo post Φ) {x0 x1 x2 x3 x4 x5 x6 x7 x8 x9 x10 x11 x12 : Option Value} {x : Nat} (d : decode cc pc = .ok (.astore 12, 2)) (hp : noLong x11) (k : Φ (pc + 2) (x0 :: x1 :: x2 :: x3 :: x4 :: x5 :: x6 :: x7 :: x8 :: x9 :: x10 :: x11 :: some (.ref x) :: rest) st σ) : Φ pc (x0 :: x1 :: x2 :: x3 :: x4 :: x5 :: x6 :: x7 :: x8 :: x9 :: x10 :: x11 :: x12 :: rest) (.ref x :: st) σ := j_astore0 M d (by simp) (fun o ho => by simp at ho; subst ho; exact hp) k
theorem j_iinc_12 (M : Mach l G own cc nL ret fr lo post Φ) {x0 x1 x2 x3 x4 x5 x6 x7 x8 x9 x10 x11 : Option Value} {n : Int} {x v : Int32} (d : decode cc pc = .ok (.iinc 12 n, 3)) (hv : x + Int32.ofInt n = v) (hp : noLong x11) (k : Φ (pc + 3) (x0 :: x1 :: x2 :: x3 :: x4 :: x5 :: x6 :: x7 :: x8 :: x9 :: x10 :: x11 :: some (.int v) :: rest) st σ) : Φ pc (x0 :: x1 :: x2 :: x3 :: x4 :: x5 :: x6 :: x7 :: x8 :: x9 :: x10 :: x11 :: some (.int x) :: rest) st σ := j_iinc0 M d (by simp) hv (fun o ho => by simp at ho; subst ho; exact hp) k
theorem j_lstore_12 (M : Mach l G own cc nL ret fr lo post Φ) {x0 x1 x2 x3 x4 x5 x6 x7 x8 x9 x10 x11 x12 x13 : Option Value} {x : Int64} (d : decode cc pc = .ok (.lstore 12, 2)) (hp : noLong x11) (k : Φ (pc + 2) (x0 :: x1 :: x2 :: x3 :: x4 :: x5 :: x6 :: x7 :: x8 :: x9 :: x10 :: x11 :: some (.long x) :: none :: rest) st σ) : Φ pc (x0 :: x1 :: x2 :: x3 :: x4 :: x5 :: x6 :: x7 :: x8 :: x9 :: x10 :: x11 :: x12 :: x13 :: rest) (.long x :: st) σ := j_lstore0 M d (by simp) (fun o ho => by simp at ho; subst ho; exact hp) k
theorem j_istore_13 (M : Mach l G own cc nL ret fr lo post Φ) {x0 x1 x2 x3 x4 x5 x6 x7 x8 x9 x10 x11 x12 x13 : Option Value} {x : Int32} (d : decode cc pc = .ok (.istore 13, 2)) (hp : noLong x12) (k : Φ (pc + 2) (x0 :: x1 :: x2 :: x3 :: x4 :: x5 :: x6 :: x7 :: x8 :: x9 :: x10 :: x11 :: x12 :: some (.int x) :: rest) st σ) : Φ pc (x0 :: x1 :: x2 :: x3 :: x4 :: x5 :: x6 :: x7 :: x8 :: x9 :: x10 :: x11 :: x12 :: x13 :: rest) (.int x :: st) σ := j_istore0 M d (by simp) (fun o ho => by simp at ho; subst ho; exact hp) k
theorem j_astore_13 (M : Mach l G own cc nL ret fr lo post Φ) {x0 x1 x2 x3 x4 x5 x6 x7 x8 x9 x10 x11 x12 x13 : Option Value} {x : Nat} (d : decode cc pc = .ok (.astore 13, 2)) (hp : noLong x12) (k : Φ (pc + 2) (x0 :: x1 :: x2 :: x3 :: x4 :: x5 :: x6 :: x7 :: x8 :: x9 :: x10 :: x11 :: x12 :: some (.ref x) :: rest) st σ) : Φ pc (x0 :: x1 :: x2 :: x3 :: x4 :: x5 :: x6 :: x7 :: x8 :: x9 :: x10 :: x11 :: x12 :: x13 :: rest) (.ref x :: st) σ := j_astore0 M d (by simp) (fun o ho => by simp at ho; subst ho; exact hp) k
theorem j_iinc_13 (M : Mach l G own cc nL ret fr lo post Φ) {x0 x1 x2 x3 x4 x5 x6 x7 x8 x9 x10 x11 x12 : Option Value} {n : Int} {x v : Int32} (d : decode cc pc = .ok (.iinc 13 n, 3)) (hv : x + Int32.ofInt n = v) (hp : noLong x12) (k : Φ (pc + 3) (x0 :: x1 :: x2 :: x3 :: x4 :: x5 :: x6 :: x7 :: x8 :: x9 :: x10 :: x11 :: x12 :: some (.int v) :: rest) st σ) : Φ pc (x0 :: x1 :: x2 :: x3 :: x4 :: x5 :: x6 :: x7 :: x8 :: x9 :: x10 :: x11 :: x12 :: some (.int x) :: rest) st σ := j_iinc0 M d (by simp) hv (fun o ho => by simp at ho; subst ho; exact hp) k
theorem j_lstore_13 (M : Mach l G own cc nL ret fr lo post Φ) {x0 x1 x2 x3 x4 x5 x6 x7 x8 x9 x10 x11 x12 x13 x14 : Option Value} {x : Int64} (d : decode cc pc = .ok (.lstore 13, 2)) (hp : noLong x12) (k : Φ (pc + 2) (x0 :: x1 :: x2 :: x3 :: x4 :: x5 :: x6 :: x7 :: x8 :: x9 :: x10 :: x11 :: x12 :: some (.long x) :: none :: rest) st σ) : Φ pc (x0 :: x1 :: x2 :: x3 :: x4 :: x5 :: x6 :: x7 :: x8 :: x9 :: x10 :: x11 :: x12 :: x13 :: x14 :: rest) (.long x :: st) σ := j_lstore0 M d (by simp) (fun o ho => by simp at ho; subst ho; exact hp) k
theorem j_istore_14 (M : Mach l G own cc nL ret fr lo post Φ) {x0 x1 x2 x3 x4 x5 x6 x7 x8 x9 x10 x11 x12 x13 x14 : Option Value} {x : Int32} (d : decode cc pc = .ok (.istore 14, 2)) (hp : noLong x13) (k : Φ (pc + 2) (x0 :: x1 :: x2 :: x3 :: x4 :: x5 :: x6 :: x7 :: x8 :: x9 :: x10 :: x11 :: x12 :: x13 :: some (.int x) :: rest) st σ) : Φ pc (x0 :: x1 :: x2 :: x3 :: x4 :: x5 :: x6 :: x7 :: x8 :: x9 :: x10 :: x11 :: x12 :: x13 :: x14 :: rest) (.int x :: st) σ := j_istore0 M d (by simp) (fun o ho => by simp at ho; subst ho; exact hp) k
theorem j_astore_14 (M : Mach l G own cc nL ret fr lo post Φ) {x0 x1 x2 x3 x4 x5 x6 x7 x8 x9 x10 x11 x12 x13 x14 : Option Value} {x : Nat} (d : decode cc pc = .ok (.astore 14, 2)) (hp : noLong x13) (k : Φ (pc + 2) (x0 :: x1 :: x2 :: x3 :: x4 :: x5 :: x6 :: x7 :: x8 :: x9 :: x10 :: x11 :: x12 :: x13 :: some (.ref x) :: rest) st σ) : Φ pc (x0 :: x1 :: x2 :: x3 :: x4 :: x5 :: x6 :: x7 :: x8 :: x9 :: x10 :: x11 :: x12 :: x13 :: x14 :: rest) (.ref x :: st) σ := j_astore0 M d (by simp) (fun o ho => by simp at ho; subst ho; exact hp) k
theorem j_iinc_14 (M : Mach l G own cc nL ret fr lo post Φ) {x0 x1 x2 x3 x4 x5 x6 x7 x8 x9 x10 x11 x12 x13 : Option Value} {n : Int} {x v : Int32} (d : decode cc pc = .ok (.iinc 14 n, 3)) (hv : x + Int32.ofInt n = v) (hp : noLong x13) (k : Φ (pc + 3) (x0 :: x1 :: x2 :: x3 :: x4 :: x5 :: x6 :: x7 :: x8 :: x9 :: x10 :: x11 :: x12 :: x13 :: some (.int v) :: rest) st σ) : Φ pc (x0 :: x1 :: x2 :: x3 :: x4 :: x5 :: x6 :: x7 :: x8 :: x9 :: x10 :: x11 :: x12 :: x13 :: some (.int x) :: rest) st σ := j_iinc0 M d (by simp) hv (fun o ho => by simp at ho; subst ho; exact hp) k
theorem j_lstore_14 (M : Mach l G own cc nL ret fr lo post Φ) {x0 x1 x2 x3 x4 x5 x6 x7 x8 x9 x10 x11 x12 x13 x14 x15 : Option Value} {x : Int64} (d : decode cc pc = .ok (.lstore 14, 2)) (hp : noLong x13) (k : Φ (pc + 2) (x0 :: x1 :: x2 :: x3 :: x4 :: x5 :: x6 :: x7 :: x8 :: x9 :: x10 :: x11 :: x12 :: x13 :: some (.long x) :: none :: rest) st σ) : Φ pc (x0 :: x1 :: x2 :: x3 :: x4 :: x5 :: x6 :: x7 :: x8 :: x9 :: x10 :: x11 :: x12 :: x13 :: x14 :: x15 :: rest) (.long x :: st) σ := j_lstore0 M d (by simp) (fun o ho => by simp at ho; subst ho; exact hp) k
theorem j_istore_15 (M : Mach l G own cc nL ret fr lo post Φ) {x0 x1 x2 x3 x4 x5 x6 x7 x8 x9 x10 x11 x12 x13 x14 x15 : Option Value} {x : Int32} (d : decode cc pc = .ok (.istore 15, 2)) (hp : noLong x14) (k : Φ (pc + 2) (x0 :: x1 :: x2 :: x3 :: x4 :: x5 :: x6 :: x7 :: x8 :: x9 :: x10 :: x11 :: x12 :: x13 :: x14 :: some (.int x) :: rest) st σ) : Φ pc (x0 :: x1 :: x2 :: x3 :: x4 :: x5 :: x6 :: x7 :: x8 :: x9 :: x10 :: x11 :: x12 :: x13 :: x14 :: x15 :: rest) (.int x :: st) σ := j_istore0 M d (by simp) (fun o ho => by simp at ho; subst ho; exact hp) k
theorem j_astore_15 (M : Mach l G own cc nL ret fr lo post Φ) {x0 x1 x2 x3 x4 x5 x6 x7 x8 x9 x10 x11 x12 x13 x14 x15 : Option Value} {x : Nat} (d : decode cc pc = .ok (.astore 15, 2)) (hp : noLong x14) (k : Φ (pc + 2) (x0 :: x1 :: x2 :: x3 :: x4 :: x5 :: x6 :: x7 :: x8 :: x9 :: x10 :: x11 :: x12 :: x13 :: x14 :: some (.ref x) :: rest) st σ) : Φ pc (x0 :: x1 :: x2 :: x3 :: x4 :: x5 :: x6 :: x7 :: x8 :: x9 :: x10 :: x11 :: x12 :: x13 :: x14 :: x15 :: rest) (.ref x :: st) σ := j_astore0 M d (by simp) (fun o ho => by simp at ho; subst ho; exact hp) k
theorem j_iinc_15 (M : Mach l G own cc nL ret fr lo post Φ) {x0 x1 x2 x3 x4 x5 x6 x7 x8 x9 x10 x11 x12 x13 x14 : Option Value} {n : Int} {x v : Int32} (d : decode cc pc = .ok (.iinc 15 n, 3)) (hv : x + Int32.ofInt n = v) (hp : noLong x14) (k : Φ (pc + 3) (x0 :: x1 :: x2 :: x3 :: x4 :: x5 :: x6 :: x7 :: x8 :: x9 :: x10 :: x11 :: x12 :: x13 :: x14 :: some (.int v) :: rest) st σ) : Φ pc (x0 :: x1 :: x2 :: x3 :: x4 :: x5 :: x6 :: x7 :: x8 :: x9 :: x10 :: x11 :: x12 :: x13 :: x14 :: some (.int x) :: rest) st σ := j_iinc0 M d (by simp) hv (fun o ho => by simp at ho; subst ho; exact hp) k
theorem j_lstore_15 (M : Mach l G own cc nL ret fr lo post Φ) {x0 x1 x2 x3 x4 x5 x6 x7 x8 x9 x10 x11 x12 x13 x14 x15 x16 : Option Value} {x : Int64} (d : decode cc pc = .ok (.lstore 15, 2)) (hp : noLong x14) (k : Φ (pc + 2) (x0 :: x1 :: x2 :: x3 :: x4 :: x5 :: x6 :: x7 :: x8 :: x9 :: x10 :: x11 :: x12 :: x13 :: x14 :: some (.long x) :: none :: rest) st σ) : Φ pc (x0 :: x1 :: x2 :: x3 :: x4 :: x5 :: x6 :: x7 :: x8 :: x9 :: x10 :: x11 :: x12 :: x13 :: x14 :: x15 :: x16 :: rest) (.long x :: st) σ := j_lstore0 M d (by simp) (fun o ho => by simp at ho; subst ho; exact hp) k
end Rows2
end
section
theorem cel_lib (G : Gw) {c : Nat} (h : isLib c) (k : Nat) (f : Int32 → Int32) : cel G c k f = celL G c k f := by
  obtain ⟨h1, h2⟩ := h
  obtain ⟨d, rfl⟩ : ∃ d, c = d + 6 := ⟨c - 6, by omega⟩
  show (if d < 29 then celL G (d + 6) k f else celM G k f) = _
  rw [if_pos (by omega)]
theorem vld_lib {c k : Nat} (h : isLib c) (hk : k < 9) : vld c k = true := by
  obtain ⟨h1, h2⟩ := h
  obtain ⟨d, rfl⟩ : ∃ d, c = d + 6 := ⟨c - 6, by omega⟩
  show (if d < 29 then decide (k < 9) else _) = true
  rw [if_pos (by omega)]
  simpa using hk
theorem lib_now : isLib 6 := ⟨by decide, by decide⟩
theorem lib_draft : isLib 7 := ⟨by decide, by decide⟩
theorem lib_im0 : isLib 8 := ⟨by decide, by decide⟩
theorem lib_im1 : isLib 9 := ⟨by decide, by decide⟩
theorem lib_then : isLib 10 := ⟨by decide, by decide⟩
theorem i_ok {i n' : Int32} {n : Nat} (h0 : 0 ≤ i) (h1 : i < n') (hn : nI n = n') (hn2 : n < 2147483648) : i.toNatClampNeg < n ∧ nI i.toNatClampNeg = i ∧ vp_in i n := by
  subst hn
  have h0' : ¬ i < 0 := Int32.not_lt.mpr h0
  obtain ⟨j, hj, rfl⟩ := nI_of h0'
  have h1' : j < n := (nI_ltI hj hn2).mp h1
  rw [nI_clamp hj]
  exact ⟨h1', rfl, vp_in_nI h1' hn2⟩
theorem ofF_at {f : Int32 → Int32} {i : Int32} {n : Nat} (h : i.toNatClampNeg < n ∧ nI i.toNatClampNeg = i ∧ vp_in i n) (hn2 : n < 2147483648) : ofF f i.toNatClampNeg = f i := by
  unfold ofF
  rw [if_pos (by omega), h.2.1]
theorem ofF_upd {f : Int32 → Int32} {i x : Int32} {n : Nat} (h : i.toNatClampNeg < n ∧ nI i.toNatClampNeg = i ∧ vp_in i n) (hn2 : n < 2147483648) : upd (ofF f) i.toNatClampNeg x = ofF (upI f i x) := by
  funext j
  unfold upd ofF upI
  by_cases hj : j = i.toNatClampNeg
  · subst hj
    rw [if_pos rfl, if_pos (by omega), if_pos h.2.1]
  · rw [if_neg hj]
    by_cases hb : j < 2147483648
    · rw [if_pos hb, if_pos hb, if_neg]
      intro e
      apply hj
      rw [← e, nI_clamp hb]
    · rw [if_neg hb, if_neg hb]
theorem Wk.calling {G : Gw} {U : State} (h : Wk G U) (g : JFrame) (mk : MethodId) (a : Array Value) : Wk G (U.calling g mk a) :=
  ⟨h.1, va_K.moved (u := U) (U := U.calling g mk a) (Vm.Alike.refl U.vm) h.2.1, va_Z.moved (u := U) (U := U.calling g mk a) (Vm.Alike.refl U.vm) h.2.2.1, va_T.moved (u := U) (U := U.calling g mk a) (Vm.Alike.refl U.vm) h.2.2.2.1,
    va_Nw.same (u := U) (U := U.calling g mk a) rfl rfl h.2.2.2.2.1, va_Nw.same (u := U) (U := U.calling g mk a) rfl rfl h.2.2.2.2.2.1, va_Nw.same (u := U) (U := U.calling g mk a) rfl rfl h.2.2.2.2.2.2⟩
section Mem
variable {l : Launch} {G : Gw} {own : String} {cc : ByteArray} {nL fr lo : Nat} {ret : Option FieldType} {post : Option Value → Sg → Prop} {Φ : Ph} {pc : Nat} {L : List (Option Value)} {st : List Value} {σ : Sg}
theorem j_getf (M : Mach l G own cc nL ret fr lo post Φ) {c ci index N k : Nat} {C : String} {T : u_T} {fs : List Value} {v : Value} (hv : vld c 0 = true) (hc : cel G c 0 (σ c 0) = .inr (ci, fs)) (hcl : vwCl[ci]? = some (C, T, N)) (hk : k < N) (hin : ∀ w ∈ u_ws C T N, w ∈ tws) (hlink : Cond.fieldLink own index (T k).1 (T k).2.1 (T k).2.2.1 ∈ tws) (hfs : fs[k]? = some v) (d : decode cc pc = .ok (.getfield index, 3)) (kk : Φ (pc + 3) L (v :: st) σ) : Φ pc L (.ref (ad G c 0) :: st) σ := by
  obtain ⟨p, e, R, s, m, args, below, meth, cd, cells, slots, Q, ⟨hx, hb, hml, hown, hts⟩, hWk, hRm, hRet, rfl⟩ := M
  intro hn H locs ls hW hS hl
  obtain ⟨i, hi, he⟩ := wl_at (G := G) (σ := σ) hv
  rw [hc] at he
  exact va_get hx hb hts hin hown hWk.2.1 hW i he hcl k hk (hts _ hlink) (fun _ h9 => h9) hfs d (kk hn H locs ls hW hS hl)
theorem j_getfN (M : Mach l G own cc nL ret fr lo post Φ) {c ci index N k : Nat} {C host : String} {T : u_T} {fs : List Value} {v : Value} (hv : vld c 0 = true) (hc : cel G c 0 (σ c 0) = .inr (ci, fs)) (hcl : vwCl[ci]? = some (C, T, N)) (hk : k < N) (hin : ∀ w ∈ u_ws C T N, w ∈ tws) (hlink : ∀ U, Wk G U → va_Nw (.fieldLinkNest own index (T k).1 (T k).2.1 (T k).2.2.1 host) U) (hfs : fs[k]? = some v) (d : decode cc pc = .ok (.getfield index, 3)) (kk : Φ (pc + 3) L (v :: st) σ) : Φ pc L (.ref (ad G c 0) :: st) σ := by
  obtain ⟨p, e, R, s, m, args, below, meth, cd, cells, slots, Q, ⟨hx, hb, hml, hown, hts⟩, hWk, hRm, hRet, rfl⟩ := M
  intro hn H locs ls hW hS hl
  obtain ⟨i, hi, he⟩ := wl_at (G := G) (σ := σ) hv
  rw [hc] at he
  exact va_getN hx hb hts hin hown hWk.2.1 hW i he hcl k hk (va_Nw.use rfl (hlink _ hWk)) (fun _ h9 => h9) hfs d (kk hn H locs ls hW hS hl)
theorem j_putf (M : Mach l G own cc nL ret fr lo post Φ) {c ci index N k : Nat} {C : String} {T : u_T} {ty0 : Nat → FieldType} {fs : List Value} {v : Value} {f' : Int32 → Int32} (hv : vld c 0 = true) (hc : cel G c 0 (σ c 0) = .inr (ci, fs)) (hcl : vwCl[ci]? = some (C, T, N)) (hk : k < N) (hin : ∀ w ∈ u_ws C T N, w ∈ tws) (hty : ∀ k, k < N → parseFieldDescriptor (T k).2.2.1 = some (ty0 k)) (hnm : ∀ a, a < N → ∀ b, b < N → a ≠ b → (T a).2.1 ≠ (T b).2.1) (hlink : Cond.fieldLink own index (T k).1 (T k).2.1 (T k).2.2.1 ∈ tws) (hfin : (T k).2.2.2 = false) (hn : narrow (ty0 k) v = v) (hfit : fits (ty0 k) v = true) (hlen : k < fs.length) (hc' : cel G c 0 f' = .inr (ci, fs.set k v)) (d : decode cc pc = .ok (.putfield index, 3)) (kk : Φ (pc + 3) L st (up σ c 0 f')) : Φ pc L (v :: .ref (ad G c 0) :: st) σ := by
  obtain ⟨p, e, R, s, m, args, below, meth, cd, cells, slots, Q, ⟨hx, hb, hml, hown, hts⟩, hWk, hRm, hRet, rfl⟩ := M
  intro hn' H locs ls hW hS hl
  obtain ⟨i, hi, he⟩ := wl_at (G := G) (σ := σ) hv
  rw [hc] at he
  refine va_put hx hb hts hin ty0 hty hnm hown hWk.2.1 hW (wl_D hWk.1 σ) hS i he hcl k hk (hts _ hlink) (fun _ h9 => h9) hfin (hty k hk) hn hfit hlen d (fun H1 locs1 hP hD hS1 => ?_)
  rw [← hc', wl_set hi] at hP
  exact kk hn' H1 locs1 ls hP hS1 hl
theorem j_iald (M : Mach l G own cc nL ret fr lo post Φ) {c k n : Nat} {n' i : Int32} (hv : vld c k = true) (hc : cel G c k (σ c k) = iarr G n (σ c k)) (hn' : nI n = n') (hn2 : n < 2147483648) (d : decode cc pc = .ok (.iaload, 1)) (h0 : 0 ≤ i) (h1 : i < n') (kk : Φ (pc + 1) L (.int (σ c k i) :: st) σ) : Φ pc L (.int i :: .ref (ad G c k) :: st) σ := by
  obtain ⟨p, e, R, s, m, args, below, meth, cd, cells, slots, Q, ⟨hx, hb, hml, hown, hts⟩, hWk, hRm, hRet, rfl⟩ := M
  intro hn H locs ls hW hS hl
  obtain ⟨q, hi, he⟩ := wl_at (G := G) (σ := σ) hv
  rw [hc] at he
  have hk := i_ok h0 h1 hn' hn2
  refine va_iald hx hb hWk.2.1 hW q 0 he rfl hk.2.2 d ?_
  rw [ofF_at hk hn2]
  exact kk hn H locs ls hW hS hl
theorem j_zald (M : Mach l G own cc nL ret fr lo post Φ) {c k n : Nat} {n' i : Int32} (hv : vld c k = true) (hc : cel G c k (σ c k) = zarr G n (σ c k)) (hn' : nI n = n') (hn2 : n < 2147483648) (d : decode cc pc = .ok (.baload, 1)) (h0 : 0 ≤ i) (h1 : i < n') (kk : Φ (pc + 1) L (.int (σ c k i) :: st) σ) : Φ pc L (.int i :: .ref (ad G c k) :: st) σ := by
  obtain ⟨p, e, R, s, m, args, below, meth, cd, cells, slots, Q, ⟨hx, hb, hml, hown, hts⟩, hWk, hRm, hRet, rfl⟩ := M
  intro hn H locs ls hW hS hl
  obtain ⟨q, hi, he⟩ := wl_at (G := G) (σ := σ) hv
  rw [hc] at he
  have hk := i_ok h0 h1 hn' hn2
  refine va_zald hx hb hWk.2.1 hW q 1 he rfl hk.2.2 d ?_
  rw [ofF_at hk hn2]
  exact kk hn H locs ls hW hS hl
theorem j_aald (M : Mach l G own cc nL ret fr lo post Φ) {c k n b : Nat} {n' i : Int32} (hv : vld c k = true) (hc : cel G c k (σ c k) = larr G n b) (hn' : nI n = n') (hn2 : n < 2147483648) (d : decode cc pc = .ok (.aaload, 1)) (h0 : 0 ≤ i) (h1 : i < n') (kk : Φ (pc + 1) L (.ref (ad G (b + i.toNatClampNeg) 0) :: st) σ) : Φ pc L (.int i :: .ref (ad G c k) :: st) σ := by
  obtain ⟨p, e, R, s, m, args, below, meth, cd, cells, slots, Q, ⟨hx, hb, hml, hown, hts⟩, hWk, hRm, hRet, rfl⟩ := M
  intro hn H locs ls hW hS hl
  obtain ⟨q, hi, he⟩ := wl_at (G := G) (σ := σ) hv
  rw [hc] at he
  have hk := i_ok h0 h1 hn' hn2
  exact va_aldq hx hb hWk.2.1 hW q 2 he rfl hk.2.2 d (kk hn H locs ls hW hS hl)
theorem j_iast (M : Mach l G own cc nL ret fr lo post Φ) {c k n : Nat} {n' i x : Int32} (hv : vld c k = true) (hc : ∀ f, cel G c k f = iarr G n f) (hn' : nI n = n') (hn2 : n < 2147483648) (d : decode cc pc = .ok (.iastore, 1)) (h0 : 0 ≤ i) (h1 : i < n') (kk : Φ (pc + 1) L st (up σ c k (upI (σ c k) i x))) : Φ pc L (.int x :: .int i :: .ref (ad G c k) :: st) σ := by
  obtain ⟨p, e, R, s, m, args, below, meth, cd, cells, slots, Q, ⟨hx, hb, hml, hown, hts⟩, hWk, hRm, hRet, rfl⟩ := M
  intro hn H locs ls hW hS hl
  obtain ⟨q, hi, he⟩ := wl_at (G := G) (σ := σ) hv
  rw [hc] at he
  have hk := i_ok h0 h1 hn' hn2
  refine va_iast hx hb hWk.2.1 hW (wl_D hWk.1 σ) hS q 0 he rfl hk.2.2 d (fun H1 locs1 hP hD hS1 => ?_)
  rw [ofF_upd hk hn2, show (Sum.inl (G.2.1.1, n, Sum.inl (ofF (upI (σ c k) i x))) : va_E) = cel G c k (upI (σ c k) i x) from (hc _).symm, wl_set hi] at hP
  exact kk hn H1 locs1 ls hP hS1 hl
theorem j_zast (M : Mach l G own cc nL ret fr lo post Φ) {c k n : Nat} {n' i x : Int32} (hv : vld c k = true) (hc : ∀ f, cel G c k f = zarr G n f) (hn' : nI n = n') (hn2 : n < 2147483648) (hz : vp_nar .boolean x = x) (d : decode cc pc = .ok (.bastore, 1)) (h0 : 0 ≤ i) (h1 : i < n') (kk : Φ (pc + 1) L st (up σ c k (upI (σ c k) i x))) : Φ pc L (.int x :: .int i :: .ref (ad G c k) :: st) σ := by
  obtain ⟨p, e, R, s, m, args, below, meth, cd, cells, slots, Q, ⟨hx, hb, hml, hown, hts⟩, hWk, hRm, hRet, rfl⟩ := M
  intro hn H locs ls hW hS hl
  obtain ⟨q, hi, he⟩ := wl_at (G := G) (σ := σ) hv
  rw [hc] at he
  have hk := i_ok h0 h1 hn' hn2
  refine va_zast hx hb hWk.2.1 hW (wl_D hWk.1 σ) hS q 1 he rfl hk.2.2 d (fun H1 locs1 hP hD hS1 => ?_)
  rw [hz, ofF_upd hk hn2, show (Sum.inl (G.2.1.2.1, n, Sum.inl (ofF (upI (σ c k) i x))) : va_E) = cel G c k (upI (σ c k) i x) from (hc _).symm, wl_set hi] at hP
  exact kk hn H1 locs1 ls hP hS1 hl
theorem j_bkget (M : Mach l G RX6 cc nL ret fr lo post Φ) {index : Nat} (hlink : Cond.fieldLink RX6 index RX6 "BROADER_KIND" "[I" ∈ tws) (d : decode cc pc = .ok (.getstatic index, 3)) (kk : Φ (pc + 3) L (.ref (bkA G) :: st) σ) : Φ pc L st σ := by
  obtain ⟨p, e, R, s, m, args, below, meth, cd, cells, slots, Q, ⟨hx, hb, hml, hown, hts⟩, hWk, hRm, hRet, rfl⟩ := M
  intro hn H locs ls hW hS hl
  exact va_gets hx hb hWk.2.2.1 hS hown (hts _ hlink) (fun _ h => h) d (kk hn H locs ls hW hS hl)
theorem j_bklen (M : Mach l G own cc nL ret fr lo post Φ) (d : decode cc pc = .ok (.arraylength, 1)) (kk : Φ (pc + 1) L (.int 6 :: st) σ) : Φ pc L (.ref (bkA G) :: st) σ := by
  obtain ⟨p, e, R, s, m, args, below, meth, cd, cells, slots, Q, ⟨hx, hb, hml, hown, hts⟩, hWk, hRm, hRet, rfl⟩ := M
  intro hn H locs ls hW hS hl
  exact va_tlen hx hb hWk.2.2.2.1 hS rfl d (kk hn H locs ls hW hS hl)
theorem j_bkld (M : Mach l G own cc nL ret fr lo post Φ) {i : Int32} {v : Value} (hv : bkf i.toNatClampNeg = v) (d : decode cc pc = .ok (.iaload, 1)) (h0 : 0 ≤ i) (h1 : i < 6) (kk : Φ (pc + 1) L (v :: st) σ) : Φ pc L (.int i :: .ref (bkA G) :: st) σ := by
  obtain ⟨p, e, R, s, m, args, below, meth, cd, cells, slots, Q, ⟨hx, hb, hml, hown, hts⟩, hWk, hRm, hRet, rfl⟩ := M
  intro hn H locs ls hW hS hl
  exact va_ti hx hb hWk.2.2.2.1 hS (i_ok h0 h1 (n := 6) rfl (by decide)).2.2 hv d (kk hn H locs ls hW hS hl)
theorem j_min (M : Mach l G own cc nL ret fr lo post Φ) {index : Nat} {x y : Int32} (h1 : Cond.methodLink own index Lib.Math.min.name ∈ tws) (h2 : Cond.static Lib.Math.min.name ∈ tws) (h3 : Cond.initialized "java/lang/Math" ∈ tws) (h4 : Cond.code Lib.Math.min.name Lib.Math.min.code 2 (some .int) ∈ tws) (hfr : 1 ≤ fr) (hlo : (st.map fun v => v.category).sum + 13 ≤ lo) (d : decode cc pc = .ok (.invokestatic index, 3)) (kk : Φ (pc + 3) L (.int (if y < x then y else x) :: st) σ) : Φ pc L (.int y :: .int x :: st) σ := by
  obtain ⟨p, e, R, s, m, args, below, meth, cd, cells, slots, Q, ⟨hx, hb, hml, hown, hts⟩, hWk, hRm, hRet, rfl⟩ := M
  intro hn H locs ls hW hS hl
  exact va_mmin hx hb (hml.trans (hn.symm.trans hl.1.symm)) hown (hts _ h1) (hts _ h2) (hts _ h3) (hts _ h4) (Nat.le_trans hfr hRm.1) (Nat.le_trans hlo hRm.2.1) hRm.2.2.1 hRm.2.2.2 d (kk hn H locs ls hW hS hl)
theorem j_abs (M : Mach l G own cc nL ret fr lo post Φ) {index : Nat} {x : Int32} (h1 : Cond.methodLink own index Lib.Math.abs.name ∈ tws) (h2 : Cond.static Lib.Math.abs.name ∈ tws) (h3 : Cond.initialized "java/lang/Math" ∈ tws) (h4 : Cond.code Lib.Math.abs.name Lib.Math.abs.code 1 (some .int) ∈ tws) (hfr : 1 ≤ fr) (hlo : (st.map fun v => v.category).sum + 13 ≤ lo) (d : decode cc pc = .ok (.invokestatic index, 3)) (kk : Φ (pc + 3) L (.int (if 0 ≤ x then x else 0 - x) :: st) σ) : Φ pc L (.int x :: st) σ := by
  obtain ⟨p, e, R, s, m, args, below, meth, cd, cells, slots, Q, ⟨hx, hb, hml, hown, hts⟩, hWk, hRm, hRet, rfl⟩ := M
  intro hn H locs ls hW hS hl
  exact va_mabs hx hb (hml.trans (hn.symm.trans hl.1.symm)) hown (hts _ h1) (hts _ h2) (hts _ h3) (hts _ h4) (Nat.le_trans hfr hRm.1) (Nat.le_trans hlo hRm.2.1) hRm.2.2.1 hRm.2.2.2 d (kk hn H locs ls hW hS hl)
/-! calls -/
def LkV (own : String) (index : Nat) (C : String) (y : MethodName) (bytes : ByteArray) (maxL : Nat) (rt : Option FieldType) (n : Nat) : Prop :=
  Cond.methodLink own index y ∈ tws ∧ Cond.instanceMethod y ∈ tws ∧ Cond.selects C y y ∈ tws ∧ Cond.initialized y.cls ∈ tws ∧ Cond.code y bytes maxL rt ∈ tws ∧ (y.cls ≠ "java/lang/invoke/MethodHandle" ∧ y.cls ≠ "java/lang/invoke/VarHandle" ∧ (parseMethodDescriptor y.desc).map (fun d => d.parameters.length) = some n)
def LkS (own : String) (index : Nat) (y : MethodName) (bytes : ByteArray) (maxL : Nat) (rt : Option FieldType) (n : Nat) : Prop :=
  Cond.methodLink own index y ∈ tws ∧ Cond.static y ∈ tws ∧ Cond.initialized y.cls ∈ tws ∧ Cond.code y bytes maxL rt ∈ tws ∧ (y.cls ≠ "java/lang/invoke/MethodHandle" ∧ y.cls ≠ "java/lang/invoke/VarHandle" ∧ (parseMethodDescriptor y.desc).map (fun d => d.parameters.length) = some n)
def LkN (G : Gw) (own : String) (index : Nat) (y : MethodName) (host : String) (bytes : ByteArray) (maxL : Nat) (rt : Option FieldType) (n : Nat) : Prop :=
  (∀ U, Wk G U → va_Nw (.methodLinkNest own index y host) U) ∧ Cond.static y ∈ tws ∧ Cond.initialized y.cls ∈ tws ∧ Cond.code y bytes maxL rt ∈ tws ∧ (y.cls ≠ "java/lang/invoke/MethodHandle" ∧ y.cls ≠ "java/lang/invoke/VarHandle" ∧ (parseMethodDescriptor y.desc).map (fun d => d.parameters.length) = some n)
def Recv (G : Gw) (σ : Sg) (C : String) (b : Nat) : Prop := ∃ (i ci : Nat) (fs : List Value) (T : u_T) (N : Nat), (wl G σ)[i]? = some (b, .inr (ci, fs)) ∧ vwCl[ci]? = some (C, T, N)
theorem tws_good {y : MethodName} {bytes : ByteArray} {maxL : Nat} {rt : Option FieldType} (h : Cond.code y bytes maxL rt ∈ tws) : GoodIn tws (Cond.code y bytes maxL rt :: tws) := by
  intro w hw
  have : w ∈ tws := by
    rcases List.mem_cons.mp hw with e | e
    · rw [e]; exact h
    · exact e
  exact ⟨this, good_of_word (List.mem_filter.mp this).2⟩
theorem run_to {p : Program} {e : Env} {R : Room} {s : State} {m : MethodId} {args : Array Value} {below : List Frame} {meth : Method} {c : Code} {H : Heap} {locs : List Loc} {cells slots : Nat} {Q : State → Prop} {ls : Array Slot} {rest st0 : List Value} {a : Array Value} {ps : Option Value → Sg → Prop}
    (hr : va_Run p l e R s m args below meth c H locs cells slots 0 0 (F0 m pc ls st0) rest (Qv G ps a) (AA G)) (hS : va_S (AA G) s.heap H locs)
    (kk : ∀ (v : Option Value) (σ' : Sg) (H1 : Heap) (locs1 : List Loc), ps v σ' → Wd G σ' H1 → va_S (AA G) s.heap H1 locs1 → W p l e R s m args below meth c H1 locs1 cells slots Q (F0 m (pc + 3) ls (v.toList ++ rest))) : W p l e R s m args below meth c H locs cells slots Q (F0 m pc ls st0) := by
  intro T hT X
  obtain ⟨v, st₀, t, T', Lc, h0, X', hL, e1, e2, ⟨⟨v', σ', hv, hp, hb⟩, hz, hk⟩, st⟩ := hr T hT X
  cases hv
  rw [h0] at hz hk
  obtain ⟨t2, a1, b1⟩ := kk v σ' T'.heap (locs ++ Lc) hp (by rw [e1]; exact hb)
    ⟨Nat.le_trans hS.1 (by rw [e1]; exact hz), fun q h1 h2 => by rw [e1, hk q (Nat.lt_of_lt_of_le h1 hS.1) h2]; exact hS.2.1 q h1 h2, fun q hq => by
      rcases List.mem_append.mp hq with h | h
      · exact hS.2.2 q h
      · exact hL q h⟩ T' rfl X'
  exact ⟨t2, st t2 a1, b1⟩
theorem pc_blind {av : List Value} {σ : Sg} : FrameBlind (va_Pc av (fun U => Wd G σ U.heap ∧ Wk G U)) := by
  intro a U g mk h
  exact ⟨h.1, h.2.1, h.2.2.calling g mk a⟩
theorem wk_at {s U : State} {H : Heap} {locs : List Loc} (hWk : Wk G s) (hS : va_S (AA G) s.heap H locs) (hU : U.heap = H) (hw : s.WarmedH U.vm) : Wk G U :=
  hWk.next hw.alike hw (fun a ha hn => by rw [hU]; exact hS.2.1 a ha hn)
theorem j_inv (M : Mach l G own cc nL ret fr lo post Φ) {index maxL n fr1 lo1 b : Nat} {C : String} {y : MethodName} {bytes : ByteArray} {rt : Option FieldType} {As rest : List Value} {ps : Option Value → Sg → Prop}
    (lk : LkV own index C y bytes maxL rt n) (hM : Mt l G y bytes maxL rt fr1 lo1 (.ref b :: As) σ ps) (hrv : Recv G σ C b) (d : decode cc pc = .ok (.invokevirtual index, 3)) (hn : As.length = n) (hst : (rest.map fun v => v.category).sum ≤ 8) (hfr : fr1 + 1 ≤ fr ∧ 8 + (maxL + 11) + lo1 ≤ lo)
    (kk : ∀ v σ', ps v σ' → Φ (pc + 3) L (v.toList ++ rest) σ') : Φ pc L (As.reverse ++ .ref b :: rest) σ := by
  obtain ⟨p, e, R, s, m, args, below, meth, cd, cells, slots, Q, ⟨hx, hb, hml, hown, hts⟩, hWk, hRm, hRet, rfl⟩ := M
  intro hnL H locs ls hW hS hl
  obtain ⟨h1, h2, h3, h4, h5, h6⟩ := lk
  obtain ⟨i, ci, fs, T, N, hi, hci⟩ := hrv
  have cb := callB_of (R := R) n hts (tws_good h5) rfl (rm := { frames := fr1, cells := 0, slots := 0, locals := lo1 }) (mc := 0) (ms := 0) rfl rfl (hts _ h4) (hts _ h1) h6 ⟨Nat.le_trans hfr.1 hRm.1, Nat.le_trans hfr.2 hRm.2.1⟩
  refine run_to (va_runV (b := b) (As := As) (C := C) (rest := rest) ⟨hx, hb, hml, hown, hts⟩ hM ⟨cb, hts _ h2, hts _ h3⟩ ⟨pc_blind, va_recv hWk.2.1 hW hci hi, fun U hU hw => ⟨rfl, by rw [hU]; exact hW, wk_at hWk hS hU hw⟩⟩ rfl hn (hl.1.trans hnL) rfl (lv_room hst) d ⟨hRm.2.2.1, hRm.2.2.2⟩) hS (fun v σ' H1 locs1 hp hW1 hS1 => ?_)
  exact kk v σ' hp hnL H1 locs1 ls hW1 hS1 hl
theorem j_invs (M : Mach l G own cc nL ret fr lo post Φ) {index maxL n fr1 lo1 : Nat} {y : MethodName} {bytes : ByteArray} {rt : Option FieldType} {As rest : List Value} {ps : Option Value → Sg → Prop}
    (lk : LkS own index y bytes maxL rt n) (hM : Mt l G y bytes maxL rt fr1 lo1 As σ ps) (d : decode cc pc = .ok (.invokestatic index, 3)) (hn : As.length = n) (hst : (rest.map fun v => v.category).sum ≤ 8) (hfr : fr1 + 1 ≤ fr ∧ 8 + (maxL + 11) + lo1 ≤ lo)
    (kk : ∀ v σ', ps v σ' → Φ (pc + 3) L (v.toList ++ rest) σ') : Φ pc L (As.reverse ++ rest) σ := by
  obtain ⟨p, e, R, s, m, args, below, meth, cd, cells, slots, Q, ⟨hx, hb, hml, hown, hts⟩, hWk, hRm, hRet, rfl⟩ := M
  intro hnL H locs ls hW hS hl
  obtain ⟨h1, h2, h4, h5, h6⟩ := lk
  have cb := callB_of (R := R) n hts (tws_good h5) rfl (rm := { frames := fr1, cells := 0, slots := 0, locals := lo1 }) (mc := 0) (ms := 0) rfl rfl (hts _ h4) (hts _ h1) h6 ⟨Nat.le_trans hfr.1 hRm.1, Nat.le_trans hfr.2 hRm.2.1⟩
  refine run_to (va_runS (As := As) (rest := rest) ⟨hx, hb, hml, hown, hts⟩ hM ⟨cb, hts _ h2⟩ ⟨pc_blind, fun U hU hw => ⟨rfl, by rw [hU]; exact hW, wk_at hWk hS hU hw⟩⟩ rfl hn (hl.1.trans hnL) rfl (lv_room hst) d ⟨hRm.2.2.1, hRm.2.2.2⟩) hS (fun v σ' H1 locs1 hp hW1 hS1 => ?_)
  exact kk v σ' hp hnL H1 locs1 ls hW1 hS1 hl
theorem j_invn (M : Mach l G own cc nL ret fr lo post Φ) {index maxL n fr1 lo1 : Nat} {y : MethodName} {host : String} {bytes : ByteArray} {rt : Option FieldType} {As rest : List Value} {ps : Option Value → Sg → Prop}
    (lk : LkN G own index y host bytes maxL rt n) (hM : Mt l G y bytes maxL rt fr1 lo1 As σ ps) (d : decode cc pc = .ok (.invokestatic index, 3)) (hn : As.length = n) (hst : (rest.map fun v => v.category).sum ≤ 8) (hfr : fr1 + 1 ≤ fr ∧ 8 + (maxL + 11) + lo1 ≤ lo)
    (kk : ∀ v σ', ps v σ' → Φ (pc + 3) L (v.toList ++ rest) σ') : Φ pc L (As.reverse ++ rest) σ := by
  obtain ⟨p, e, R, s, m, args, below, meth, cd, cells, slots, Q, ⟨hx, hb, hml, hown, hts⟩, hWk, hRm, hRet, rfl⟩ := M
  intro hnL H locs ls hW hS hl
  obtain ⟨h1, h2, h4, h5, h6⟩ := lk
  have cb := va_cnB (R := R) n hts (tws_good h5) rfl (rm := { frames := fr1, cells := 0, slots := 0, locals := lo1 }) (mc := 0) (ms := 0) rfl rfl (h1 s hWk) (hts _ h4) h6 ⟨Nat.le_trans hfr.1 hRm.1, Nat.le_trans hfr.2 hRm.2.1⟩
  refine run_to (va_runSN (As := As) (rest := rest) ⟨hx, hb, hml, hown, hts⟩ hM ⟨cb, hts _ h2, trivial⟩ ⟨pc_blind, fun U hU hw => ⟨rfl, by rw [hU]; exact hW, wk_at hWk hS hU hw⟩⟩ rfl hn (hl.1.trans hnL) rfl (lv_room hst) d ⟨hRm.2.2.1, hRm.2.2.2⟩) hS (fun v σ' H1 locs1 hp hW1 hS1 => ?_)
  exact kk v σ' hp hnL H1 locs1 ls hW1 hS1 hl
end Mem
/-! posts, and a method's start -/
def pI (q : Int32 → Sg → Prop) : Option Value → Sg → Prop := fun v σ' => ∃ r, v = some (.int r) ∧ q r σ'
def pL (q : Int64 → Sg → Prop) : Option Value → Sg → Prop := fun v σ' => ∃ r, v = some (.long r) ∧ q r σ'
def pV (q : Sg → Prop) : Option Value → Sg → Prop := fun v σ' => v = none ∧ q σ'
def pR (q : Nat → Sg → Prop) : Option Value → Sg → Prop := fun v σ' => ∃ r, v = some (.ref r) ∧ q r σ'
theorem kI {Φ : Ph} {pc : Nat} {L : List (Option Value)} {rest : List Value} {q : Int32 → Sg → Prop} (h : ∀ r σ', q r σ' → Φ pc L (.int r :: rest) σ') : ∀ v σ', pI q v σ' → Φ pc L (v.toList ++ rest) σ' := by
  rintro v σ' ⟨r, rfl, h'⟩
  exact h r σ' h'
theorem kL {Φ : Ph} {pc : Nat} {L : List (Option Value)} {rest : List Value} {q : Int64 → Sg → Prop} (h : ∀ r σ', q r σ' → Φ pc L (.long r :: rest) σ') : ∀ v σ', pL q v σ' → Φ pc L (v.toList ++ rest) σ' := by
  rintro v σ' ⟨r, rfl, h'⟩
  exact h r σ' h'
theorem kR {Φ : Ph} {pc : Nat} {L : List (Option Value)} {rest : List Value} {q : Nat → Sg → Prop} (h : ∀ r σ', q r σ' → Φ pc L (.ref r :: rest) σ') : ∀ v σ', pR q v σ' → Φ pc L (v.toList ++ rest) σ' := by
  rintro v σ' ⟨r, rfl, h'⟩
  exact h r σ' h'
theorem kV {Φ : Ph} {pc : Nat} {L : List (Option Value)} {rest : List Value} {q : Sg → Prop} (h : ∀ σ', q σ' → Φ pc L rest σ') : ∀ v σ', pV q v σ' → Φ pc L (v.toList ++ rest) σ' := by
  rintro v σ' ⟨rfl, h'⟩
  exact h σ' h'
theorem Mt.mono {l : Launch} {G : Gw} {y : MethodName} {cc : ByteArray} {nL fr lo : Nat} {ret : Option FieldType} {av : List Value} {σ : Sg} {p1 p2 : Option Value → Sg → Prop} (h : Mt l G y cc nL ret fr lo av σ p1) (hp : ∀ v σ', p1 v σ' → p2 v σ') : Mt l G y cc nL ret fr lo av σ p2 := by
  sorry
/-- locals at the start -/
def lenv : List Value → List (Option Value)
  | [] => []
  | v :: r => if v.category = 2 then some v :: none :: lenv r else some v :: lenv r
theorem lenv_at : ∀ (av : List Value) (k i : Nat) (v : Value), (lenv av)[i]? = some (some v) → (k + i, v) ∈ lv_args k av
  | [], k, i, v, h => by simp [lenv] at h
  | a :: r, k, i, v, h => by
    unfold lenv at h
    unfold lv_args
    by_cases hc : a.category = 2
    · rw [if_pos hc] at h ⊢
      match i, h with
      | 0, h => simp at h; subst h; exact List.mem_cons_self
      | 1, h => simp at h
      | i + 2, h =>
        have := lenv_at r (k + 2) i v (by simpa using h)
        rw [show k + (i + 2) = k + 2 + i by omega]
        exact List.mem_cons_of_mem _ this
    · rw [if_neg hc] at h ⊢
      match i, h with
      | 0, h => simp at h; subst h; exact List.mem_cons_self
      | i + 1, h =>
        have := lenv_at r (k + 1) i v (by simpa using h)
        rw [show k + (i + 1) = k + 1 + i by omega]
        exact List.mem_cons_of_mem _ this
theorem lenv_len : ∀ (av : List Value), (lenv av).length = (lg_sl av).length
  | [] => rfl
  | a :: r => by
    have ih := lenv_len r
    unfold lenv
    by_cases hc : a.category = 2
    · rw [if_pos hc]
      simp only [List.length_cons, ih, lg_sl, List.flatMap_cons, hc, if_true, List.length_append, List.length_nil]
      omega
    · rw [if_neg hc]
      simp only [List.length_cons, ih, lg_sl, List.flatMap_cons, hc, if_false, List.length_append, List.length_nil]
      omega
theorem mt_intro {l : Launch} {G : Gw} {y : MethodName} {cc : ByteArray} {nL fr lo : Nat} {ret : Option FieldType} {av : List Value} {σ : Sg} {post : Option Value → Sg → Prop} (hy : plainName y.cls = true) (hlen : (lg_sl av).length ≤ nL)
    (h : ∀ Φ : Ph, Mach l G y.cls cc nL ret fr lo post Φ → Φ 0 (lenv av ++ List.replicate (nL - (lg_sl av).length) none) [] σ) : Mt l G y cc nL ret fr lo av σ post := by
  refine Met.ofW (cc := cc) (maxL := nL) (ret := ret) hy rfl ?_
  intro p e s m args below meth c s₁ B hml hv
  obtain ⟨rfl, hWd, hWk⟩ := hv
  have hx := B.exec
  have hb := B.bytes
  have hr := B.returns
  have hts0 := atoms_spec (ws := .code y cc nL ret :: tws) B.pre
  have hown : s.vm.findClass y.cls = some m.cls := findClass_of_methodNamed B.named
  have hlocks := B.notSynchronized
  have hl := lv_entry av (n := nL) hlen
  rw [lg_entry_eq]
  refine h _ ⟨p, e, (headSpec (.code y cc nL ret :: tws) { frames := fr, cells := 0, slots := 0, locals := lo }).room, s, m, _, below, meth, c, 0, 0, _, ⟨hx, hb, hml, hown, fun w hw => hts0 w (List.mem_cons_of_mem _ hw)⟩, hWk, ⟨Nat.le_refl _, Nat.le_refl _, Nat.le_refl _, Nat.le_refl _⟩, ?_, rfl⟩ ?_ _ _ _ hWd va_S.rf ?_
  · intro pc v σ' hR hp H locs ls hW hS
    have hq : ∀ t : State, t.heap = H → s.WarmedH t.vm → Qv G post av.toArray s (.returned v) t := fun t ht _ => ⟨⟨v, σ', rfl, hp, by rw [ht]; exact hW⟩, hS.F ht⟩
    rcases hR with ⟨hrt, hd, x, rfl⟩ | ⟨hrt, hd, hz⟩ | ⟨hrt, hd, rfl⟩ | ⟨hrt, hd, x, rfl⟩ | ⟨hrt, hd, hz⟩
    · exact W.iret hx hb (hr.trans hrt) hq hS.2.2 hd
    · rcases hz with rfl | rfl
      · exact W.zret hx hb (hr.trans hrt) (by decide) hq hS.2.2 hd
      · exact W.zret hx hb (hr.trans hrt) (by decide) hq hS.2.2 hd
    · exact W.vret hx hb (hr.trans hrt) hq hS.2.2 hd
    · exact W.lret hx hb (hr.trans hrt) hq hS.2.2 hd
    · rcases hz with rfl | ⟨a, rfl⟩
      · exact W.aret hx hb (hr.trans hrt) (Or.inl ⟨_, rfl⟩) (Or.inl rfl) hq hS.2.2 hd
      · exact W.aret hx hb (hr.trans hrt) (Or.inl ⟨_, rfl⟩) (Or.inr ⟨a, rfl⟩) hq hS.2.2 hd
  · rw [List.length_append, lenv_len, List.length_replicate]
    omega
  · refine lx.of hl (by rw [List.length_append, lenv_len, List.length_replicate]; omega) (fun i v hi => ?_)
    rw [List.getElem?_append] at hi
    split at hi
    · have := lenv_at av 0 i v hi
      simpa using this
    · rw [List.getElem?_replicate] at hi
      split at hi <;> simp at hi
end
