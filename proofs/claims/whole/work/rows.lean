section
-- ===== PART A: goes FIRST, ahead of the names: the tables' words, and 'selects' of the private methods out of them =====
/-- a private method of a class that the tables say can be made, by its rows of tables_1 -/
def lw_okq (q : MethodName × Nat) : Prop := (q.1.cls ≠ "java/lang/invoke/MethodHandle" ∧ q.1.cls ≠ "java/lang/invoke/VarHandle") ∧ Cond.instantiable q.1.cls q.2 ∈ tables_1 ∧ Cond.privateMethod q.1 ∈ tables_1 ∧ Cond.instanceMethod q.1 ∈ tables_1
theorem lw_p0 : lw_okq (⟨"FishReaders", "found", "(I)I"⟩, 10) := ⟨⟨by decide +kernel, by decide +kernel⟩, List.mem_of_getElem? (i := 13) (by decide +kernel), List.mem_of_getElem? (i := 259) (by decide +kernel), List.mem_of_getElem? (i := 260) (by decide +kernel)⟩
theorem lw_p1 : lw_okq (⟨"FishReaders", "foundNothing", "(I)I"⟩, 10) := ⟨⟨by decide +kernel, by decide +kernel⟩, List.mem_of_getElem? (i := 13) (by decide +kernel), List.mem_of_getElem? (i := 269) (by decide +kernel), List.mem_of_getElem? (i := 270) (by decide +kernel)⟩
theorem lw_p2 : lw_okq (⟨"FishReaders$Tape", "readLaw", "(LFishReaders$Library;)V"⟩, 5) := ⟨⟨by decide +kernel, by decide +kernel⟩, List.mem_of_getElem? (i := 44) (by decide +kernel), List.mem_of_getElem? (i := 339) (by decide +kernel), List.mem_of_getElem? (i := 340) (by decide +kernel)⟩
theorem lw_p3 : lw_okq (⟨"FishReaders$Tape", "pass", "(I)V"⟩, 5) := ⟨⟨by decide +kernel, by decide +kernel⟩, List.mem_of_getElem? (i := 44) (by decide +kernel), List.mem_of_getElem? (i := 343) (by decide +kernel), List.mem_of_getElem? (i := 344) (by decide +kernel)⟩
theorem lw_p4 : lw_okq (⟨"FishReaders$Tape", "next", "()I"⟩, 5) := ⟨⟨by decide +kernel, by decide +kernel⟩, List.mem_of_getElem? (i := 44) (by decide +kernel), List.mem_of_getElem? (i := 347) (by decide +kernel), List.mem_of_getElem? (i := 348) (by decide +kernel)⟩
theorem lw_p5 : lw_okq (⟨"FishReaders$Tape", "isFine", "()Z"⟩, 5) := ⟨⟨by decide +kernel, by decide +kernel⟩, List.mem_of_getElem? (i := 44) (by decide +kernel), List.mem_of_getElem? (i := 351) (by decide +kernel), List.mem_of_getElem? (i := 352) (by decide +kernel)⟩
theorem lw_p6 : lw_okq (⟨"FishReaders$Tape", "fail", "(I)V"⟩, 5) := ⟨⟨by decide +kernel, by decide +kernel⟩, List.mem_of_getElem? (i := 44) (by decide +kernel), List.mem_of_getElem? (i := 355) (by decide +kernel), List.mem_of_getElem? (i := 356) (by decide +kernel)⟩
theorem lw_p7 : lw_okq (⟨"FishReaders$Tape", "number", "(II)I"⟩, 5) := ⟨⟨by decide +kernel, by decide +kernel⟩, List.mem_of_getElem? (i := 44) (by decide +kernel), List.mem_of_getElem? (i := 359) (by decide +kernel), List.mem_of_getElem? (i := 360) (by decide +kernel)⟩
theorem lw_p8 : lw_okq (⟨"FishReaders$Tape", "readBooks", "(LFishReaders$Library;)V"⟩, 5) := ⟨⟨by decide +kernel, by decide +kernel⟩, List.mem_of_getElem? (i := 44) (by decide +kernel), List.mem_of_getElem? (i := 366) (by decide +kernel), List.mem_of_getElem? (i := 367) (by decide +kernel)⟩
theorem lw_p9 : lw_okq (⟨"FishReaders$Tape", "readFish", "(LFishReaders$Library;)V"⟩, 5) := ⟨⟨by decide +kernel, by decide +kernel⟩, List.mem_of_getElem? (i := 44) (by decide +kernel), List.mem_of_getElem? (i := 374) (by decide +kernel), List.mem_of_getElem? (i := 375) (by decide +kernel)⟩
theorem lw_p10 : lw_okq (⟨"FishReaders$Acts", "slotAt", "(I)LFishReaders$Library;"⟩, 3) := ⟨⟨by decide +kernel, by decide +kernel⟩, List.mem_of_getElem? (i := 153) (by decide +kernel), List.mem_of_getElem? (i := 408) (by decide +kernel), List.mem_of_getElem? (i := 409) (by decide +kernel)⟩
theorem lw_p11 : lw_okq (⟨"FishReaders$Library", "nextPlace", "(I)I"⟩, 16) := ⟨⟨by decide +kernel, by decide +kernel⟩, List.mem_of_getElem? (i := 69) (by decide +kernel), List.mem_of_getElem? (i := 436) (by decide +kernel), List.mem_of_getElem? (i := 437) (by decide +kernel)⟩
theorem lw_p12 : lw_okq (⟨"FishReaders$Library", "upFrom", "(II)I"⟩, 16) := ⟨⟨by decide +kernel, by decide +kernel⟩, List.mem_of_getElem? (i := 69) (by decide +kernel), List.mem_of_getElem? (i := 449) (by decide +kernel), List.mem_of_getElem? (i := 450) (by decide +kernel)⟩
theorem lw_p13 : lw_okq (⟨"FishReaders$Library", "isClosed", "(I)Z"⟩, 16) := ⟨⟨by decide +kernel, by decide +kernel⟩, List.mem_of_getElem? (i := 69) (by decide +kernel), List.mem_of_getElem? (i := 453) (by decide +kernel), List.mem_of_getElem? (i := 454) (by decide +kernel)⟩
theorem lw_p14 : lw_okq (⟨"FishReaders$Library", "eat", "(I)V"⟩, 16) := ⟨⟨by decide +kernel, by decide +kernel⟩, List.mem_of_getElem? (i := 69) (by decide +kernel), List.mem_of_getElem? (i := 467) (by decide +kernel), List.mem_of_getElem? (i := 468) (by decide +kernel)⟩
theorem lw_p15 : lw_okq (⟨"FishReaders$Library", "dampen", "()V"⟩, 16) := ⟨⟨by decide +kernel, by decide +kernel⟩, List.mem_of_getElem? (i := 69) (by decide +kernel), List.mem_of_getElem? (i := 472) (by decide +kernel), List.mem_of_getElem? (i := 473) (by decide +kernel)⟩
def lw_privs_1 : List (MethodName × Nat) := [(⟨"FishReaders", "found", "(I)I"⟩, 10), (⟨"FishReaders", "foundNothing", "(I)I"⟩, 10), (⟨"FishReaders$Tape", "readLaw", "(LFishReaders$Library;)V"⟩, 5), (⟨"FishReaders$Tape", "pass", "(I)V"⟩, 5), (⟨"FishReaders$Tape", "next", "()I"⟩, 5), (⟨"FishReaders$Tape", "isFine", "()Z"⟩, 5), (⟨"FishReaders$Tape", "fail", "(I)V"⟩, 5), (⟨"FishReaders$Tape", "number", "(II)I"⟩, 5), (⟨"FishReaders$Tape", "readBooks", "(LFishReaders$Library;)V"⟩, 5), (⟨"FishReaders$Tape", "readFish", "(LFishReaders$Library;)V"⟩, 5), (⟨"FishReaders$Acts", "slotAt", "(I)LFishReaders$Library;"⟩, 3), (⟨"FishReaders$Library", "nextPlace", "(I)I"⟩, 16), (⟨"FishReaders$Library", "upFrom", "(II)I"⟩, 16), (⟨"FishReaders$Library", "isClosed", "(I)Z"⟩, 16), (⟨"FishReaders$Library", "eat", "(I)V"⟩, 16), (⟨"FishReaders$Library", "dampen", "()V"⟩, 16)]
theorem lw_r1 : ∀ q ∈ lw_privs_1, lw_okq q := List.forall_mem_cons.mpr ⟨lw_p0, List.forall_mem_cons.mpr ⟨lw_p1, List.forall_mem_cons.mpr ⟨lw_p2, List.forall_mem_cons.mpr ⟨lw_p3, List.forall_mem_cons.mpr ⟨lw_p4, List.forall_mem_cons.mpr ⟨lw_p5, List.forall_mem_cons.mpr ⟨lw_p6, List.forall_mem_cons.mpr ⟨lw_p7, List.forall_mem_cons.mpr ⟨lw_p8, List.forall_mem_cons.mpr ⟨lw_p9, List.forall_mem_cons.mpr ⟨lw_p10, List.forall_mem_cons.mpr ⟨lw_p11, List.forall_mem_cons.mpr ⟨lw_p12, List.forall_mem_cons.mpr ⟨lw_p13, List.forall_mem_cons.mpr ⟨lw_p14, List.forall_mem_cons.mpr ⟨lw_p15, fun _ h => absurd h List.not_mem_nil⟩⟩⟩⟩⟩⟩⟩⟩⟩⟩⟩⟩⟩⟩⟩⟩
theorem lw_p16 : lw_okq (⟨"FishReaders$Foretold", "nextOrder", "(I)Z"⟩, 3) := ⟨⟨by decide +kernel, by decide +kernel⟩, List.mem_of_getElem? (i := 173) (by decide +kernel), List.mem_of_getElem? (i := 608) (by decide +kernel), List.mem_of_getElem? (i := 609) (by decide +kernel)⟩
theorem lw_p17 : lw_okq (⟨"FishReaders$Foretold", "swap", "(II)V"⟩, 3) := ⟨⟨by decide +kernel, by decide +kernel⟩, List.mem_of_getElem? (i := 173) (by decide +kernel), List.mem_of_getElem? (i := 612) (by decide +kernel), List.mem_of_getElem? (i := 613) (by decide +kernel)⟩
theorem lw_p18 : lw_okq (⟨"FishReaders$Foretold", "fits", "(ILFishReaders$Rows;)Z"⟩, 3) := ⟨⟨by decide +kernel, by decide +kernel⟩, List.mem_of_getElem? (i := 173) (by decide +kernel), List.mem_of_getElem? (i := 664) (by decide +kernel), List.mem_of_getElem? (i := 665) (by decide +kernel)⟩
theorem lw_p19 : lw_okq (⟨"FishReaders$Foretold", "drawLamp", "(J)V"⟩, 3) := ⟨⟨by decide +kernel, by decide +kernel⟩, List.mem_of_getElem? (i := 173) (by decide +kernel), List.mem_of_getElem? (i := 724) (by decide +kernel), List.mem_of_getElem? (i := 725) (by decide +kernel)⟩
theorem lw_p20 : lw_okq (⟨"FishReaders$Bodies", "sizeOfWanderer", "()I"⟩, 6) := ⟨⟨by decide +kernel, by decide +kernel⟩, List.mem_of_getElem? (i := 192) (by decide +kernel), List.mem_of_getElem? (i := 764) (by decide +kernel), List.mem_of_getElem? (i := 765) (by decide +kernel)⟩
theorem lw_p21 : lw_okq (⟨"FishReaders$Bodies", "leave", "(I)V"⟩, 6) := ⟨⟨by decide +kernel, by decide +kernel⟩, List.mem_of_getElem? (i := 192) (by decide +kernel), List.mem_of_getElem? (i := 768) (by decide +kernel), List.mem_of_getElem? (i := 769) (by decide +kernel)⟩
theorem lw_p22 : lw_okq (⟨"FishReaders$Bodies", "sizeOfReader", "()I"⟩, 6) := ⟨⟨by decide +kernel, by decide +kernel⟩, List.mem_of_getElem? (i := 192) (by decide +kernel), List.mem_of_getElem? (i := 772) (by decide +kernel), List.mem_of_getElem? (i := 773) (by decide +kernel)⟩
theorem lw_p23 : lw_okq (⟨"FishReaders$Bodies", "markOfReader", "()I"⟩, 6) := ⟨⟨by decide +kernel, by decide +kernel⟩, List.mem_of_getElem? (i := 192) (by decide +kernel), List.mem_of_getElem? (i := 776) (by decide +kernel), List.mem_of_getElem? (i := 777) (by decide +kernel)⟩
theorem lw_p24 : lw_okq (⟨"FishReaders$Bodies", "markOfWanderer", "()I"⟩, 6) := ⟨⟨by decide +kernel, by decide +kernel⟩, List.mem_of_getElem? (i := 192) (by decide +kernel), List.mem_of_getElem? (i := 784) (by decide +kernel), List.mem_of_getElem? (i := 785) (by decide +kernel)⟩
theorem lw_p25 : lw_okq (⟨"FishReadersModel", "find", "(I)I"⟩, 26) := ⟨⟨by decide +kernel, by decide +kernel⟩, List.mem_of_getElem? (i := 810) (by decide +kernel), List.mem_of_getElem? (i := 909) (by decide +kernel), List.mem_of_getElem? (i := 910) (by decide +kernel)⟩
theorem lw_p26 : lw_okq (⟨"FishReadersModel", "well", "(I)I"⟩, 26) := ⟨⟨by decide +kernel, by decide +kernel⟩, List.mem_of_getElem? (i := 810) (by decide +kernel), List.mem_of_getElem? (i := 914) (by decide +kernel), List.mem_of_getElem? (i := 915) (by decide +kernel)⟩
theorem lw_p27 : lw_okq (⟨"FishReadersModel", "readLibrary", "()Z"⟩, 26) := ⟨⟨by decide +kernel, by decide +kernel⟩, List.mem_of_getElem? (i := 810) (by decide +kernel), List.mem_of_getElem? (i := 943) (by decide +kernel), List.mem_of_getElem? (i := 944) (by decide +kernel)⟩
theorem lw_p28 : lw_okq (⟨"FishReadersModel", "nextToken", "()V"⟩, 26) := ⟨⟨by decide +kernel, by decide +kernel⟩, List.mem_of_getElem? (i := 810) (by decide +kernel), List.mem_of_getElem? (i := 947) (by decide +kernel), List.mem_of_getElem? (i := 948) (by decide +kernel)⟩
theorem lw_p29 : lw_okq (⟨"FishReadersModel", "takes", "(I)Z"⟩, 26) := ⟨⟨by decide +kernel, by decide +kernel⟩, List.mem_of_getElem? (i := 810) (by decide +kernel), List.mem_of_getElem? (i := 955) (by decide +kernel), List.mem_of_getElem? (i := 956) (by decide +kernel)⟩
theorem lw_p30 : lw_okq (⟨"FishReadersModel", "isLetter", "(I)Z"⟩, 26) := ⟨⟨by decide +kernel, by decide +kernel⟩, List.mem_of_getElem? (i := 810) (by decide +kernel), List.mem_of_getElem? (i := 959) (by decide +kernel), List.mem_of_getElem? (i := 960) (by decide +kernel)⟩
theorem lw_p31 : lw_okq (⟨"FishReadersModel", "faults", "(I)Z"⟩, 26) := ⟨⟨by decide +kernel, by decide +kernel⟩, List.mem_of_getElem? (i := 810) (by decide +kernel), List.mem_of_getElem? (i := 963) (by decide +kernel), List.mem_of_getElem? (i := 964) (by decide +kernel)⟩
def lw_privs_2 : List (MethodName × Nat) := [(⟨"FishReaders$Foretold", "nextOrder", "(I)Z"⟩, 3), (⟨"FishReaders$Foretold", "swap", "(II)V"⟩, 3), (⟨"FishReaders$Foretold", "fits", "(ILFishReaders$Rows;)Z"⟩, 3), (⟨"FishReaders$Foretold", "drawLamp", "(J)V"⟩, 3), (⟨"FishReaders$Bodies", "sizeOfWanderer", "()I"⟩, 6), (⟨"FishReaders$Bodies", "leave", "(I)V"⟩, 6), (⟨"FishReaders$Bodies", "sizeOfReader", "()I"⟩, 6), (⟨"FishReaders$Bodies", "markOfReader", "()I"⟩, 6), (⟨"FishReaders$Bodies", "markOfWanderer", "()I"⟩, 6), (⟨"FishReadersModel", "find", "(I)I"⟩, 26), (⟨"FishReadersModel", "well", "(I)I"⟩, 26), (⟨"FishReadersModel", "readLibrary", "()Z"⟩, 26), (⟨"FishReadersModel", "nextToken", "()V"⟩, 26), (⟨"FishReadersModel", "takes", "(I)Z"⟩, 26), (⟨"FishReadersModel", "isLetter", "(I)Z"⟩, 26), (⟨"FishReadersModel", "faults", "(I)Z"⟩, 26)]
theorem lw_r2 : ∀ q ∈ lw_privs_2, lw_okq q := List.forall_mem_cons.mpr ⟨lw_p16, List.forall_mem_cons.mpr ⟨lw_p17, List.forall_mem_cons.mpr ⟨lw_p18, List.forall_mem_cons.mpr ⟨lw_p19, List.forall_mem_cons.mpr ⟨lw_p20, List.forall_mem_cons.mpr ⟨lw_p21, List.forall_mem_cons.mpr ⟨lw_p22, List.forall_mem_cons.mpr ⟨lw_p23, List.forall_mem_cons.mpr ⟨lw_p24, List.forall_mem_cons.mpr ⟨lw_p25, List.forall_mem_cons.mpr ⟨lw_p26, List.forall_mem_cons.mpr ⟨lw_p27, List.forall_mem_cons.mpr ⟨lw_p28, List.forall_mem_cons.mpr ⟨lw_p29, List.forall_mem_cons.mpr ⟨lw_p30, List.forall_mem_cons.mpr ⟨lw_p31, fun _ h => absurd h List.not_mem_nil⟩⟩⟩⟩⟩⟩⟩⟩⟩⟩⟩⟩⟩⟩⟩⟩
theorem lw_p32 : lw_okq (⟨"FishReadersModel", "takesNumber", "(IIII)Z"⟩, 26) := ⟨⟨by decide +kernel, by decide +kernel⟩, List.mem_of_getElem? (i := 810) (by decide +kernel), List.mem_of_getElem? (i := 967) (by decide +kernel), List.mem_of_getElem? (i := 968) (by decide +kernel)⟩
theorem lw_p33 : lw_okq (⟨"FishReadersModel", "readFish", "(I)Z"⟩, 26) := ⟨⟨by decide +kernel, by decide +kernel⟩, List.mem_of_getElem? (i := 810) (by decide +kernel), List.mem_of_getElem? (i := 974) (by decide +kernel), List.mem_of_getElem? (i := 975) (by decide +kernel)⟩
theorem lw_p34 : lw_okq (⟨"FishReadersModel", "readBook", "()Z"⟩, 26) := ⟨⟨by decide +kernel, by decide +kernel⟩, List.mem_of_getElem? (i := 810) (by decide +kernel), List.mem_of_getElem? (i := 978) (by decide +kernel), List.mem_of_getElem? (i := 979) (by decide +kernel)⟩
theorem lw_p35 : lw_okq (⟨"FishReadersModel", "note", "()V"⟩, 26) := ⟨⟨by decide +kernel, by decide +kernel⟩, List.mem_of_getElem? (i := 810) (by decide +kernel), List.mem_of_getElem? (i := 997) (by decide +kernel), List.mem_of_getElem? (i := 998) (by decide +kernel)⟩
theorem lw_p36 : lw_okq (⟨"FishReadersModel", "oneNight", "()V"⟩, 26) := ⟨⟨by decide +kernel, by decide +kernel⟩, List.mem_of_getElem? (i := 810) (by decide +kernel), List.mem_of_getElem? (i := 1001) (by decide +kernel), List.mem_of_getElem? (i := 1002) (by decide +kernel)⟩
theorem lw_p37 : lw_okq (⟨"FishReadersModel", "isCaught", "(I)Z"⟩, 26) := ⟨⟨by decide +kernel, by decide +kernel⟩, List.mem_of_getElem? (i := 810) (by decide +kernel), List.mem_of_getElem? (i := 1005) (by decide +kernel), List.mem_of_getElem? (i := 1006) (by decide +kernel)⟩
theorem lw_p38 : lw_okq (⟨"FishReadersModel", "goesTo", "(I)I"⟩, 26) := ⟨⟨by decide +kernel, by decide +kernel⟩, List.mem_of_getElem? (i := 810) (by decide +kernel), List.mem_of_getElem? (i := 1012) (by decide +kernel), List.mem_of_getElem? (i := 1013) (by decide +kernel)⟩
theorem lw_p39 : lw_okq (⟨"FishReadersModel", "bookAt", "(I)I"⟩, 26) := ⟨⟨by decide +kernel, by decide +kernel⟩, List.mem_of_getElem? (i := 810) (by decide +kernel), List.mem_of_getElem? (i := 1016) (by decide +kernel), List.mem_of_getElem? (i := 1017) (by decide +kernel)⟩
theorem lw_p40 : lw_okq (⟨"FishReadersModel", "likedBy", "(I)I"⟩, 26) := ⟨⟨by decide +kernel, by decide +kernel⟩, List.mem_of_getElem? (i := 810) (by decide +kernel), List.mem_of_getElem? (i := 1020) (by decide +kernel), List.mem_of_getElem? (i := 1021) (by decide +kernel)⟩
theorem lw_p41 : lw_okq (⟨"FishReadersModel", "likes", "(II)I"⟩, 26) := ⟨⟨by decide +kernel, by decide +kernel⟩, List.mem_of_getElem? (i := 810) (by decide +kernel), List.mem_of_getElem? (i := 1025) (by decide +kernel), List.mem_of_getElem? (i := 1026) (by decide +kernel)⟩
theorem lw_p42 : lw_okq (⟨"FishReadersModel", "isShut", "(I)Z"⟩, 26) := ⟨⟨by decide +kernel, by decide +kernel⟩, List.mem_of_getElem? (i := 810) (by decide +kernel), List.mem_of_getElem? (i := 1029) (by decide +kernel), List.mem_of_getElem? (i := 1030) (by decide +kernel)⟩
theorem lw_p43 : lw_okq (⟨"FishReadersModel", "eats", "(I)V"⟩, 26) := ⟨⟨by decide +kernel, by decide +kernel⟩, List.mem_of_getElem? (i := 810) (by decide +kernel), List.mem_of_getElem? (i := 1033) (by decide +kernel), List.mem_of_getElem? (i := 1034) (by decide +kernel)⟩
theorem lw_p44 : lw_okq (⟨"FishReadersModel", "allPages", "()I"⟩, 26) := ⟨⟨by decide +kernel, by decide +kernel⟩, List.mem_of_getElem? (i := 810) (by decide +kernel), List.mem_of_getElem? (i := 1037) (by decide +kernel), List.mem_of_getElem? (i := 1038) (by decide +kernel)⟩
theorem lw_p45 : lw_okq (⟨"FishReadersModel", "isBook", "(I)Z"⟩, 26) := ⟨⟨by decide +kernel, by decide +kernel⟩, List.mem_of_getElem? (i := 810) (by decide +kernel), List.mem_of_getElem? (i := 1045) (by decide +kernel), List.mem_of_getElem? (i := 1046) (by decide +kernel)⟩
theorem lw_p46 : lw_okq (⟨"FishReadersModel", "isFish", "(I)Z"⟩, 26) := ⟨⟨by decide +kernel, by decide +kernel⟩, List.mem_of_getElem? (i := 810) (by decide +kernel), List.mem_of_getElem? (i := 1064) (by decide +kernel), List.mem_of_getElem? (i := 1065) (by decide +kernel)⟩
theorem lw_p47 : lw_okq (⟨"FishReadersModel", "fishAt", "(I)I"⟩, 26) := ⟨⟨by decide +kernel, by decide +kernel⟩, List.mem_of_getElem? (i := 810) (by decide +kernel), List.mem_of_getElem? (i := 1076) (by decide +kernel), List.mem_of_getElem? (i := 1077) (by decide +kernel)⟩
def lw_privs_3 : List (MethodName × Nat) := [(⟨"FishReadersModel", "takesNumber", "(IIII)Z"⟩, 26), (⟨"FishReadersModel", "readFish", "(I)Z"⟩, 26), (⟨"FishReadersModel", "readBook", "()Z"⟩, 26), (⟨"FishReadersModel", "note", "()V"⟩, 26), (⟨"FishReadersModel", "oneNight", "()V"⟩, 26), (⟨"FishReadersModel", "isCaught", "(I)Z"⟩, 26), (⟨"FishReadersModel", "goesTo", "(I)I"⟩, 26), (⟨"FishReadersModel", "bookAt", "(I)I"⟩, 26), (⟨"FishReadersModel", "likedBy", "(I)I"⟩, 26), (⟨"FishReadersModel", "likes", "(II)I"⟩, 26), (⟨"FishReadersModel", "isShut", "(I)Z"⟩, 26), (⟨"FishReadersModel", "eats", "(I)V"⟩, 26), (⟨"FishReadersModel", "allPages", "()I"⟩, 26), (⟨"FishReadersModel", "isBook", "(I)Z"⟩, 26), (⟨"FishReadersModel", "isFish", "(I)Z"⟩, 26), (⟨"FishReadersModel", "fishAt", "(I)I"⟩, 26)]
theorem lw_r3 : ∀ q ∈ lw_privs_3, lw_okq q := List.forall_mem_cons.mpr ⟨lw_p32, List.forall_mem_cons.mpr ⟨lw_p33, List.forall_mem_cons.mpr ⟨lw_p34, List.forall_mem_cons.mpr ⟨lw_p35, List.forall_mem_cons.mpr ⟨lw_p36, List.forall_mem_cons.mpr ⟨lw_p37, List.forall_mem_cons.mpr ⟨lw_p38, List.forall_mem_cons.mpr ⟨lw_p39, List.forall_mem_cons.mpr ⟨lw_p40, List.forall_mem_cons.mpr ⟨lw_p41, List.forall_mem_cons.mpr ⟨lw_p42, List.forall_mem_cons.mpr ⟨lw_p43, List.forall_mem_cons.mpr ⟨lw_p44, List.forall_mem_cons.mpr ⟨lw_p45, List.forall_mem_cons.mpr ⟨lw_p46, List.forall_mem_cons.mpr ⟨lw_p47, fun _ h => absurd h List.not_mem_nil⟩⟩⟩⟩⟩⟩⟩⟩⟩⟩⟩⟩⟩⟩⟩⟩
theorem lw_p48 : lw_okq (⟨"FishReadersModel", "putAside", "()V"⟩, 26) := ⟨⟨by decide +kernel, by decide +kernel⟩, List.mem_of_getElem? (i := 810) (by decide +kernel), List.mem_of_getElem? (i := 1097) (by decide +kernel), List.mem_of_getElem? (i := 1098) (by decide +kernel)⟩
theorem lw_p49 : lw_okq (⟨"FishReadersModel", "goOn", "(I)V"⟩, 26) := ⟨⟨by decide +kernel, by decide +kernel⟩, List.mem_of_getElem? (i := 810) (by decide +kernel), List.mem_of_getElem? (i := 1101) (by decide +kernel), List.mem_of_getElem? (i := 1102) (by decide +kernel)⟩
theorem lw_p50 : lw_okq (⟨"FishReadersModel", "takeBack", "()V"⟩, 26) := ⟨⟨by decide +kernel, by decide +kernel⟩, List.mem_of_getElem? (i := 810) (by decide +kernel), List.mem_of_getElem? (i := 1105) (by decide +kernel), List.mem_of_getElem? (i := 1106) (by decide +kernel)⟩
theorem lw_p51 : lw_okq (⟨"FishReadersModel", "emptySet", "()I"⟩, 26) := ⟨⟨by decide +kernel, by decide +kernel⟩, List.mem_of_getElem? (i := 810) (by decide +kernel), List.mem_of_getElem? (i := 1121) (by decide +kernel), List.mem_of_getElem? (i := 1122) (by decide +kernel)⟩
theorem lw_p52 : lw_okq (⟨"FishReadersModel", "pagesOf", "(I)I"⟩, 26) := ⟨⟨by decide +kernel, by decide +kernel⟩, List.mem_of_getElem? (i := 810) (by decide +kernel), List.mem_of_getElem? (i := 1138) (by decide +kernel), List.mem_of_getElem? (i := 1139) (by decide +kernel)⟩
theorem lw_p53 : lw_okq (⟨"FishReadersModel", "isNext", "(I)Z"⟩, 26) := ⟨⟨by decide +kernel, by decide +kernel⟩, List.mem_of_getElem? (i := 810) (by decide +kernel), List.mem_of_getElem? (i := 1142) (by decide +kernel), List.mem_of_getElem? (i := 1143) (by decide +kernel)⟩
theorem lw_p54 : lw_okq (⟨"FishReadersModel", "exchange", "(II)V"⟩, 26) := ⟨⟨by decide +kernel, by decide +kernel⟩, List.mem_of_getElem? (i := 810) (by decide +kernel), List.mem_of_getElem? (i := 1146) (by decide +kernel), List.mem_of_getElem? (i := 1147) (by decide +kernel)⟩
theorem lw_p55 : lw_okq (⟨"FishReadersModel", "pagesBehind", "(II)I"⟩, 26) := ⟨⟨by decide +kernel, by decide +kernel⟩, List.mem_of_getElem? (i := 810) (by decide +kernel), List.mem_of_getElem? (i := 1154) (by decide +kernel), List.mem_of_getElem? (i := 1155) (by decide +kernel)⟩
theorem lw_p56 : lw_okq (⟨"FishReadersModel", "dustOf", "(I)I"⟩, 26) := ⟨⟨by decide +kernel, by decide +kernel⟩, List.mem_of_getElem? (i := 810) (by decide +kernel), List.mem_of_getElem? (i := 1167) (by decide +kernel), List.mem_of_getElem? (i := 1168) (by decide +kernel)⟩
theorem lw_p57 : lw_okq (⟨"FishReadersModel", "lacks", "(III)I"⟩, 26) := ⟨⟨by decide +kernel, by decide +kernel⟩, List.mem_of_getElem? (i := 810) (by decide +kernel), List.mem_of_getElem? (i := 1175) (by decide +kernel), List.mem_of_getElem? (i := 1176) (by decide +kernel)⟩
theorem lw_p58 : lw_okq (⟨"FishReadersModel", "fits", "(IIIIII)I"⟩, 26) := ⟨⟨by decide +kernel, by decide +kernel⟩, List.mem_of_getElem? (i := 810) (by decide +kernel), List.mem_of_getElem? (i := 1179) (by decide +kernel), List.mem_of_getElem? (i := 1180) (by decide +kernel)⟩
theorem lw_p59 : lw_okq (⟨"FishReadersModel", "isSo", "(III)Z"⟩, 26) := ⟨⟨by decide +kernel, by decide +kernel⟩, List.mem_of_getElem? (i := 810) (by decide +kernel), List.mem_of_getElem? (i := 1183) (by decide +kernel), List.mem_of_getElem? (i := 1184) (by decide +kernel)⟩
theorem lw_p60 : lw_okq (⟨"FishReadersModel", "sizeOf", "(I)I"⟩, 26) := ⟨⟨by decide +kernel, by decide +kernel⟩, List.mem_of_getElem? (i := 810) (by decide +kernel), List.mem_of_getElem? (i := 1232) (by decide +kernel), List.mem_of_getElem? (i := 1233) (by decide +kernel)⟩
theorem lw_p61 : lw_okq (⟨"FishReadersModel", "begin", "(I)V"⟩, 26) := ⟨⟨by decide +kernel, by decide +kernel⟩, List.mem_of_getElem? (i := 810) (by decide +kernel), List.mem_of_getElem? (i := 1236) (by decide +kernel), List.mem_of_getElem? (i := 1237) (by decide +kernel)⟩
theorem lw_p62 : lw_okq (⟨"FishReadersModel", "readerSize", "(I)I"⟩, 26) := ⟨⟨by decide +kernel, by decide +kernel⟩, List.mem_of_getElem? (i := 810) (by decide +kernel), List.mem_of_getElem? (i := 1240) (by decide +kernel), List.mem_of_getElem? (i := 1241) (by decide +kernel)⟩
theorem lw_p63 : lw_okq (⟨"FishReadersModel", "lent", "(II)I"⟩, 26) := ⟨⟨by decide +kernel, by decide +kernel⟩, List.mem_of_getElem? (i := 810) (by decide +kernel), List.mem_of_getElem? (i := 1244) (by decide +kernel), List.mem_of_getElem? (i := 1245) (by decide +kernel)⟩
def lw_privs_4 : List (MethodName × Nat) := [(⟨"FishReadersModel", "putAside", "()V"⟩, 26), (⟨"FishReadersModel", "goOn", "(I)V"⟩, 26), (⟨"FishReadersModel", "takeBack", "()V"⟩, 26), (⟨"FishReadersModel", "emptySet", "()I"⟩, 26), (⟨"FishReadersModel", "pagesOf", "(I)I"⟩, 26), (⟨"FishReadersModel", "isNext", "(I)Z"⟩, 26), (⟨"FishReadersModel", "exchange", "(II)V"⟩, 26), (⟨"FishReadersModel", "pagesBehind", "(II)I"⟩, 26), (⟨"FishReadersModel", "dustOf", "(I)I"⟩, 26), (⟨"FishReadersModel", "lacks", "(III)I"⟩, 26), (⟨"FishReadersModel", "fits", "(IIIIII)I"⟩, 26), (⟨"FishReadersModel", "isSo", "(III)Z"⟩, 26), (⟨"FishReadersModel", "sizeOf", "(I)I"⟩, 26), (⟨"FishReadersModel", "begin", "(I)V"⟩, 26), (⟨"FishReadersModel", "readerSize", "(I)I"⟩, 26), (⟨"FishReadersModel", "lent", "(II)I"⟩, 26)]
theorem lw_r4 : ∀ q ∈ lw_privs_4, lw_okq q := List.forall_mem_cons.mpr ⟨lw_p48, List.forall_mem_cons.mpr ⟨lw_p49, List.forall_mem_cons.mpr ⟨lw_p50, List.forall_mem_cons.mpr ⟨lw_p51, List.forall_mem_cons.mpr ⟨lw_p52, List.forall_mem_cons.mpr ⟨lw_p53, List.forall_mem_cons.mpr ⟨lw_p54, List.forall_mem_cons.mpr ⟨lw_p55, List.forall_mem_cons.mpr ⟨lw_p56, List.forall_mem_cons.mpr ⟨lw_p57, List.forall_mem_cons.mpr ⟨lw_p58, List.forall_mem_cons.mpr ⟨lw_p59, List.forall_mem_cons.mpr ⟨lw_p60, List.forall_mem_cons.mpr ⟨lw_p61, List.forall_mem_cons.mpr ⟨lw_p62, List.forall_mem_cons.mpr ⟨lw_p63, fun _ h => absurd h List.not_mem_nil⟩⟩⟩⟩⟩⟩⟩⟩⟩⟩⟩⟩⟩⟩⟩⟩
theorem lw_p64 : lw_okq (⟨"FishReadersModel", "markOf", "(I)I"⟩, 26) := ⟨⟨by decide +kernel, by decide +kernel⟩, List.mem_of_getElem? (i := 810) (by decide +kernel), List.mem_of_getElem? (i := 1248) (by decide +kernel), List.mem_of_getElem? (i := 1249) (by decide +kernel)⟩
theorem lw_p65 : lw_okq (⟨"FishReadersModel", "readerMark", "(I)I"⟩, 26) := ⟨⟨by decide +kernel, by decide +kernel⟩, List.mem_of_getElem? (i := 810) (by decide +kernel), List.mem_of_getElem? (i := 1252) (by decide +kernel), List.mem_of_getElem? (i := 1253) (by decide +kernel)⟩
theorem lw_p66 : lw_okq (⟨"FishReadersModel", "sizeOfWanderer", "(I)I"⟩, 26) := ⟨⟨by decide +kernel, by decide +kernel⟩, List.mem_of_getElem? (i := 810) (by decide +kernel), List.mem_of_getElem? (i := 1256) (by decide +kernel), List.mem_of_getElem? (i := 1257) (by decide +kernel)⟩
theorem lw_p67 : lw_okq (⟨"FishReadersModel", "wandererSize", "(I)I"⟩, 26) := ⟨⟨by decide +kernel, by decide +kernel⟩, List.mem_of_getElem? (i := 810) (by decide +kernel), List.mem_of_getElem? (i := 1260) (by decide +kernel), List.mem_of_getElem? (i := 1261) (by decide +kernel)⟩
def lw_privs_5 : List (MethodName × Nat) := [(⟨"FishReadersModel", "markOf", "(I)I"⟩, 26), (⟨"FishReadersModel", "readerMark", "(I)I"⟩, 26), (⟨"FishReadersModel", "sizeOfWanderer", "(I)I"⟩, 26), (⟨"FishReadersModel", "wandererSize", "(I)I"⟩, 26)]
theorem lw_r5 : ∀ q ∈ lw_privs_5, lw_okq q := List.forall_mem_cons.mpr ⟨lw_p64, List.forall_mem_cons.mpr ⟨lw_p65, List.forall_mem_cons.mpr ⟨lw_p66, List.forall_mem_cons.mpr ⟨lw_p67, fun _ h => absurd h List.not_mem_nil⟩⟩⟩⟩
def lw_privs : List (MethodName × Nat) := lw_privs_1 ++ (lw_privs_2 ++ (lw_privs_3 ++ (lw_privs_4 ++ (lw_privs_5))))
def lw_tbl : List Cond := k2_sels lw_privs ++ tables_1
theorem lw_privs_ok : ∀ q ∈ lw_privs, lw_okq q := by
  show ∀ q ∈ lw_privs_1 ++ (lw_privs_2 ++ (lw_privs_3 ++ (lw_privs_4 ++ (lw_privs_5)))), lw_okq q
  exact List.forall_mem_append.mpr ⟨lw_r1, List.forall_mem_append.mpr ⟨lw_r2, List.forall_mem_append.mpr ⟨lw_r3, List.forall_mem_append.mpr ⟨lw_r4, lw_r5⟩⟩⟩⟩
end
section
def RX0 : String := "FishReaders$Acts"
def TX0 : u_T := fun k => match k with
  | 0 => ("FishReaders$Acts", "before", "[LFishReaders$Library;", true)
  | 1 => ("FishReaders$Acts", "next", "I", false)
  | _ => ("FishReaders$Acts", "kept", "I", false)
def tyX0 : Nat → FieldType := fun k => match k with
  | 0 => .array (.object "FishReaders$Library")
  | 1 => .int
  | _ => .int
abbrev wsX00 : List Cond := u_ws RX0 TX0 3
theorem nmX0 : ∀ a, a < 3 → ∀ b, b < 3 → a ≠ b → (TX0 a).2.1 ≠ (TX0 b).2.1 := by decide +kernel
theorem tyX0_ok : ∀ k, k < 3 → parseFieldDescriptor (TX0 k).2.2.1 = some (tyX0 k) := by decide +kernel
abbrev cX0_init : ByteArray := prog_2_method_1_code
def yX0_init : MethodName := ⟨RX0, "<init>", "()V"⟩
abbrev cX0_remember : ByteArray := prog_2_method_2_code
def yX0_remember : MethodName := ⟨RX0, "remember", "(LFishReaders$Library;)V"⟩
abbrev cX0_bringBack : ByteArray := prog_2_method_3_code
def yX0_bringBack : MethodName := ⟨RX0, "bringBack", "(LFishReaders$Library;)V"⟩
abbrev cX0_forget : ByteArray := prog_2_method_4_code
def yX0_forget : MethodName := ⟨RX0, "forget", "()V"⟩
abbrev cX0_slotAt : ByteArray := prog_2_method_5_code
def yX0_slotAt : MethodName := ⟨RX0, "slotAt", "(I)LFishReaders$Library;"⟩
def RX1 : String := "FishReaders$Bodies"
def TX1 : u_T := fun k => match k with
  | 0 => ("FishReaders$Bodies", "numbers", "[I", true)
  | 1 => ("FishReaders$Bodies", "length", "I", false)
  | 2 => ("FishReaders$Bodies", "one", "I", false)
  | 3 => ("FishReaders$Bodies", "kindOfOne", "I", false)
  | 4 => ("FishReaders$Bodies", "placeOfOne", "I", false)
  | _ => ("FishReaders$Bodies", "dustOfOne", "I", false)
def tyX1 : Nat → FieldType := fun k => match k with
  | 0 => .array .int
  | 1 => .int
  | 2 => .int
  | 3 => .int
  | 4 => .int
  | _ => .int
abbrev wsX10 : List Cond := u_ws RX1 TX1 6
theorem nmX1 : ∀ a, a < 6 → ∀ b, b < 6 → a ≠ b → (TX1 a).2.1 ≠ (TX1 b).2.1 := by decide +kernel
theorem tyX1_ok : ∀ k, k < 6 → parseFieldDescriptor (TX1 k).2.2.1 = some (tyX1 k) := by decide +kernel
abbrev cX1_init : ByteArray := prog_3_method_1_code
def yX1_init : MethodName := ⟨RX1, "<init>", "()V"⟩
abbrev cX1_begin : ByteArray := prog_3_method_2_code
def yX1_begin : MethodName := ⟨RX1, "begin", "(IIII)V"⟩
abbrev cX1_left : ByteArray := prog_3_method_3_code
def yX1_left : MethodName := ⟨RX1, "left", "(I)I"⟩
abbrev cX1_leave : ByteArray := prog_3_method_4_code
def yX1_leave : MethodName := ⟨RX1, "leave", "(I)V"⟩
abbrev cX1_sizeAsked : ByteArray := prog_3_method_5_code
def yX1_sizeAsked : MethodName := ⟨RX1, "sizeAsked", "()I"⟩
abbrev cX1_markAsked : ByteArray := prog_3_method_6_code
def yX1_markAsked : MethodName := ⟨RX1, "markAsked", "()I"⟩
abbrev cX1_sizeOfReader : ByteArray := prog_3_method_7_code
def yX1_sizeOfReader : MethodName := ⟨RX1, "sizeOfReader", "()I"⟩
abbrev cX1_sizeOfWanderer : ByteArray := prog_3_method_8_code
def yX1_sizeOfWanderer : MethodName := ⟨RX1, "sizeOfWanderer", "()I"⟩
abbrev cX1_markOfReader : ByteArray := prog_3_method_9_code
def yX1_markOfReader : MethodName := ⟨RX1, "markOfReader", "()I"⟩
abbrev cX1_markOfWanderer : ByteArray := prog_3_method_10_code
def yX1_markOfWanderer : MethodName := ⟨RX1, "markOfWanderer", "()I"⟩
def RX2 : String := "FishReaders$Foretold"
def TX2 : u_T := fun k => match k with
  | 0 => ("FishReaders$Foretold", "then", "LFishReaders$Library;", true)
  | 1 => ("FishReaders$Foretold", "tried", "[I", true)
  | _ => ("FishReaders$Foretold", "best", "[I", true)
def tyX2 : Nat → FieldType := fun k => match k with
  | 0 => .object "FishReaders$Library"
  | 1 => .array .int
  | _ => .array .int
abbrev wsX20 : List Cond := u_ws RX2 TX2 3
theorem nmX2 : ∀ a, a < 3 → ∀ b, b < 3 → a ≠ b → (TX2 a).2.1 ≠ (TX2 b).2.1 := by decide +kernel
theorem tyX2_ok : ∀ k, k < 3 → parseFieldDescriptor (TX2 k).2.2.1 = some (tyX2 k) := by decide +kernel
abbrev cX2_init : ByteArray := prog_4_method_1_code
def yX2_init : MethodName := ⟨RX2, "<init>", "()V"⟩
abbrev cX2_behind : ByteArray := prog_4_method_2_code
def yX2_behind : MethodName := ⟨RX2, "behind", "(LFishReaders$Library;I)LFishReaders$Library;"⟩
abbrev cX2_nightsTillEmpty : ByteArray := prog_4_method_3_code
def yX2_nightsTillEmpty : MethodName := ⟨RX2, "nightsTillEmpty", "(LFishReaders$Library;I)I"⟩
abbrev cX2_emptyOneOf : ByteArray := prog_4_method_4_code
def yX2_emptyOneOf : MethodName := ⟨RX2, "emptyOneOf", "(I)I"⟩
abbrev cX2_bestOrder : ByteArray := prog_4_method_5_code
def yX2_bestOrder : MethodName := ⟨RX2, "bestOrder", "(LFishReaders$Library;II)I"⟩
abbrev cX2_nextOrder : ByteArray := prog_4_method_6_code
def yX2_nextOrder : MethodName := ⟨RX2, "nextOrder", "(I)Z"⟩
abbrev cX2_swap : ByteArray := prog_4_method_7_code
def yX2_swap : MethodName := ⟨RX2, "swap", "(II)V"⟩
abbrev cX2_pagesIfLit : ByteArray := prog_4_method_8_code
def yX2_pagesIfLit : MethodName := ⟨RX2, "pagesIfLit", "(LFishReaders$Library;III)I"⟩
abbrev cX2_bestLamps : ByteArray := prog_4_method_9_code
def yX2_bestLamps : MethodName := ⟨RX2, "bestLamps", "(LFishReaders$Library;II)I"⟩
abbrev cX2_fewestCaught : ByteArray := prog_4_method_10_code
def yX2_fewestCaught : MethodName := ⟨RX2, "fewestCaught", "(LFishReaders$Library;II)I"⟩
abbrev cX2_kindsThatFit : ByteArray := prog_4_method_11_code
def yX2_kindsThatFit : MethodName := ⟨RX2, "kindsThatFit", "(LFishReaders$Library;IILFishReaders$Rows;)I"⟩
abbrev cX2_placesThatFit : ByteArray := prog_4_method_12_code
def yX2_placesThatFit : MethodName := ⟨RX2, "placesThatFit", "(LFishReaders$Library;IILFishReaders$Rows;)I"⟩
abbrev cX2_pastesThatFit : ByteArray := prog_4_method_13_code
def yX2_pastesThatFit : MethodName := ⟨RX2, "pastesThatFit", "(LFishReaders$Library;IILFishReaders$Rows;)I"⟩
abbrev cX2_hungersThatFit : ByteArray := prog_4_method_14_code
def yX2_hungersThatFit : MethodName := ⟨RX2, "hungersThatFit", "(LFishReaders$Library;ILFishReaders$Rows;)I"⟩
abbrev cX2_fits : ByteArray := prog_4_method_15_code
def yX2_fits : MethodName := ⟨RX2, "fits", "(ILFishReaders$Rows;)Z"⟩
abbrev cX2_casesWithPages : ByteArray := prog_4_method_16_code
def yX2_casesWithPages : MethodName := ⟨RX2, "casesWithPages", "(LFishReaders$Library;III)J"⟩
abbrev cX2_behindCenturies : ByteArray := prog_4_method_17_code
def yX2_behindCenturies : MethodName := ⟨RX2, "behindCenturies", "(LFishReaders$Library;II)LFishReaders$Library;"⟩
abbrev cX2_drawLamp : ByteArray := prog_4_method_18_code
def yX2_drawLamp : MethodName := ⟨RX2, "drawLamp", "(J)V"⟩
def RX3 : String := "FishReaders$Library"
def TX3 : u_T := fun k => match k with
  | 0 => ("FishReaders$Library", "books", "I", false)
  | 1 => ("FishReaders$Library", "fishes", "I", false)
  | 2 => ("FishReaders$Library", "hunger", "I", false)
  | 3 => ("FishReaders$Library", "lamps", "I", false)
  | 4 => ("FishReaders$Library", "night", "I", false)
  | 5 => ("FishReaders$Library", "lit", "I", false)
  | 6 => ("FishReaders$Library", "kept", "I", false)
  | 7 => ("FishReaders$Library", "caughtOnes", "I", false)
  | 8 => ("FishReaders$Library", "pages", "[I", true)
  | 9 => ("FishReaders$Library", "pasteOf", "[I", true)
  | 10 => ("FishReaders$Library", "placeOf", "[I", true)
  | 11 => ("FishReaders$Library", "shelf", "[I", true)
  | 12 => ("FishReaders$Library", "kindOf", "[I", true)
  | 13 => ("FishReaders$Library", "at", "[I", true)
  | 14 => ("FishReaders$Library", "dust", "[I", true)
  | _ => ("FishReaders$Library", "holes", "[I", true)
def tyX3 : Nat → FieldType := fun k => match k with
  | 0 => .int
  | 1 => .int
  | 2 => .int
  | 3 => .int
  | 4 => .int
  | 5 => .int
  | 6 => .int
  | 7 => .int
  | 8 => .array .int
  | 9 => .array .int
  | 10 => .array .int
  | 11 => .array .int
  | 12 => .array .int
  | 13 => .array .int
  | 14 => .array .int
  | _ => .array .int
abbrev wsX30 : List Cond := u_ws RX3 TX3 16
theorem nmX3 : ∀ a, a < 16 → ∀ b, b < 16 → a ≠ b → (TX3 a).2.1 ≠ (TX3 b).2.1 := by decide +kernel
theorem tyX3_ok : ∀ k, k < 16 → parseFieldDescriptor (TX3 k).2.2.1 = some (tyX3 k) := by decide +kernel
abbrev cX3_init : ByteArray := prog_5_method_1_code
def yX3_init : MethodName := ⟨RX3, "<init>", "()V"⟩
abbrev cX3_clear : ByteArray := prog_5_method_2_code
def yX3_clear : MethodName := ⟨RX3, "clear", "()V"⟩
abbrev cX3_take : ByteArray := prog_5_method_3_code
def yX3_take : MethodName := ⟨RX3, "take", "(LFishReaders$Library;)V"⟩
abbrev cX3_addBook : ByteArray := prog_5_method_4_code
def yX3_addBook : MethodName := ⟨RX3, "addBook", "(II)V"⟩
abbrev cX3_addFish : ByteArray := prog_5_method_5_code
def yX3_addFish : MethodName := ⟨RX3, "addFish", "(II)V"⟩
abbrev cX3_isTold : ByteArray := prog_5_method_6_code
def yX3_isTold : MethodName := ⟨RX3, "isTold", "()Z"⟩
abbrev cX3_isBook : ByteArray := prog_5_method_7_code
def yX3_isBook : MethodName := ⟨RX3, "isBook", "(I)Z"⟩
abbrev cX3_isPlace : ByteArray := prog_5_method_8_code
def yX3_isPlace : MethodName := ⟨RX3, "isPlace", "(I)Z"⟩
abbrev cX3_isFish : ByteArray := prog_5_method_9_code
def yX3_isFish : MethodName := ⟨RX3, "isFish", "(I)Z"⟩
abbrev cX3_isCaught : ByteArray := prog_5_method_10_code
def yX3_isCaught : MethodName := ⟨RX3, "isCaught", "(I)Z"⟩
abbrev cX3_bookIn : ByteArray := prog_5_method_11_code
def yX3_bookIn : MethodName := ⟨RX3, "bookIn", "(I)I"⟩
abbrev cX3_put : ByteArray := prog_5_method_12_code
def yX3_put : MethodName := ⟨RX3, "put", "(II)V"⟩
abbrev cX3_allBooks : ByteArray := prog_5_method_13_code
def yX3_allBooks : MethodName := ⟨RX3, "allBooks", "()I"⟩
abbrev cX3_fishIn : ByteArray := prog_5_method_14_code
def yX3_fishIn : MethodName := ⟨RX3, "fishIn", "(I)I"⟩
abbrev cX3_pagesOfAll : ByteArray := prog_5_method_15_code
def yX3_pagesOfAll : MethodName := ⟨RX3, "pagesOfAll", "()I"⟩
abbrev cX3_pagesOf : ByteArray := prog_5_method_16_code
def yX3_pagesOf : MethodName := ⟨RX3, "pagesOf", "(I)I"⟩
abbrev cX3_booksWithPages : ByteArray := prog_5_method_17_code
def yX3_booksWithPages : MethodName := ⟨RX3, "booksWithPages", "()I"⟩
abbrev cX3_dustOf : ByteArray := prog_5_method_18_code
def yX3_dustOf : MethodName := ⟨RX3, "dustOf", "(I)I"⟩
abbrev cX3_gramsOf : ByteArray := prog_5_method_19_code
def yX3_gramsOf : MethodName := ⟨RX3, "gramsOf", "(II)I"⟩
abbrev cX3_passNights : ByteArray := prog_5_method_20_code
def yX3_passNights : MethodName := ⟨RX3, "passNights", "(I)V"⟩
abbrev cX3_passNight : ByteArray := prog_5_method_21_code
def yX3_passNight : MethodName := ⟨RX3, "passNight", "()V"⟩
abbrev cX3_eat : ByteArray := prog_5_method_22_code
def yX3_eat : MethodName := ⟨RX3, "eat", "(I)V"⟩
abbrev cX3_dampen : ByteArray := prog_5_method_23_code
def yX3_dampen : MethodName := ⟨RX3, "dampen", "()V"⟩
abbrev cX3_isClosed : ByteArray := prog_5_method_24_code
def yX3_isClosed : MethodName := ⟨RX3, "isClosed", "(I)Z"⟩
abbrev cX3_nextPlace : ByteArray := prog_5_method_25_code
def yX3_nextPlace : MethodName := ⟨RX3, "nextPlace", "(I)I"⟩
abbrev cX3_upFrom : ByteArray := prog_5_method_26_code
def yX3_upFrom : MethodName := ⟨RX3, "upFrom", "(II)I"⟩
abbrev cX3_towards : ByteArray := prog_5_method_27_code
def yX3_towards : MethodName := ⟨RX3, "towards", "(II)I"⟩
abbrev cX3_likedPlace : ByteArray := prog_5_method_28_code
def yX3_likedPlace : MethodName := ⟨RX3, "likedPlace", "(I)I"⟩
def RX4 : String := "FishReaders$Rows"
def TX4 : u_T := fun k => match k with
  | 0 => ("FishReaders$Rows", "lanes", "[I", true)
  | 1 => ("FishReaders$Rows", "lengths", "[I", true)
  | 2 => ("FishReaders$Rows", "items", "[I", true)
  | 3 => ("FishReaders$Rows", "pickedFrom", "I", false)
  | _ => ("FishReaders$Rows", "picked", "I", false)
def tyX4 : Nat → FieldType := fun k => match k with
  | 0 => .array .int
  | 1 => .array .int
  | 2 => .array .int
  | 3 => .int
  | _ => .int
abbrev wsX40 : List Cond := u_ws RX4 TX4 5
theorem nmX4 : ∀ a, a < 5 → ∀ b, b < 5 → a ≠ b → (TX4 a).2.1 ≠ (TX4 b).2.1 := by decide +kernel
theorem tyX4_ok : ∀ k, k < 5 → parseFieldDescriptor (TX4 k).2.2.1 = some (tyX4 k) := by decide +kernel
abbrev cX4_init : ByteArray := prog_6_method_1_code
def yX4_init : MethodName := ⟨RX4, "<init>", "()V"⟩
abbrev cX4_isRow : ByteArray := prog_6_method_2_code
def yX4_isRow : MethodName := ⟨RX4, "isRow", "(I)Z"⟩
abbrev cX4_isLane : ByteArray := prog_6_method_3_code
def yX4_isLane : MethodName := ⟨RX4, "isLane", "(I)Z"⟩
abbrev cX4_isMissing : ByteArray := prog_6_method_4_code
def yX4_isMissing : MethodName := ⟨RX4, "isMissing", "(I)Z"⟩
abbrev cX4_findingAt : ByteArray := prog_6_method_5_code
def yX4_findingAt : MethodName := ⟨RX4, "findingAt", "(III)I"⟩
abbrev cX4_findingOfCopy : ByteArray := prog_6_method_6_code
def yX4_findingOfCopy : MethodName := ⟨RX4, "findingOfCopy", "(IIIII)I"⟩
abbrev cX4_make : ByteArray := prog_6_method_7_code
def yX4_make : MethodName := ⟨RX4, "make", "(III)V"⟩
abbrev cX4_put : ByteArray := prog_6_method_8_code
def yX4_put : MethodName := ⟨RX4, "put", "(III)I"⟩
abbrev cX4_shift : ByteArray := prog_6_method_9_code
def yX4_shift : MethodName := ⟨RX4, "shift", "(IIIII)V"⟩
abbrev cX4_remove : ByteArray := prog_6_method_10_code
def yX4_remove : MethodName := ⟨RX4, "remove", "(I)I"⟩
abbrev cX4_standing : ByteArray := prog_6_method_11_code
def yX4_standing : MethodName := ⟨RX4, "standing", "()I"⟩
abbrev cX4_pick : ByteArray := prog_6_method_12_code
def yX4_pick : MethodName := ⟨RX4, "pick", "(III)V"⟩
abbrev cX4_howManyTold : ByteArray := prog_6_method_13_code
def yX4_howManyTold : MethodName := ⟨RX4, "howManyTold", "()I"⟩
abbrev cX4_told : ByteArray := prog_6_method_14_code
def yX4_told : MethodName := ⟨RX4, "told", "(I)I"⟩
def RX5 : String := "FishReaders$Tape"
def TX5 : u_T := fun k => match k with
  | 0 => ("FishReaders$Tape", "bytes", "[I", true)
  | 1 => ("FishReaders$Tape", "length", "I", false)
  | 2 => ("FishReaders$Tape", "latestFault", "I", false)
  | 3 => ("FishReaders$Tape", "at", "I", false)
  | _ => ("FishReaders$Tape", "wrongAt", "I", false)
def tyX5 : Nat → FieldType := fun k => match k with
  | 0 => .array .int
  | 1 => .int
  | 2 => .int
  | 3 => .int
  | _ => .int
abbrev wsX50 : List Cond := u_ws RX5 TX5 5
theorem nmX5 : ∀ a, a < 5 → ∀ b, b < 5 → a ≠ b → (TX5 a).2.1 ≠ (TX5 b).2.1 := by decide +kernel
theorem tyX5_ok : ∀ k, k < 5 → parseFieldDescriptor (TX5 k).2.2.1 = some (tyX5 k) := by decide +kernel
abbrev cX5_init : ByteArray := prog_7_method_1_code
def yX5_init : MethodName := ⟨RX5, "<init>", "()V"⟩
abbrev cX5_add : ByteArray := prog_7_method_2_code
def yX5_add : MethodName := ⟨RX5, "add", "(I)Z"⟩
abbrev cX5_readInto : ByteArray := prog_7_method_3_code
def yX5_readInto : MethodName := ⟨RX5, "readInto", "(LFishReaders$Library;)I"⟩
abbrev cX5_readLaw : ByteArray := prog_7_method_4_code
def yX5_readLaw : MethodName := ⟨RX5, "readLaw", "(LFishReaders$Library;)V"⟩
abbrev cX5_readBooks : ByteArray := prog_7_method_5_code
def yX5_readBooks : MethodName := ⟨RX5, "readBooks", "(LFishReaders$Library;)V"⟩
abbrev cX5_readFish : ByteArray := prog_7_method_6_code
def yX5_readFish : MethodName := ⟨RX5, "readFish", "(LFishReaders$Library;)V"⟩
abbrev cX5_kindOfSort : ByteArray := prog_7_method_7_code
def yX5_kindOfSort : MethodName := ⟨RX5, "kindOfSort", "(I)I"⟩
abbrev cX5_isFine : ByteArray := prog_7_method_8_code
def yX5_isFine : MethodName := ⟨RX5, "isFine", "()Z"⟩
abbrev cX5_fail : ByteArray := prog_7_method_9_code
def yX5_fail : MethodName := ⟨RX5, "fail", "(I)V"⟩
abbrev cX5_next : ByteArray := prog_7_method_10_code
def yX5_next : MethodName := ⟨RX5, "next", "()I"⟩
abbrev cX5_pass : ByteArray := prog_7_method_11_code
def yX5_pass : MethodName := ⟨RX5, "pass", "(I)V"⟩
abbrev cX5_number : ByteArray := prog_7_method_12_code
def yX5_number : MethodName := ⟨RX5, "number", "(II)I"⟩
abbrev cX5_isFigure : ByteArray := prog_7_method_13_code
def yX5_isFigure : MethodName := ⟨RX5, "isFigure", "(I)Z"⟩
def RX6 : String := "FishReaders"
def TX6 : u_T := fun k => match k with
  | 0 => ("FishReaders", "rows", "LFishReaders$Rows;", true)
  | 1 => ("FishReaders", "tape", "LFishReaders$Tape;", true)
  | 2 => ("FishReaders", "now", "LFishReaders$Library;", true)
  | 3 => ("FishReaders", "draft", "LFishReaders$Library;", true)
  | 4 => ("FishReaders", "imageZero", "LFishReaders$Library;", true)
  | 5 => ("FishReaders", "imageOne", "LFishReaders$Library;", true)
  | 6 => ("FishReaders", "acts", "LFishReaders$Acts;", true)
  | 7 => ("FishReaders", "foretold", "LFishReaders$Foretold;", true)
  | 8 => ("FishReaders", "bodies", "LFishReaders$Bodies;", true)
  | _ => ("FishReaders", "finding", "I", false)
def tyX6 : Nat → FieldType := fun k => match k with
  | 0 => .object "FishReaders$Rows"
  | 1 => .object "FishReaders$Tape"
  | 2 => .object "FishReaders$Library"
  | 3 => .object "FishReaders$Library"
  | 4 => .object "FishReaders$Library"
  | 5 => .object "FishReaders$Library"
  | 6 => .object "FishReaders$Acts"
  | 7 => .object "FishReaders$Foretold"
  | 8 => .object "FishReaders$Bodies"
  | _ => .int
abbrev wsX60 : List Cond := u_ws RX6 TX6 10
theorem nmX6 : ∀ a, a < 10 → ∀ b, b < 10 → a ≠ b → (TX6 a).2.1 ≠ (TX6 b).2.1 := by decide +kernel
theorem tyX6_ok : ∀ k, k < 10 → parseFieldDescriptor (TX6 k).2.2.1 = some (tyX6 k) := by decide +kernel
abbrev cX6_init : ByteArray := prog_1_method_1_code
def yX6_init : MethodName := ⟨RX6, "<init>", "()V"⟩
abbrev cX6_row : ByteArray := prog_1_method_2_code
def yX6_row : MethodName := ⟨RX6, "row", "(III)I"⟩
abbrev cX6_set : ByteArray := prog_1_method_3_code
def yX6_set : MethodName := ⟨RX6, "set", "(III)I"⟩
abbrev cX6_copy : ByteArray := prog_1_method_4_code
def yX6_copy : MethodName := ⟨RX6, "copy", "(IIIII)I"⟩
abbrev cX6_drop : ByteArray := prog_1_method_5_code
def yX6_drop : MethodName := ⟨RX6, "drop", "(I)I"⟩
abbrev cX6_feed : ByteArray := prog_1_method_6_code
def yX6_feed : MethodName := ⟨RX6, "feed", "(I)I"⟩
abbrev cX6_library : ByteArray := prog_1_method_7_code
def yX6_library : MethodName := ⟨RX6, "library", "()I"⟩
abbrev cX6_fault : ByteArray := prog_1_method_8_code
def yX6_fault : MethodName := ⟨RX6, "fault", "()I"⟩
abbrev cX6_undo : ByteArray := prog_1_method_9_code
def yX6_undo : MethodName := ⟨RX6, "undo", "()I"⟩
abbrev cX6_nights : ByteArray := prog_1_method_10_code
def yX6_nights : MethodName := ⟨RX6, "nights", "(I)I"⟩
abbrev cX6_light : ByteArray := prog_1_method_11_code
def yX6_light : MethodName := ⟨RX6, "light", "(II)I"⟩
abbrev cX6_keepIt : ByteArray := prog_1_method_12_code
def yX6_keepIt : MethodName := ⟨RX6, "keepIt", "(II)I"⟩
abbrev cX6_change : ByteArray := prog_1_method_13_code
def yX6_change : MethodName := ⟨RX6, "change", "(II)I"⟩
abbrev cX6_move : ByteArray := prog_1_method_14_code
def yX6_move : MethodName := ⟨RX6, "move", "(II)I"⟩
abbrev cX6_catchIt : ByteArray := prog_1_method_15_code
def yX6_catchIt : MethodName := ⟨RX6, "catchIt", "(I)I"⟩
abbrev cX6_book : ByteArray := prog_1_method_16_code
def yX6_book : MethodName := ⟨RX6, "book", "(II)I"⟩
abbrev cX6_fish : ByteArray := prog_1_method_17_code
def yX6_fish : MethodName := ⟨RX6, "fish", "(II)I"⟩
abbrev cX6_stand : ByteArray := prog_1_method_18_code
def yX6_stand : MethodName := ⟨RX6, "stand", "(I)I"⟩
abbrev cX6_ahead : ByteArray := prog_1_method_19_code
def yX6_ahead : MethodName := ⟨RX6, "ahead", "(III)I"⟩
abbrev cX6_later : ByteArray := prog_1_method_20_code
def yX6_later : MethodName := ⟨RX6, "later", "(III)I"⟩
abbrev cX6_when : ByteArray := prog_1_method_21_code
def yX6_when : MethodName := ⟨RX6, "when", "(I)I"⟩
abbrev cX6_first : ByteArray := prog_1_method_22_code
def yX6_first : MethodName := ⟨RX6, "first", "(I)I"⟩
abbrev cX6_hole : ByteArray := prog_1_method_23_code
def yX6_hole : MethodName := ⟨RX6, "hole", "(II)I"⟩
abbrev cX6_order : ByteArray := prog_1_method_24_code
def yX6_order : MethodName := ⟨RX6, "order", "(III)I"⟩
abbrev cX6_lamp : ByteArray := prog_1_method_25_code
def yX6_lamp : MethodName := ⟨RX6, "lamp", "(III)I"⟩
abbrev cX6_caught : ByteArray := prog_1_method_26_code
def yX6_caught : MethodName := ⟨RX6, "caught", "(III)I"⟩
abbrev cX6_grams : ByteArray := prog_1_method_27_code
def yX6_grams : MethodName := ⟨RX6, "grams", "(II)I"⟩
abbrev cX6_who : ByteArray := prog_1_method_28_code
def yX6_who : MethodName := ⟨RX6, "who", "(IIIIII)I"⟩
abbrev cX6_paste : ByteArray := prog_1_method_29_code
def yX6_paste : MethodName := ⟨RX6, "paste", "(IIIII)I"⟩
abbrev cX6_hungers : ByteArray := prog_1_method_30_code
def yX6_hungers : MethodName := ⟨RX6, "hungers", "(IIII)I"⟩
abbrev cX6_dark : ByteArray := prog_1_method_31_code
def yX6_dark : MethodName := ⟨RX6, "dark", "(IIII)J"⟩
abbrev cX6_drawn : ByteArray := prog_1_method_32_code
def yX6_drawn : MethodName := ⟨RX6, "drawn", "(III)I"⟩
abbrev cX6_image : ByteArray := prog_1_method_33_code
def yX6_image : MethodName := ⟨RX6, "image", "(I)I"⟩
abbrev cX6_restore : ByteArray := prog_1_method_34_code
def yX6_restore : MethodName := ⟨RX6, "restore", "(I)I"⟩
abbrev cX6_kind : ByteArray := prog_1_method_35_code
def yX6_kind : MethodName := ⟨RX6, "kind", "(I)I"⟩
abbrev cX6_as : ByteArray := prog_1_method_36_code
def yX6_as : MethodName := ⟨RX6, "as", "(II)I"⟩
abbrev cX6_ask : ByteArray := prog_1_method_37_code
def yX6_ask : MethodName := ⟨RX6, "ask", "(II)I"⟩
abbrev cX6_trace : ByteArray := prog_1_method_38_code
def yX6_trace : MethodName := ⟨RX6, "trace", "(I)I"⟩
abbrev cX6_count : ByteArray := prog_1_method_39_code
def yX6_count : MethodName := ⟨RX6, "count", "(I)I"⟩
abbrev cX6_status : ByteArray := prog_1_method_40_code
def yX6_status : MethodName := ⟨RX6, "status", "()I"⟩
abbrev cX6_found : ByteArray := prog_1_method_41_code
def yX6_found : MethodName := ⟨RX6, "found", "(I)I"⟩
abbrev cX6_foundNothing : ByteArray := prog_1_method_42_code
def yX6_foundNothing : MethodName := ⟨RX6, "foundNothing", "(I)I"⟩
abbrev cX6_isWithin : ByteArray := prog_1_method_43_code
def yX6_isWithin : MethodName := ⟨RX6, "isWithin", "(III)Z"⟩
abbrev cX6_bitOf : ByteArray := prog_1_method_44_code
def yX6_bitOf : MethodName := ⟨RX6, "bitOf", "(II)I"⟩
abbrev cX6_isKind : ByteArray := prog_1_method_45_code
def yX6_isKind : MethodName := ⟨RX6, "isKind", "(II)Z"⟩
abbrev cX6_power : ByteArray := prog_1_method_46_code
def yX6_power : MethodName := ⟨RX6, "power", "(II)J"⟩
abbrev cX6_commonDivisor : ByteArray := prog_1_method_47_code
def yX6_commonDivisor : MethodName := ⟨RX6, "commonDivisor", "(JJ)J"⟩
def RX7 : String := "FishReadersModel"
def TX7 : u_T := fun k => match k with
  | 0 => ("FishReadersModel", "lanes", "[I", true)
  | 1 => ("FishReadersModel", "sizes", "[I", true)
  | 2 => ("FishReadersModel", "items", "[I", true)
  | 3 => ("FishReadersModel", "status", "I", false)
  | 4 => ("FishReadersModel", "isThere", "Z", false)
  | 5 => ("FishReadersModel", "st", "[I", true)
  | 6 => ("FishReadersModel", "moved", "[I", true)
  | 7 => ("FishReadersModel", "tape", "[I", true)
  | 8 => ("FishReadersModel", "bytes", "I", false)
  | 9 => ("FishReadersModel", "latest", "I", false)
  | 10 => ("FishReadersModel", "place", "I", false)
  | 11 => ("FishReadersModel", "token", "I", false)
  | 12 => ("FishReadersModel", "value", "I", false)
  | 13 => ("FishReadersModel", "begins", "I", false)
  | 14 => ("FishReadersModel", "wrong", "I", false)
  | 15 => ("FishReadersModel", "read", "[I", true)
  | 16 => ("FishReadersModel", "holes", "[I", true)
  | 17 => ("FishReadersModel", "acts", "[I", true)
  | 18 => ("FishReadersModel", "actMany", "I", false)
  | 19 => ("FishReadersModel", "aside", "[I", true)
  | 20 => ("FishReadersModel", "line", "[I", true)
  | 21 => ("FishReadersModel", "bestLine", "[I", true)
  | 22 => ("FishReadersModel", "isKept", "[Z", true)
  | 23 => ("FishReadersModel", "kept", "[I", true)
  | 24 => ("FishReadersModel", "trace", "[I", true)
  | _ => ("FishReadersModel", "traced", "I", false)
def tyX7 : Nat → FieldType := fun k => match k with
  | 0 => .array .int
  | 1 => .array .int
  | 2 => .array .int
  | 3 => .int
  | 4 => .boolean
  | 5 => .array .int
  | 6 => .array .int
  | 7 => .array .int
  | 8 => .int
  | 9 => .int
  | 10 => .int
  | 11 => .int
  | 12 => .int
  | 13 => .int
  | 14 => .int
  | 15 => .array .int
  | 16 => .array .int
  | 17 => .array .int
  | 18 => .int
  | 19 => .array .int
  | 20 => .array .int
  | 21 => .array .int
  | 22 => .array .boolean
  | 23 => .array .int
  | 24 => .array .int
  | _ => .int
abbrev wsX70 : List Cond := u_ws RX7 TX7 26
theorem nmX7 : ∀ a, a < 26 → ∀ b, b < 26 → a ≠ b → (TX7 a).2.1 ≠ (TX7 b).2.1 := by decide +kernel
theorem tyX7_ok : ∀ k, k < 26 → parseFieldDescriptor (TX7 k).2.2.1 = some (tyX7 k) := by decide +kernel
abbrev cX7_init : ByteArray := prog_9_method_1_code
def yX7_init : MethodName := ⟨RX7, "<init>", "()V"⟩
abbrev cX7_in : ByteArray := prog_9_method_2_code
def yX7_in : MethodName := ⟨RX7, "in", "(JJJ)Z"⟩
abbrev cX7_has : ByteArray := prog_9_method_3_code
def yX7_has : MethodName := ⟨RX7, "has", "(II)Z"⟩
abbrev cX7_ones : ByteArray := prog_9_method_4_code
def yX7_ones : MethodName := ⟨RX7, "ones", "(I)I"⟩
abbrev cX7_find : ByteArray := prog_9_method_5_code
def yX7_find : MethodName := ⟨RX7, "find", "(I)I"⟩
abbrev cX7_well : ByteArray := prog_9_method_6_code
def yX7_well : MethodName := ⟨RX7, "well", "(I)I"⟩
abbrev cX7_isRow : ByteArray := prog_9_method_7_code
def yX7_isRow : MethodName := ⟨RX7, "isRow", "(I)Z"⟩
abbrev cX7_row : ByteArray := prog_9_method_8_code
def yX7_row : MethodName := ⟨RX7, "row", "(III)I"⟩
abbrev cX7_asLane : ByteArray := prog_9_method_9_code
def yX7_asLane : MethodName := ⟨RX7, "asLane", "(II)I"⟩
abbrev cX7_set : ByteArray := prog_9_method_10_code
def yX7_set : MethodName := ⟨RX7, "set", "(III)I"⟩
abbrev cX7_copy : ByteArray := prog_9_method_11_code
def yX7_copy : MethodName := ⟨RX7, "copy", "(IIIII)I"⟩
abbrev cX7_drop : ByteArray := prog_9_method_12_code
def yX7_drop : MethodName := ⟨RX7, "drop", "(I)I"⟩
abbrev cX7_feed : ByteArray := prog_9_method_13_code
def yX7_feed : MethodName := ⟨RX7, "feed", "(I)I"⟩
abbrev cX7_nextToken : ByteArray := prog_9_method_14_code
def yX7_nextToken : MethodName := ⟨RX7, "nextToken", "()V"⟩
abbrev cX7_faults : ByteArray := prog_9_method_15_code
def yX7_faults : MethodName := ⟨RX7, "faults", "(I)Z"⟩
abbrev cX7_isLetter : ByteArray := prog_9_method_16_code
def yX7_isLetter : MethodName := ⟨RX7, "isLetter", "(I)Z"⟩
abbrev cX7_takes : ByteArray := prog_9_method_17_code
def yX7_takes : MethodName := ⟨RX7, "takes", "(I)Z"⟩
abbrev cX7_takesNumber : ByteArray := prog_9_method_18_code
def yX7_takesNumber : MethodName := ⟨RX7, "takesNumber", "(IIII)Z"⟩
abbrev cX7_readBook : ByteArray := prog_9_method_19_code
def yX7_readBook : MethodName := ⟨RX7, "readBook", "()Z"⟩
abbrev cX7_kindBy : ByteArray := prog_9_method_20_code
def yX7_kindBy : MethodName := ⟨RX7, "kindBy", "(I)I"⟩
abbrev cX7_readFish : ByteArray := prog_9_method_21_code
def yX7_readFish : MethodName := ⟨RX7, "readFish", "(I)Z"⟩
abbrev cX7_readLibrary : ByteArray := prog_9_method_22_code
def yX7_readLibrary : MethodName := ⟨RX7, "readLibrary", "()Z"⟩
abbrev cX7_library : ByteArray := prog_9_method_23_code
def yX7_library : MethodName := ⟨RX7, "library", "()I"⟩
abbrev cX7_fault : ByteArray := prog_9_method_24_code
def yX7_fault : MethodName := ⟨RX7, "fault", "()I"⟩
abbrev cX7_isBook : ByteArray := prog_9_method_25_code
def yX7_isBook : MethodName := ⟨RX7, "isBook", "(I)Z"⟩
abbrev cX7_isFish : ByteArray := prog_9_method_26_code
def yX7_isFish : MethodName := ⟨RX7, "isFish", "(I)Z"⟩
abbrev cX7_isCaught : ByteArray := prog_9_method_27_code
def yX7_isCaught : MethodName := ⟨RX7, "isCaught", "(I)Z"⟩
abbrev cX7_bookAt : ByteArray := prog_9_method_28_code
def yX7_bookAt : MethodName := ⟨RX7, "bookAt", "(I)I"⟩
abbrev cX7_isShut : ByteArray := prog_9_method_29_code
def yX7_isShut : MethodName := ⟨RX7, "isShut", "(I)Z"⟩
abbrev cX7_likes : ByteArray := prog_9_method_30_code
def yX7_likes : MethodName := ⟨RX7, "likes", "(II)I"⟩
abbrev cX7_likedBy : ByteArray := prog_9_method_31_code
def yX7_likedBy : MethodName := ⟨RX7, "likedBy", "(I)I"⟩
abbrev cX7_goesTo : ByteArray := prog_9_method_32_code
def yX7_goesTo : MethodName := ⟨RX7, "goesTo", "(I)I"⟩
abbrev cX7_eats : ByteArray := prog_9_method_33_code
def yX7_eats : MethodName := ⟨RX7, "eats", "(I)V"⟩
abbrev cX7_oneNight : ByteArray := prog_9_method_34_code
def yX7_oneNight : MethodName := ⟨RX7, "oneNight", "()V"⟩
abbrev cX7_allPages : ByteArray := prog_9_method_35_code
def yX7_allPages : MethodName := ⟨RX7, "allPages", "()I"⟩
abbrev cX7_note : ByteArray := prog_9_method_36_code
def yX7_note : MethodName := ⟨RX7, "note", "()V"⟩
abbrev cX7_undo : ByteArray := prog_9_method_37_code
def yX7_undo : MethodName := ⟨RX7, "undo", "()I"⟩
abbrev cX7_nights : ByteArray := prog_9_method_38_code
def yX7_nights : MethodName := ⟨RX7, "nights", "(I)I"⟩
abbrev cX7_light : ByteArray := prog_9_method_39_code
def yX7_light : MethodName := ⟨RX7, "light", "(II)I"⟩
abbrev cX7_keepIt : ByteArray := prog_9_method_40_code
def yX7_keepIt : MethodName := ⟨RX7, "keepIt", "(II)I"⟩
abbrev cX7_change : ByteArray := prog_9_method_41_code
def yX7_change : MethodName := ⟨RX7, "change", "(II)I"⟩
abbrev cX7_move : ByteArray := prog_9_method_42_code
def yX7_move : MethodName := ⟨RX7, "move", "(II)I"⟩
abbrev cX7_catchIt : ByteArray := prog_9_method_43_code
def yX7_catchIt : MethodName := ⟨RX7, "catchIt", "(I)I"⟩
abbrev cX7_fishAt : ByteArray := prog_9_method_44_code
def yX7_fishAt : MethodName := ⟨RX7, "fishAt", "(I)I"⟩
abbrev cX7_book : ByteArray := prog_9_method_45_code
def yX7_book : MethodName := ⟨RX7, "book", "(II)I"⟩
abbrev cX7_fish : ByteArray := prog_9_method_46_code
def yX7_fish : MethodName := ⟨RX7, "fish", "(II)I"⟩
abbrev cX7_stand : ByteArray := prog_9_method_47_code
def yX7_stand : MethodName := ⟨RX7, "stand", "(I)I"⟩
abbrev cX7_putAside : ByteArray := prog_9_method_48_code
def yX7_putAside : MethodName := ⟨RX7, "putAside", "()V"⟩
abbrev cX7_takeBack : ByteArray := prog_9_method_49_code
def yX7_takeBack : MethodName := ⟨RX7, "takeBack", "()V"⟩
abbrev cX7_goOn : ByteArray := prog_9_method_50_code
def yX7_goOn : MethodName := ⟨RX7, "goOn", "(I)V"⟩
abbrev cX7_isWhat : ByteArray := prog_9_method_51_code
def yX7_isWhat : MethodName := ⟨RX7, "isWhat", "(I)Z"⟩
abbrev cX7_pagesBehind : ByteArray := prog_9_method_52_code
def yX7_pagesBehind : MethodName := ⟨RX7, "pagesBehind", "(II)I"⟩
abbrev cX7_ahead : ByteArray := prog_9_method_53_code
def yX7_ahead : MethodName := ⟨RX7, "ahead", "(III)I"⟩
abbrev cX7_later : ByteArray := prog_9_method_54_code
def yX7_later : MethodName := ⟨RX7, "later", "(III)I"⟩
abbrev cX7_when : ByteArray := prog_9_method_55_code
def yX7_when : MethodName := ⟨RX7, "when", "(I)I"⟩
abbrev cX7_emptySet : ByteArray := prog_9_method_56_code
def yX7_emptySet : MethodName := ⟨RX7, "emptySet", "()I"⟩
abbrev cX7_least : ByteArray := prog_9_method_57_code
def yX7_least : MethodName := ⟨RX7, "least", "(I)I"⟩
abbrev cX7_first : ByteArray := prog_9_method_58_code
def yX7_first : MethodName := ⟨RX7, "first", "(I)I"⟩
abbrev cX7_hole : ByteArray := prog_9_method_59_code
def yX7_hole : MethodName := ⟨RX7, "hole", "(II)I"⟩
abbrev cX7_exchange : ByteArray := prog_9_method_60_code
def yX7_exchange : MethodName := ⟨RX7, "exchange", "(II)V"⟩
abbrev cX7_isNext : ByteArray := prog_9_method_61_code
def yX7_isNext : MethodName := ⟨RX7, "isNext", "(I)Z"⟩
abbrev cX7_pagesOf : ByteArray := prog_9_method_62_code
def yX7_pagesOf : MethodName := ⟨RX7, "pagesOf", "(I)I"⟩
abbrev cX7_order : ByteArray := prog_9_method_63_code
def yX7_order : MethodName := ⟨RX7, "order", "(III)I"⟩
abbrev cX7_lamp : ByteArray := prog_9_method_64_code
def yX7_lamp : MethodName := ⟨RX7, "lamp", "(III)I"⟩
abbrev cX7_caught : ByteArray := prog_9_method_65_code
def yX7_caught : MethodName := ⟨RX7, "caught", "(III)I"⟩
abbrev cX7_dustOf : ByteArray := prog_9_method_66_code
def yX7_dustOf : MethodName := ⟨RX7, "dustOf", "(I)I"⟩
abbrev cX7_grams : ByteArray := prog_9_method_67_code
def yX7_grams : MethodName := ⟨RX7, "grams", "(II)I"⟩
abbrev cX7_lacks : ByteArray := prog_9_method_68_code
def yX7_lacks : MethodName := ⟨RX7, "lacks", "(III)I"⟩
abbrev cX7_isSo : ByteArray := prog_9_method_69_code
def yX7_isSo : MethodName := ⟨RX7, "isSo", "(III)Z"⟩
abbrev cX7_fits : ByteArray := prog_9_method_70_code
def yX7_fits : MethodName := ⟨RX7, "fits", "(IIIIII)I"⟩
abbrev cX7_who : ByteArray := prog_9_method_71_code
def yX7_who : MethodName := ⟨RX7, "who", "(IIIIII)I"⟩
abbrev cX7_paste : ByteArray := prog_9_method_72_code
def yX7_paste : MethodName := ⟨RX7, "paste", "(IIIII)I"⟩
abbrev cX7_hungers : ByteArray := prog_9_method_73_code
def yX7_hungers : MethodName := ⟨RX7, "hungers", "(IIII)I"⟩
abbrev cX7_dark : ByteArray := prog_9_method_74_code
def yX7_dark : MethodName := ⟨RX7, "dark", "(IIII)J"⟩
abbrev cX7_drawn : ByteArray := prog_9_method_75_code
def yX7_drawn : MethodName := ⟨RX7, "drawn", "(III)I"⟩
abbrev cX7_image : ByteArray := prog_9_method_76_code
def yX7_image : MethodName := ⟨RX7, "image", "(I)I"⟩
abbrev cX7_restore : ByteArray := prog_9_method_77_code
def yX7_restore : MethodName := ⟨RX7, "restore", "(I)I"⟩
abbrev cX7_kind : ByteArray := prog_9_method_78_code
def yX7_kind : MethodName := ⟨RX7, "kind", "(I)I"⟩
abbrev cX7_isKind : ByteArray := prog_9_method_79_code
def yX7_isKind : MethodName := ⟨RX7, "isKind", "(II)Z"⟩
abbrev cX7_as : ByteArray := prog_9_method_80_code
def yX7_as : MethodName := ⟨RX7, "as", "(II)I"⟩
abbrev cX7_begin : ByteArray := prog_9_method_81_code
def yX7_begin : MethodName := ⟨RX7, "begin", "(I)V"⟩
abbrev cX7_lent : ByteArray := prog_9_method_82_code
def yX7_lent : MethodName := ⟨RX7, "lent", "(II)I"⟩
abbrev cX7_readerMark : ByteArray := prog_9_method_83_code
def yX7_readerMark : MethodName := ⟨RX7, "readerMark", "(I)I"⟩
abbrev cX7_wandererSize : ByteArray := prog_9_method_84_code
def yX7_wandererSize : MethodName := ⟨RX7, "wandererSize", "(I)I"⟩
abbrev cX7_sizeOfWanderer : ByteArray := prog_9_method_85_code
def yX7_sizeOfWanderer : MethodName := ⟨RX7, "sizeOfWanderer", "(I)I"⟩
abbrev cX7_markOf : ByteArray := prog_9_method_86_code
def yX7_markOf : MethodName := ⟨RX7, "markOf", "(I)I"⟩
abbrev cX7_readerSize : ByteArray := prog_9_method_87_code
def yX7_readerSize : MethodName := ⟨RX7, "readerSize", "(I)I"⟩
abbrev cX7_sizeOf : ByteArray := prog_9_method_88_code
def yX7_sizeOf : MethodName := ⟨RX7, "sizeOf", "(I)I"⟩
abbrev cX7_ask : ByteArray := prog_9_method_89_code
def yX7_ask : MethodName := ⟨RX7, "ask", "(II)I"⟩
abbrev cX7_trace : ByteArray := prog_9_method_90_code
def yX7_trace : MethodName := ⟨RX7, "trace", "(I)I"⟩
abbrev cX7_count : ByteArray := prog_9_method_91_code
def yX7_count : MethodName := ⟨RX7, "count", "(I)I"⟩
abbrev cX7_status : ByteArray := prog_9_method_92_code
def yX7_status : MethodName := ⟨RX7, "status", "()I"⟩
def RJ6 : String := "java/lang/Integer"
def TJ6 : u_T := fun k => match k with
  | _ => ("", "", "", false)
def tyJ6 : Nat → FieldType := fun k => match k with
  | _ => .int
theorem tyJ6_ok : ∀ k, k < 0 → parseFieldDescriptor (TJ6 k).2.2.1 = some (tyJ6 k) := by decide +kernel
abbrev cJ6_bitCount_0f7a4 : ByteArray := prog_10_method_49_code
def yJ6_bitCount_0f7a4 : MethodName := ⟨RJ6, "bitCount", "(I)I"⟩
def RJ9 : String := "java/lang/Math"
def TJ9 : u_T := fun k => match k with
  | _ => ("", "", "", false)
def tyJ9 : Nat → FieldType := fun k => match k with
  | _ => .int
theorem tyJ9_ok : ∀ k, k < 0 → parseFieldDescriptor (TJ9 k).2.2.1 = some (tyJ9 k) := by decide +kernel
abbrev cJ9_abs_0f7a4 : ByteArray := prog_11_method_59_code
def yJ9_abs_0f7a4 : MethodName := ⟨RJ9, "abs", "(I)I"⟩
abbrev cJ9_min_7cf53 : ByteArray := prog_11_method_69_code
def yJ9_min_7cf53 : MethodName := ⟨RJ9, "min", "(II)I"⟩
def RJ10 : String := "java/lang/System"
def TJ10 : u_T := fun k => match k with
  | _ => ("", "", "", false)
def tyJ10 : Nat → FieldType := fun k => match k with
  | _ => .int
theorem tyJ10_ok : ∀ k, k < 0 → parseFieldDescriptor (TJ10 k).2.2.1 = some (tyJ10 k) := by decide +kernel
def RL : String := "FishReadersLaw"
abbrev cL_law : ByteArray := code
def yL_law : MethodName := ⟨RL, "law", "([I)Z"⟩
abbrev vwCl : List vw_C := [(RX0, TX0, 3), (RX1, TX1, 6), (RX2, TX2, 3), (RX3, TX3, 16), (RX4, TX4, 5), (RX5, TX5, 5), (RX6, TX6, 10), (RX7, TX7, 26)]
end
section
/-! THE LAYER: the whole world as one function, and a judgement that hides the machine -/
abbrev Sg : Type := Nat → Nat → Int32 → Int32
abbrev Gw : Type := va_G × (ClassId × ClassId × ClassId) × (Nat → Nat → Nat) × Nat
def ad (G : Gw) (c k : Nat) : Nat := G.2.2.1 c k
def bkA (G : Gw) : Nat := G.2.2.2
def ofF (f : Int32 → Int32) (j : Nat) : Int32 := if j < 2147483648 then f (nI j) else 0
def iarr (G : Gw) (n : Nat) (f : Int32 → Int32) : va_E := .inl (G.2.1.1, n, .inl (ofF f))
def zarr (G : Gw) (n : Nat) (f : Int32 → Int32) : va_E := .inl (G.2.1.2.1, n, .inl (ofF f))
def larr (G : Gw) (n c : Nat) : va_E := .inl (G.2.1.2.2, n, .inr (.inr (.inr (.inr (fun j => some (ad G (c + j) 0))))))
def isLib (c : Nat) : Prop := 6 ≤ c ∧ c < 35
def celL (G : Gw) (c k : Nat) (f : Int32 → Int32) : va_E := match k with
  | 0 => .inr (3, [.int (f 0), .int (f 1), .int (f 2), .int (f 3), .int (f 4), .int (f 5), .int (f 6), .int (f 7), .ref (ad G c 1), .ref (ad G c 2), .ref (ad G c 3), .ref (ad G c 4), .ref (ad G c 5), .ref (ad G c 6), .ref (ad G c 7), .ref (ad G c 8)])
  | 1 => iarr G 6 f
  | 2 => iarr G 6 f
  | 3 => iarr G 6 f
  | 4 => iarr G 6 f
  | _ => iarr G 5 f
def celM (G : Gw) (k : Nat) (f : Int32 → Int32) : va_E := match k with
  | 0 => .inr (7, [.ref (ad G 40 1), .ref (ad G 40 2), .ref (ad G 40 3), .int (f 3), .int (f 4), .ref (ad G 40 4), .ref (ad G 40 5), .ref (ad G 40 6), .int (f 8), .int (f 9), .int (f 10), .int (f 11), .int (f 12), .int (f 13), .int (f 14), .ref (ad G 40 7), .ref (ad G 40 8), .ref (ad G 40 9), .int (f 18), .ref (ad G 40 10), .ref (ad G 40 11), .ref (ad G 40 12), .ref (ad G 40 13), .ref (ad G 40 14), .ref (ad G 40 15), .int (f 25)])
  | 1 => iarr G 8 f
  | 2 => iarr G 8 f
  | 3 => iarr G 320 f
  | 4 => iarr G 41 f
  | 5 => iarr G 40 f
  | 6 => iarr G 120 f
  | 7 => iarr G 41 f
  | 8 => iarr G 5 f
  | 9 => iarr G 984 f
  | 10 => iarr G 41 f
  | 11 => iarr G 6 f
  | 12 => iarr G 6 f
  | 13 => zarr G 2 f
  | 14 => iarr G 82 f
  | 15 => iarr G 16 f
  | _ => iarr G 0 f
def cel (G : Gw) (c k : Nat) (f : Int32 → Int32) : va_E := match c with
  | 0 => .inr (6, [.ref (ad G 1 0), .ref (ad G 2 0), .ref (ad G 6 0), .ref (ad G 7 0), .ref (ad G 8 0), .ref (ad G 9 0), .ref (ad G 3 0), .ref (ad G 5 0), .ref (ad G 4 0), .int (f 9)])
  | 1 => match k with
    | 0 => .inr (4, [.ref (ad G 1 1), .ref (ad G 1 2), .ref (ad G 1 3), .int (f 3), .int (f 4)])
    | 1 => iarr G 8 f
    | 2 => iarr G 8 f
    | _ => iarr G 320 f
  | 2 => match k with
    | 0 => .inr (5, [.ref (ad G 2 1), .int (f 1), .int (f 2), .int (f 3), .int (f 4)])
    | _ => iarr G 120 f
  | 3 => match k with
    | 0 => .inr (0, [.ref (ad G 3 1), .int (f 1), .int (f 2)])
    | _ => larr G 24 11
  | 4 => match k with
    | 0 => .inr (1, [.ref (ad G 4 1), .int (f 1), .int (f 2), .int (f 3), .int (f 4), .int (f 5)])
    | _ => iarr G 16 f
  | 5 => match k with
    | 0 => .inr (2, [.ref (ad G 10 0), .ref (ad G 5 1), .ref (ad G 5 2)])
    | _ => iarr G 6 f
  | c + 6 => if c < 29 then celL G (c + 6) k f else celM G k f
def vld (c k : Nat) : Bool := match c with
  | 0 => k == 0
  | 1 => decide (k < 4)
  | 2 => decide (k < 2)
  | 3 => decide (k < 2)
  | 4 => decide (k < 2)
  | 5 => decide (k < 3)
  | c + 6 => if c < 29 then decide (k < 9) else decide (c + 6 = 40) && decide (k < 16)
def prs : List (Nat × Nat) := (List.range 41).flatMap fun c => ((List.range 16).filter fun k => vld c k).map fun k => (c, k)
theorem prs_mem {c k : Nat} (h : vld c k = true) : (c, k) ∈ prs := by
  have hb : c < 41 ∧ k < 16 := by
    unfold vld at h
    split at h <;> (try simp at h) <;> try omega
    split at h <;> (try simp at h) <;> omega
  simp only [prs, List.mem_flatMap, List.mem_range, List.mem_map, List.mem_filter]
  exact ⟨c, hb.1, k, ⟨hb.2, h⟩, rfl⟩
theorem prs_vld {c k : Nat} (h : (c, k) ∈ prs) : vld c k = true := by
  simp only [prs, List.mem_flatMap, List.mem_range, List.mem_map, List.mem_filter] at h
  obtain ⟨a, -, b, ⟨-, h⟩, e⟩ := h
  cases e
  exact h
theorem prs_nodup : prs.Nodup := by decide +kernel
def wl (G : Gw) (σ : Sg) : va_W := prs.map fun q => (ad G q.1 q.2, cel G q.1 q.2 (σ q.1 q.2))
def Wd (G : Gw) (σ : Sg) (H : Heap) : Prop := va_P G.1 vwCl (wl G σ) H
def Ginj (G : Gw) : Prop := ∀ c k c' k', vld c k = true → vld c' k' = true → ad G c k = ad G c' k' → c = c' ∧ k = k'
def AA (G : Gw) : Nat → Prop := fun q => ∃ c k, vld c k = true ∧ q = ad G c k
abbrev gtys (G : Gw) : List (ClassId × FieldType) := [(G.2.1.1, .int), (G.2.1.2.1, .boolean), (G.2.1.2.2, .object RX3)]
def bkf (j : Nat) : Value := match j with
  | 0 => .int (-1000000)
  | 1 => .int 0
  | 2 => .int 1
  | 3 => .int 1
  | 4 => .int 0
  | _ => .int 4
/-- what does not change: classes, addresses, the static array -/
def Wk (G : Gw) (U : State) : Prop := Ginj G ∧ va_K G.1 vwCl (gtys G) U ∧ va_Z RX6 "BROADER_KIND" "[I" (.ref (bkA G)) (AA G) U U.heap ∧ va_T .int (bkA G) 6 bkf (AA G) U U.heap ∧
  va_Nw (.methodLinkNest RX2 123 yX6_power RX6) U ∧ va_Nw (.methodLinkNest RX1 32 yX6_isKind RX6) U ∧ va_Nw (.fieldLinkNest RX6 244 RX2 "best" "[I" RX6) U
theorem Wk.next {G : Gw} {U V : State} (h : Wk G U) (hvm : U.vm.Alike V.vm) (hw : U.WarmedH V.vm) (hq : ∀ a : Nat, a < U.heap.size → ¬ AA G a → V.heap[a]? = U.heap[a]?) : Wk G V :=
  ⟨h.1, h.2.1.moved hvm, (h.2.2.1.moved hvm).kept hq, (h.2.2.2.1.moved hvm).kept hq, va_Nw.warmM hw h.2.2.2.2.1, va_Nw.warmM hw h.2.2.2.2.2.1, va_Nw.warmF hw h.2.2.2.2.2.2⟩
theorem prs_inj {i j : Nat} {q : Nat × Nat} (hi : prs[i]? = some q) (hj : prs[j]? = some q) : i = j := List.getElem?_inj (List.getElem?_eq_some_iff.mp hi).1 prs_nodup |>.mp (hi.trans hj.symm)
theorem wl_at {G : Gw} {σ : Sg} {c k : Nat} (h : vld c k = true) : ∃ i : Nat, prs[i]? = some (c, k) ∧ (wl G σ)[i]? = some (ad G c k, cel G c k (σ c k)) := by
  obtain ⟨i, hi⟩ := List.getElem?_of_mem (prs_mem h)
  exact ⟨i, hi, by simp [wl, hi]⟩
theorem wl_D {G : Gw} (hG : Ginj G) (σ : Sg) : va_D (AA G) (wl G σ) := by
  refine ⟨fun i j p q hp hq h => ?_, fun k q hk => ?_⟩
  · simp only [wl, List.getElem?_map, Option.map_eq_some_iff] at hp hq
    obtain ⟨a, ha, rfl⟩ := hp
    obtain ⟨b, hb, rfl⟩ := hq
    have := hG a.1 a.2 b.1 b.2 (prs_vld (List.mem_of_getElem? ha)) (prs_vld (List.mem_of_getElem? hb)) h
    have hab : a = b := Prod.ext this.1 this.2
    subst hab
    exact prs_inj ha hb
  · simp only [wl, List.getElem?_map, Option.map_eq_some_iff] at hk
    obtain ⟨a, ha, rfl⟩ := hk
    exact ⟨a.1, a.2, prs_vld (List.mem_of_getElem? ha), rfl⟩
def up (σ : Sg) (c k : Nat) (f : Int32 → Int32) : Sg := fun a b => if a = c ∧ b = k then f else σ a b
def upI (f : Int32 → Int32) (i v : Int32) : Int32 → Int32 := fun j => if j = i then v else f j
theorem up_same (σ : Sg) (c k : Nat) (f : Int32 → Int32) : up σ c k f c k = f := by simp [up]
theorem up_ne (σ : Sg) {c k a b : Nat} (f : Int32 → Int32) (h : ¬ (a = c ∧ b = k)) : up σ c k f a b = σ a b := by simp [up, h]
theorem up_up (σ : Sg) (c k : Nat) (f g : Int32 → Int32) : up (up σ c k f) c k g = up σ c k g := by
  funext a b
  simp only [up]
  split <;> rfl
theorem upI_same (f : Int32 → Int32) (i v : Int32) : upI f i v i = v := by simp [upI]
theorem upI_ne (f : Int32 → Int32) {i j : Int32} (v : Int32) (h : j ≠ i) : upI f i v j = f j := by simp [upI, h]
theorem wl_set {G : Gw} {σ : Sg} {c k i : Nat} {f : Int32 → Int32} (hi : prs[i]? = some (c, k)) : (wl G σ).set i (ad G c k, cel G c k f) = wl G (up σ c k f) := by
  apply List.ext_getElem?
  intro j
  simp only [wl, List.getElem?_set, List.getElem?_map, List.length_map]
  by_cases h : i = j
  · subst h
    have hl := (List.getElem?_eq_some_iff.mp hi).1
    simp only [hi, hl, if_true, Option.map_some, up_same]
  · simp only [h, if_false]
    cases hj : prs[j]? with
    | none => rfl
    | some q =>
      simp only [Option.map_some]
      rw [up_ne]
      rintro ⟨h1, h2⟩
      apply h
      have e : q = (c, k) := Prod.ext h1 h2
      subst e
      exact prs_inj hi hj
/-! locals -/
def enL : Nat → List (Option Value) → List (Nat × Value)
  | _, [] => []
  | k, none :: r => enL (k + 1) r
  | k, some v :: r => (k, v) :: enL (k + 1) r
theorem enL_mem : ∀ (L : List (Option Value)) (k : Nat) (q : Nat × Value), q ∈ enL k L ↔ ∃ i, q.1 = k + i ∧ L[i]? = some (some q.2)
  | [], k, q => by simp [enL]
  | none :: r, k, q => by
    rw [enL, enL_mem r (k + 1) q]
    constructor
    · rintro ⟨i, h1, h2⟩
      exact ⟨i + 1, by omega, by simpa using h2⟩
    · rintro ⟨i, h1, h2⟩
      cases i with
      | zero => simp at h2
      | succ i => exact ⟨i, by omega, by simpa using h2⟩
  | some v :: r, k, q => by
    rw [enL, List.mem_cons, enL_mem r (k + 1) q]
    constructor
    · rintro (h | ⟨i, h1, h2⟩)
      · subst h
        exact ⟨0, rfl, rfl⟩
      · exact ⟨i + 1, by omega, by simpa using h2⟩
    · rintro ⟨i, h1, h2⟩
      cases i with
      | zero =>
        left
        simp at h2
        exact Prod.ext h1 h2.symm
      | succ i => exact Or.inr ⟨i, by omega, by simpa using h2⟩
def lx (ls : Array Slot) (L : List (Option Value)) : Prop := ls.size = L.length ∧ lv_wf ls ∧ ∀ (i : Nat) (v : Value), L[i]? = some (some v) → ls[i]? = some (.val v)
theorem lx.has {ls : Array Slot} {L : List (Option Value)} (h : lx ls L) : lv_has ls L.length (enL 0 L) := by
  refine ⟨h.1, h.2.1, fun q hq => ?_⟩
  obtain ⟨i, h1, h2⟩ := (enL_mem L 0 q).mp hq
  rw [show q.1 = i by omega]
  exact h.2.2 i _ h2
theorem lx.of {ls : Array Slot} {n : Nat} {lv : List (Nat × Value)} {L : List (Option Value)} (h : lv_has ls n lv) (hn : L.length = n) (hm : ∀ (i : Nat) (v : Value), L[i]? = some (some v) → (i, v) ∈ lv) : lx ls L :=
  ⟨h.1.trans hn.symm, h.2.1, fun i v hi => h.2.2 (i, v) (hm i v hi)⟩
theorem lx.sub {ls : Array Slot} {L L' : List (Option Value)} (h : lx ls L) (hn : L'.length = L.length) (hm : ∀ (i : Nat) (v : Value), L'[i]? = some (some v) → L[i]? = some (some v)) : lx ls L' :=
  ⟨h.1.trans hn.symm, h.2.1, fun i v hi => h.2.2 i v (hm i v hi)⟩
def noLong (o : Option Value) : Prop := match o with
  | some v => v.category = 1
  | none => True
def okPrev (L : List (Option Value)) (i : Nat) : Prop := match i with
  | 0 => True
  | i + 1 => ∀ o, L[i]? = some o → noLong o
theorem lx_st1 {L : List (Option Value)} {i : Nat} {v : Value} {lv' : List (Nat × Value)} (hp : okPrev L i) (hl : (i, v) :: (enL 0 L).filter (fun q => !(q.1 == i) && !(q.1 + 1 == i && q.2.category == 2)) = lv') {ls : Array Slot} (h : lv_has ls L.length lv') : lx ls (L.set i (some v)) := by
  refine lx.of h (by simp) (fun j w hj => ?_)
  subst hl
  rw [List.getElem?_set] at hj
  by_cases hij : i = j
  · subst hij
    simp only [if_true] at hj
    split at hj
    · cases hj
      exact List.mem_cons_self
    · cases hj
  · rw [if_neg hij] at hj
    refine List.mem_cons_of_mem _ (List.mem_filter.mpr ⟨(enL_mem L 0 _).mpr ⟨j, by simp, hj⟩, ?_⟩)
    have h1 : (j == i) = false := by simpa using fun e => hij e.symm
    have h2 : (j + 1 == i && w.category == 2) = false := by
      by_cases e : j + 1 = i
      · subst e
        have := hp _ hj
        simp only [noLong] at this
        simp [this]
      · simp [e]
    simp [h1, h2]
theorem lx_st2 {L : List (Option Value)} {i : Nat} {v : Value} {lv' : List (Nat × Value)} (hp : okPrev L i) (hl : (i, v) :: (enL 0 L).filter (fun q => !(q.1 == i) && (!(q.1 == i + 1) && !(q.1 + 1 == i && q.2.category == 2))) = lv') {ls : Array Slot} (h : lv_has ls L.length lv') : lx ls ((L.set i (some v)).set (i + 1) none) := by
  refine lx.of h (by simp) (fun j w hj => ?_)
  subst hl
  rw [List.getElem?_set, List.getElem?_set] at hj
  by_cases hij1 : i + 1 = j
  · subst hij1
    simp at hj
  · rw [if_neg hij1] at hj
    by_cases hij : i = j
    · subst hij
      simp only [if_true] at hj
      split at hj
      · cases hj
        exact List.mem_cons_self
      · cases hj
    · rw [if_neg hij] at hj
      refine List.mem_cons_of_mem _ (List.mem_filter.mpr ⟨(enL_mem L 0 _).mpr ⟨j, by simp, hj⟩, ?_⟩)
      have h1 : (j == i) = false := by simpa using fun e => hij e.symm
      have h0 : (j == i + 1) = false := by simpa using fun e => hij1 e.symm
      have h2 : (j + 1 == i && w.category == 2) = false := by
        by_cases e : j + 1 = i
        · subst e
          have := hp _ hj
          simp only [noLong] at this
          simp [this]
        · simp [e]
      simp [h1, h2, h0]
/-! the judgement -/
def tws : List Cond := lw_tbl.filter goodWord
theorem tws_of {w : Cond} (h : w ∈ lw_tbl) (hg : goodWord w = true) : w ∈ tws := List.mem_filter.mpr ⟨h, hg⟩
def Qv (G : Gw) (post : Option Value → Sg → Prop) : Array Value → State → Outcome → State → Prop := fun _ st oc t => (∃ (v : Option Value) (σ' : Sg), oc = .returned v ∧ post v σ' ∧ Wd G σ' t.heap) ∧ va_F (AA G) st t
def Mt (l : Launch) (G : Gw) (y : MethodName) (cc : ByteArray) (nL : Nat) (ret : Option FieldType) (fr lo : Nat) (av : List Value) (σ : Sg) (post : Option Value → Sg → Prop) : Prop :=
  Met l y (.code y cc nL ret :: tws) { frames := fr, cells := 0, slots := 0, locals := lo } (va_Pc av (fun U => Wd G σ U.heap ∧ Wk G U)) (Qv G post) 0 0 (AA G)
def retI (ret : Option FieldType) (cc : ByteArray) (pc : Nat) (v : Option Value) : Prop :=
  (ret = some .int ∧ decode cc pc = .ok (.ireturn, 1) ∧ ∃ x, v = some (.int x)) ∨ (ret = some .boolean ∧ decode cc pc = .ok (.ireturn, 1) ∧ (v = some (.int 0) ∨ v = some (.int 1))) ∨ (ret = none ∧ decode cc pc = .ok (.return_, 1) ∧ v = none) ∨
  (ret = some .long ∧ decode cc pc = .ok (.lreturn, 1) ∧ ∃ x, v = some (.long x)) ∨ (ret = some (.object RX3) ∧ decode cc pc = .ok (.areturn, 1) ∧ (v = some .null ∨ ∃ a, v = some (.ref a)))
abbrev Ph : Type := Nat → List (Option Value) → List Value → Sg → Prop
def Mach (l : Launch) (G : Gw) (own : String) (cc : ByteArray) (nL : Nat) (ret : Option FieldType) (fr lo : Nat) (post : Option Value → Sg → Prop) (Φ : Ph) : Prop :=
  ∃ (p : Program) (e : Env) (R : Room) (s : State) (m : MethodId) (args : Array Value) (below : List Frame) (meth : Method) (c : Code) (cells slots : Nat) (Q : State → Prop),
    (p.tables.exec = Jvm.exec ∧ c.code = cc ∧ c.maxLocals = nL ∧ s.vm.findClass own = some m.cls ∧ ∀ w ∈ tws, w.before args s = true) ∧ Wk G s ∧ (fr ≤ R.frames ∧ lo ≤ R.locals ∧ cells ≤ R.cells ∧ slots ≤ R.slots) ∧
    (∀ (pc : Nat) (v : Option Value) (σ : Sg), retI ret cc pc v → post v σ → ∀ (H : Heap) (locs : List Loc) (ls : Array Slot), Wd G σ H → va_S (AA G) s.heap H locs → W p l e R s m args below meth c H locs cells slots Q (F0 m pc ls v.toList)) ∧
    Φ = fun pc L st σ => L.length = nL → ∀ (H : Heap) (locs : List Loc) (ls : Array Slot), Wd G σ H → va_S (AA G) s.heap H locs → lx ls L → W p l e R s m args below meth c H locs cells slots Q (F0 m pc ls st)
end
section
section Rows
variable {l : Launch} {G : Gw} {own : String} {cc : ByteArray} {nL fr lo : Nat} {ret : Option FieldType} {post : Option Value → Sg → Prop} {Φ : Ph} {pc : Nat} {L : List (Option Value)} {st : List Value} {σ : Sg}
theorem j_iconst (M : Mach l G own cc nL ret fr lo post Φ) {n : Int} {v : Int32} (d : decode cc pc = .ok (.iconst n, 1)) (hv : Int32.ofInt n = v) (k : Φ (pc + 1) L (.int v :: st) σ) : Φ pc L (st) σ := by
  obtain ⟨p, e, R, s, m, args, below, meth, c, cells, slots, Q, ⟨hx, hb, hml, hown, hts⟩, hWk, hRm, hRet, rfl⟩ := M
  intro hn H locs ls hW hS hl
  exact lv_iconst hx hb d hv (k hn H locs ls hW hS hl)
theorem j_bipush (M : Mach l G own cc nL ret fr lo post Φ) {n : Int} {v : Int32} (d : decode cc pc = .ok (.bipush n, 2)) (hv : (Int8.ofInt n).toInt32 = v) (k : Φ (pc + 2) L (.int v :: st) σ) : Φ pc L (st) σ := by
  obtain ⟨p, e, R, s, m, args, below, meth, c, cells, slots, Q, ⟨hx, hb, hml, hown, hts⟩, hWk, hRm, hRet, rfl⟩ := M
  intro hn H locs ls hW hS hl
  exact lv_bipush hx hb d hv (k hn H locs ls hW hS hl)
theorem j_sipush (M : Mach l G own cc nL ret fr lo post Φ) {n : Int} {v : Int32} (d : decode cc pc = .ok (.sipush n, 3)) (hv : (Int16.ofInt n).toInt32 = v) (k : Φ (pc + 3) L (.int v :: st) σ) : Φ pc L (st) σ := by
  obtain ⟨p, e, R, s, m, args, below, meth, c, cells, slots, Q, ⟨hx, hb, hml, hown, hts⟩, hWk, hRm, hRet, rfl⟩ := M
  intro hn H locs ls hW hS hl
  exact lv_sipush hx hb d hv (k hn H locs ls hW hS hl)
theorem j_lconst (M : Mach l G own cc nL ret fr lo post Φ) {n : Fin 2} {v : Int64} (d : decode cc pc = .ok (.lconst n, 1)) (hv : Int64.ofNat (n : Nat) = v) (k : Φ (pc + 1) L (.long v :: st) σ) : Φ pc L st σ := by
  obtain ⟨p, e, R, s, m, args, below, meth, c, cells, slots, Q, ⟨hx, hb, hml, hown, hts⟩, hWk, hRm, hRet, rfl⟩ := M
  intro hn H locs ls hW hS hl
  exact lv_lconst hx hb d hv (k hn H locs ls hW hS hl)
theorem tw {s : State} {args : Array Value} (hts : ∀ w ∈ tws, w.before args s = true) {w : Cond} (h : w ∈ tws) : w.before args s = true := hts w h
theorem j_ldc (M : Mach l G own cc nL ret fr lo post Φ) {i : Nat} {v : Int32} (h : .constant own i v ∈ tws) (d : decode cc pc = .ok (.ldc i, 2)) (k : Φ (pc + 2) L (.int v :: st) σ) : Φ pc L st σ := by
  obtain ⟨p, e, R, s, m, args, below, meth, c, cells, slots, Q, ⟨hx, hb, hml, hown, hts⟩, hWk, hRm, hRet, rfl⟩ := M
  intro hn H locs ls hW hS hl
  exact lv_ldc hx hb hown (hts _ h) d (k hn H locs ls hW hS hl)
theorem j_ldcw (M : Mach l G own cc nL ret fr lo post Φ) {i : Nat} {v : Int32} (h : .constant own i v ∈ tws) (d : decode cc pc = .ok (.ldc_w i, 3)) (k : Φ (pc + 3) L (.int v :: st) σ) : Φ pc L st σ := by
  obtain ⟨p, e, R, s, m, args, below, meth, c, cells, slots, Q, ⟨hx, hb, hml, hown, hts⟩, hWk, hRm, hRet, rfl⟩ := M
  intro hn H locs ls hW hS hl
  exact lv_ldcw hx hb hown (hts _ h) d (k hn H locs ls hW hS hl)
theorem j_ldc2 (M : Mach l G own cc nL ret fr lo post Φ) {i : Nat} {v : Int64} (h : .constantLong own i v ∈ tws) (d : decode cc pc = .ok (.ldc2_w i, 3)) (k : Φ (pc + 3) L (.long v :: st) σ) : Φ pc L st σ := by
  obtain ⟨p, e, R, s, m, args, below, meth, c, cells, slots, Q, ⟨hx, hb, hml, hown, hts⟩, hWk, hRm, hRet, rfl⟩ := M
  intro hn H locs ls hW hS hl
  exact lv_ldc2 hx hb hown (hts _ h) d (k hn H locs ls hW hS hl)
theorem j_iload_n (M : Mach l G own cc nL ret fr lo post Φ) {k : Fin 4} {x : Int32} (d : decode cc pc = .ok (.iload_n k, 1)) (hL : L[(k : Nat)]? = some (some (.int x))) (k : Φ (pc + 1) L (.int x :: st) σ) : Φ pc L st σ := by
  obtain ⟨p, e, R, s, m, args, below, meth, c, cells, slots, Q, ⟨hx, hb, hml, hown, hts⟩, hWk, hRm, hRet, rfl⟩ := M
  intro hn H locs ls hW hS hl
  exact lv_iload_n hx hb d rfl (hl.2.2 _ _ hL) (k hn H locs ls hW hS hl)
theorem j_iload (M : Mach l G own cc nL ret fr lo post Φ) {i : Nat} {x : Int32} (d : decode cc pc = .ok (.iload i, 2)) (hL : L[i]? = some (some (.int x))) (k : Φ (pc + 2) L (.int x :: st) σ) : Φ pc L st σ := by
  obtain ⟨p, e, R, s, m, args, below, meth, c, cells, slots, Q, ⟨hx, hb, hml, hown, hts⟩, hWk, hRm, hRet, rfl⟩ := M
  intro hn H locs ls hW hS hl
  exact lv_iload hx hb d (hl.2.2 _ _ hL) (k hn H locs ls hW hS hl)
theorem j_istore_n0 (M : Mach l G own cc nL ret fr lo post Φ) {k : Fin 4} {x : Int32} (d : decode cc pc = .ok (.istore_n k, 1)) (hi : (k : Nat) < L.length) (hp : okPrev L k) (k : Φ (pc + 1) (L.set k (some (.int x))) st σ) : Φ pc L (.int x :: st) σ := by
  obtain ⟨p, e, R, s, m, args, below, meth, c, cells, slots, Q, ⟨hx, hb, hml, hown, hts⟩, hWk, hRm, hRet, rfl⟩ := M
  intro hn H locs ls hW hS hl
  refine lv_istore_n hx hb d rfl hl.has hi rfl (fun ls1 h1 => k (by simpa using hn) H locs ls1 hW hS (lx_st1 hp rfl h1))
theorem j_istore0 (M : Mach l G own cc nL ret fr lo post Φ) {i : Nat} {x : Int32} (d : decode cc pc = .ok (.istore i, 2)) (hi : i < L.length) (hp : okPrev L i) (k : Φ (pc + 2) (L.set i (some (.int x))) st σ) : Φ pc L (.int x :: st) σ := by
  obtain ⟨p, e, R, s, m, args, below, meth, c, cells, slots, Q, ⟨hx, hb, hml, hown, hts⟩, hWk, hRm, hRet, rfl⟩ := M
  intro hn H locs ls hW hS hl
  refine lv_istore hx hb d  hl.has hi rfl (fun ls1 h1 => k (by simpa using hn) H locs ls1 hW hS (lx_st1 hp rfl h1))
theorem j_lload_n (M : Mach l G own cc nL ret fr lo post Φ) {k : Fin 4} {x : Int64} (d : decode cc pc = .ok (.lload_n k, 1)) (hL : L[(k : Nat)]? = some (some (.long x))) (k : Φ (pc + 1) L (.long x :: st) σ) : Φ pc L st σ := by
  obtain ⟨p, e, R, s, m, args, below, meth, c, cells, slots, Q, ⟨hx, hb, hml, hown, hts⟩, hWk, hRm, hRet, rfl⟩ := M
  intro hn H locs ls hW hS hl
  exact lv_lload_n hx hb d rfl (hl.2.2 _ _ hL) (k hn H locs ls hW hS hl)
theorem j_lload (M : Mach l G own cc nL ret fr lo post Φ) {i : Nat} {x : Int64} (d : decode cc pc = .ok (.lload i, 2)) (hL : L[i]? = some (some (.long x))) (k : Φ (pc + 2) L (.long x :: st) σ) : Φ pc L st σ := by
  obtain ⟨p, e, R, s, m, args, below, meth, c, cells, slots, Q, ⟨hx, hb, hml, hown, hts⟩, hWk, hRm, hRet, rfl⟩ := M
  intro hn H locs ls hW hS hl
  exact lv_lload hx hb d (hl.2.2 _ _ hL) (k hn H locs ls hW hS hl)
theorem j_lstore_n0 (M : Mach l G own cc nL ret fr lo post Φ) {k : Fin 4} {x : Int64} (d : decode cc pc = .ok (.lstore_n k, 1)) (hi : (k : Nat) + 1 < L.length) (hp : okPrev L k) (k : Φ (pc + 1) ((L.set k (some (.long x))).set (k + 1) none) st σ) : Φ pc L (.long x :: st) σ := by
  obtain ⟨p, e, R, s, m, args, below, meth, c, cells, slots, Q, ⟨hx, hb, hml, hown, hts⟩, hWk, hRm, hRet, rfl⟩ := M
  intro hn H locs ls hW hS hl
  refine lv_lstore_n hx hb d rfl hl.has hi rfl (fun ls1 h1 => k (by simpa using hn) H locs ls1 hW hS (lx_st2 hp rfl h1))
theorem j_lstore0 (M : Mach l G own cc nL ret fr lo post Φ) {i : Nat} {x : Int64} (d : decode cc pc = .ok (.lstore i, 2)) (hi : i + 1 < L.length) (hp : okPrev L i) (k : Φ (pc + 2) ((L.set i (some (.long x))).set (i + 1) none) st σ) : Φ pc L (.long x :: st) σ := by
  obtain ⟨p, e, R, s, m, args, below, meth, c, cells, slots, Q, ⟨hx, hb, hml, hown, hts⟩, hWk, hRm, hRet, rfl⟩ := M
  intro hn H locs ls hW hS hl
  refine lv_lstore hx hb d  hl.has hi rfl (fun ls1 h1 => k (by simpa using hn) H locs ls1 hW hS (lx_st2 hp rfl h1))
theorem j_aload_n (M : Mach l G own cc nL ret fr lo post Φ) {k : Fin 4} {x : Nat} (d : decode cc pc = .ok (.aload_n k, 1)) (hL : L[(k : Nat)]? = some (some (.ref x))) (k : Φ (pc + 1) L (.ref x :: st) σ) : Φ pc L st σ := by
  obtain ⟨p, e, R, s, m, args, below, meth, c, cells, slots, Q, ⟨hx, hb, hml, hown, hts⟩, hWk, hRm, hRet, rfl⟩ := M
  intro hn H locs ls hW hS hl
  exact lv_aload_n hx hb d rfl (hl.2.2 _ _ hL) (k hn H locs ls hW hS hl)
theorem j_aload (M : Mach l G own cc nL ret fr lo post Φ) {i : Nat} {x : Nat} (d : decode cc pc = .ok (.aload i, 2)) (hL : L[i]? = some (some (.ref x))) (k : Φ (pc + 2) L (.ref x :: st) σ) : Φ pc L st σ := by
  obtain ⟨p, e, R, s, m, args, below, meth, c, cells, slots, Q, ⟨hx, hb, hml, hown, hts⟩, hWk, hRm, hRet, rfl⟩ := M
  intro hn H locs ls hW hS hl
  exact lv_aload hx hb d (hl.2.2 _ _ hL) (k hn H locs ls hW hS hl)
theorem j_astore_n0 (M : Mach l G own cc nL ret fr lo post Φ) {k : Fin 4} {x : Nat} (d : decode cc pc = .ok (.astore_n k, 1)) (hi : (k : Nat) < L.length) (hp : okPrev L k) (k : Φ (pc + 1) (L.set k (some (.ref x))) st σ) : Φ pc L (.ref x :: st) σ := by
  obtain ⟨p, e, R, s, m, args, below, meth, c, cells, slots, Q, ⟨hx, hb, hml, hown, hts⟩, hWk, hRm, hRet, rfl⟩ := M
  intro hn H locs ls hW hS hl
  refine lv_astore_n hx hb d rfl hl.has hi rfl (fun ls1 h1 => k (by simpa using hn) H locs ls1 hW hS (lx_st1 hp rfl h1))
theorem j_astore0 (M : Mach l G own cc nL ret fr lo post Φ) {i : Nat} {x : Nat} (d : decode cc pc = .ok (.astore i, 2)) (hi : i < L.length) (hp : okPrev L i) (k : Φ (pc + 2) (L.set i (some (.ref x))) st σ) : Φ pc L (.ref x :: st) σ := by
  obtain ⟨p, e, R, s, m, args, below, meth, c, cells, slots, Q, ⟨hx, hb, hml, hown, hts⟩, hWk, hRm, hRet, rfl⟩ := M
  intro hn H locs ls hW hS hl
  refine lv_astore hx hb d  hl.has hi rfl (fun ls1 h1 => k (by simpa using hn) H locs ls1 hW hS (lx_st1 hp rfl h1))
theorem j_iinc0 (M : Mach l G own cc nL ret fr lo post Φ) {i : Nat} {n : Int} {x v : Int32} (d : decode cc pc = .ok (.iinc i n, 3)) (hL : L[i]? = some (some (.int x))) (hv : x + Int32.ofInt n = v) (hp : okPrev L i) (k : Φ (pc + 3) (L.set i (some (.int v))) st σ) : Φ pc L st σ := by
  obtain ⟨p, e, R, s, m, args, below, meth, c, cells, slots, Q, ⟨hx, hb, hml, hown, hts⟩, hWk, hRm, hRet, rfl⟩ := M
  intro hn H locs ls hW hS hl
  have hi : i < L.length := (List.getElem?_eq_some_iff.mp hL).1
  obtain ⟨j, hj⟩ := List.getElem?_of_mem ((enL_mem L 0 (i, .int x)).mpr ⟨i, by simp, hL⟩)
  exact lv_iinc hx hb d hl.has hj hv hi rfl (fun ls1 h1 => k (by simpa using hn) H locs ls1 hW hS (lx_st1 hp rfl h1))
theorem j_iadd (M : Mach l G own cc nL ret fr lo post Φ) {x y : Int32} (d : decode cc pc = .ok (.iadd, 1))  (k : Φ (pc + 1) L (.int (x + y) :: st) σ) : Φ pc L (.int y :: .int x :: st) σ := by
  obtain ⟨p, e, R, s, m, args, below, meth, c, cells, slots, Q, ⟨hx, hb, hml, hown, hts⟩, hWk, hRm, hRet, rfl⟩ := M
  intro hn H locs ls hW hS hl
  exact lv_iadd hx hb d  (k hn H locs ls hW hS hl)
theorem j_isub (M : Mach l G own cc nL ret fr lo post Φ) {x y : Int32} (d : decode cc pc = .ok (.isub, 1))  (k : Φ (pc + 1) L (.int (x - y) :: st) σ) : Φ pc L (.int y :: .int x :: st) σ := by
  obtain ⟨p, e, R, s, m, args, below, meth, c, cells, slots, Q, ⟨hx, hb, hml, hown, hts⟩, hWk, hRm, hRet, rfl⟩ := M
  intro hn H locs ls hW hS hl
  exact lv_isub hx hb d  (k hn H locs ls hW hS hl)
theorem j_imul (M : Mach l G own cc nL ret fr lo post Φ) {x y : Int32} (d : decode cc pc = .ok (.imul, 1))  (k : Φ (pc + 1) L (.int (x * y) :: st) σ) : Φ pc L (.int y :: .int x :: st) σ := by
  obtain ⟨p, e, R, s, m, args, below, meth, c, cells, slots, Q, ⟨hx, hb, hml, hown, hts⟩, hWk, hRm, hRet, rfl⟩ := M
  intro hn H locs ls hW hS hl
  exact lv_imul hx hb d  (k hn H locs ls hW hS hl)
theorem j_iand (M : Mach l G own cc nL ret fr lo post Φ) {x y : Int32} (d : decode cc pc = .ok (.iand, 1))  (k : Φ (pc + 1) L (.int (x &&& y) :: st) σ) : Φ pc L (.int y :: .int x :: st) σ := by
  obtain ⟨p, e, R, s, m, args, below, meth, c, cells, slots, Q, ⟨hx, hb, hml, hown, hts⟩, hWk, hRm, hRet, rfl⟩ := M
  intro hn H locs ls hW hS hl
  exact lv_iand hx hb d  (k hn H locs ls hW hS hl)
theorem j_ior (M : Mach l G own cc nL ret fr lo post Φ) {x y : Int32} (d : decode cc pc = .ok (.ior, 1))  (k : Φ (pc + 1) L (.int (x ||| y) :: st) σ) : Φ pc L (.int y :: .int x :: st) σ := by
  obtain ⟨p, e, R, s, m, args, below, meth, c, cells, slots, Q, ⟨hx, hb, hml, hown, hts⟩, hWk, hRm, hRet, rfl⟩ := M
  intro hn H locs ls hW hS hl
  exact lv_ior hx hb d  (k hn H locs ls hW hS hl)
theorem j_ixor (M : Mach l G own cc nL ret fr lo post Φ) {x y : Int32} (d : decode cc pc = .ok (.ixor, 1))  (k : Φ (pc + 1) L (.int (x ^^^ y) :: st) σ) : Φ pc L (.int y :: .int x :: st) σ := by
  obtain ⟨p, e, R, s, m, args, below, meth, c, cells, slots, Q, ⟨hx, hb, hml, hown, hts⟩, hWk, hRm, hRet, rfl⟩ := M
  intro hn H locs ls hW hS hl
  exact lv_ixor hx hb d  (k hn H locs ls hW hS hl)
def rem32 (x y : Int32) : Int32 := x - x / y * y
def rem64 (x y : Int64) : Int64 := x - x / y * y
def shl32 (x y : Int32) : Int32 := x <<< (y &&& 31)
def shr32 (x y : Int32) : Int32 := x >>> (y &&& 31)
theorem j_ishl (M : Mach l G own cc nL ret fr lo post Φ) {x y : Int32} (d : decode cc pc = .ok (.ishl, 1))  (k : Φ (pc + 1) L (.int (shl32 x y) :: st) σ) : Φ pc L (.int y :: .int x :: st) σ := by
  obtain ⟨p, e, R, s, m, args, below, meth, c, cells, slots, Q, ⟨hx, hb, hml, hown, hts⟩, hWk, hRm, hRet, rfl⟩ := M
  intro hn H locs ls hW hS hl
  exact lv_ishl hx hb d  (k hn H locs ls hW hS hl)
theorem j_ishr (M : Mach l G own cc nL ret fr lo post Φ) {x y : Int32} (d : decode cc pc = .ok (.ishr, 1))  (k : Φ (pc + 1) L (.int (shr32 x y) :: st) σ) : Φ pc L (.int y :: .int x :: st) σ := by
  obtain ⟨p, e, R, s, m, args, below, meth, c, cells, slots, Q, ⟨hx, hb, hml, hown, hts⟩, hWk, hRm, hRet, rfl⟩ := M
  intro hn H locs ls hW hS hl
  exact lv_ishr hx hb d  (k hn H locs ls hW hS hl)
theorem j_iushr (M : Mach l G own cc nL ret fr lo post Φ) {x y v : Int32} (d : decode cc pc = .ok (.iushr, 1)) (hv : (x.toUInt32 >>> (y.toUInt32 &&& Int32.toUInt32 31)).toInt32 = v) (k : Φ (pc + 1) L (.int v :: st) σ) : Φ pc L (.int y :: .int x :: st) σ := by
  obtain ⟨p, e, R, s, m, args, below, meth, c, cells, slots, Q, ⟨hx, hb, hml, hown, hts⟩, hWk, hRm, hRet, rfl⟩ := M
  intro hn H locs ls hW hS hl
  exact lv_iushr hx hb d hv (k hn H locs ls hW hS hl)
theorem j_idiv (M : Mach l G own cc nL ret fr lo post Φ) {x y : Int32} (d : decode cc pc = .ok (.idiv, 1)) (hy : ¬ y = 0) (k : Φ (pc + 1) L (.int (x / y) :: st) σ) : Φ pc L (.int y :: .int x :: st) σ := by
  obtain ⟨p, e, R, s, m, args, below, meth, c, cells, slots, Q, ⟨hx, hb, hml, hown, hts⟩, hWk, hRm, hRet, rfl⟩ := M
  intro hn H locs ls hW hS hl
  exact lv_idiv hx hb d hy (k hn H locs ls hW hS hl)
theorem j_irem (M : Mach l G own cc nL ret fr lo post Φ) {x y : Int32} (d : decode cc pc = .ok (.irem, 1)) (hy : ¬ y = 0) (k : Φ (pc + 1) L (.int (rem32 x y) :: st) σ) : Φ pc L (.int y :: .int x :: st) σ := by
  obtain ⟨p, e, R, s, m, args, below, meth, c, cells, slots, Q, ⟨hx, hb, hml, hown, hts⟩, hWk, hRm, hRet, rfl⟩ := M
  intro hn H locs ls hW hS hl
  exact lv_irem hx hb d hy (k hn H locs ls hW hS hl)
theorem j_ineg (M : Mach l G own cc nL ret fr lo post Φ) {x : Int32} (d : decode cc pc = .ok (.ineg, 1))  (k : Φ (pc + 1) L (.int (-x) :: st) σ) : Φ pc L (.int x :: st) σ := by
  obtain ⟨p, e, R, s, m, args, below, meth, c, cells, slots, Q, ⟨hx, hb, hml, hown, hts⟩, hWk, hRm, hRet, rfl⟩ := M
  intro hn H locs ls hW hS hl
  exact lv_ineg hx hb d  (k hn H locs ls hW hS hl)
theorem j_ladd (M : Mach l G own cc nL ret fr lo post Φ) {x y : Int64} (d : decode cc pc = .ok (.ladd, 1))  (k : Φ (pc + 1) L (.long (x + y) :: st) σ) : Φ pc L (.long y :: .long x :: st) σ := by
  obtain ⟨p, e, R, s, m, args, below, meth, c, cells, slots, Q, ⟨hx, hb, hml, hown, hts⟩, hWk, hRm, hRet, rfl⟩ := M
  intro hn H locs ls hW hS hl
  exact lv_ladd hx hb d  (k hn H locs ls hW hS hl)
theorem j_lsub (M : Mach l G own cc nL ret fr lo post Φ) {x y : Int64} (d : decode cc pc = .ok (.lsub, 1))  (k : Φ (pc + 1) L (.long (x - y) :: st) σ) : Φ pc L (.long y :: .long x :: st) σ := by
  obtain ⟨p, e, R, s, m, args, below, meth, c, cells, slots, Q, ⟨hx, hb, hml, hown, hts⟩, hWk, hRm, hRet, rfl⟩ := M
  intro hn H locs ls hW hS hl
  exact lv_lsub hx hb d  (k hn H locs ls hW hS hl)
theorem j_lmul (M : Mach l G own cc nL ret fr lo post Φ) {x y : Int64} (d : decode cc pc = .ok (.lmul, 1))  (k : Φ (pc + 1) L (.long (x * y) :: st) σ) : Φ pc L (.long y :: .long x :: st) σ := by
  obtain ⟨p, e, R, s, m, args, below, meth, c, cells, slots, Q, ⟨hx, hb, hml, hown, hts⟩, hWk, hRm, hRet, rfl⟩ := M
  intro hn H locs ls hW hS hl
  exact lv_lmul hx hb d  (k hn H locs ls hW hS hl)
theorem j_ldiv (M : Mach l G own cc nL ret fr lo post Φ) {x y : Int64} (d : decode cc pc = .ok (.ldiv, 1)) (hy : ¬ y = 0) (k : Φ (pc + 1) L (.long (x / y) :: st) σ) : Φ pc L (.long y :: .long x :: st) σ := by
  obtain ⟨p, e, R, s, m, args, below, meth, c, cells, slots, Q, ⟨hx, hb, hml, hown, hts⟩, hWk, hRm, hRet, rfl⟩ := M
  intro hn H locs ls hW hS hl
  exact lv_ldiv hx hb d hy (k hn H locs ls hW hS hl)
theorem j_lrem (M : Mach l G own cc nL ret fr lo post Φ) {x y : Int64} (d : decode cc pc = .ok (.lrem, 1)) (hy : ¬ y = 0) (k : Φ (pc + 1) L (.long (rem64 x y) :: st) σ) : Φ pc L (.long y :: .long x :: st) σ := by
  obtain ⟨p, e, R, s, m, args, below, meth, c, cells, slots, Q, ⟨hx, hb, hml, hown, hts⟩, hWk, hRm, hRet, rfl⟩ := M
  intro hn H locs ls hW hS hl
  exact lv_lrem hx hb d hy (k hn H locs ls hW hS hl)
theorem j_lcmp (M : Mach l G own cc nL ret fr lo post Φ) {x y : Int64} (d : decode cc pc = .ok (.lcmp, 1)) (k : Φ (pc + 1) L (.int (lg_cmp x y) :: st) σ) : Φ pc L (.long y :: .long x :: st) σ := by
  obtain ⟨p, e, R, s, m, args, below, meth, c, cells, slots, Q, ⟨hx, hb, hml, hown, hts⟩, hWk, hRm, hRet, rfl⟩ := M
  intro hn H locs ls hW hS hl
  exact W.lcmp hx hb d (k hn H locs ls hW hS hl)
theorem j_i2l (M : Mach l G own cc nL ret fr lo post Φ) {x : Int32} (d : decode cc pc = .ok (.i2l, 1))  (k : Φ (pc + 1) L (.long x.toInt64 :: st) σ) : Φ pc L (.int x :: st) σ := by
  obtain ⟨p, e, R, s, m, args, below, meth, c, cells, slots, Q, ⟨hx, hb, hml, hown, hts⟩, hWk, hRm, hRet, rfl⟩ := M
  intro hn H locs ls hW hS hl
  exact lv_i2l hx hb d rfl (k hn H locs ls hW hS hl)
theorem j_l2i (M : Mach l G own cc nL ret fr lo post Φ) {x : Int64} (d : decode cc pc = .ok (.l2i, 1))  (k : Φ (pc + 1) L (.int x.toInt32 :: st) σ) : Φ pc L (.long x :: st) σ := by
  obtain ⟨p, e, R, s, m, args, below, meth, c, cells, slots, Q, ⟨hx, hb, hml, hown, hts⟩, hWk, hRm, hRet, rfl⟩ := M
  intro hn H locs ls hW hS hl
  exact lv_l2i hx hb d rfl (k hn H locs ls hW hS hl)
theorem j_i2b (M : Mach l G own cc nL ret fr lo post Φ) {x : Int32} (d : decode cc pc = .ok (.i2b, 1))  (k : Φ (pc + 1) L (.int x.toInt8.toInt32 :: st) σ) : Φ pc L (.int x :: st) σ := by
  obtain ⟨p, e, R, s, m, args, below, meth, c, cells, slots, Q, ⟨hx, hb, hml, hown, hts⟩, hWk, hRm, hRet, rfl⟩ := M
  intro hn H locs ls hW hS hl
  exact lv_i2b hx hb d rfl (k hn H locs ls hW hS hl)
theorem j_i2s (M : Mach l G own cc nL ret fr lo post Φ) {x : Int32} (d : decode cc pc = .ok (.i2s, 1))  (k : Φ (pc + 1) L (.int x.toInt16.toInt32 :: st) σ) : Φ pc L (.int x :: st) σ := by
  obtain ⟨p, e, R, s, m, args, below, meth, c, cells, slots, Q, ⟨hx, hb, hml, hown, hts⟩, hWk, hRm, hRet, rfl⟩ := M
  intro hn H locs ls hW hS hl
  exact lv_i2s hx hb d rfl (k hn H locs ls hW hS hl)
theorem j_dup (M : Mach l G own cc nL ret fr lo post Φ) {v : Value} (d : decode cc pc = .ok (.dup, 1)) (hv : v.category = 1) (k : Φ (pc + 1) L (v :: v :: st) σ) : Φ pc L (v :: st) σ := by
  obtain ⟨p, e, R, s, m, args, below, meth, c, cells, slots, Q, ⟨hx, hb, hml, hown, hts⟩, hWk, hRm, hRet, rfl⟩ := M
  intro hn H locs ls hW hS hl
  exact lv_dup hx hb d hv (k hn H locs ls hW hS hl)
theorem j_pop (M : Mach l G own cc nL ret fr lo post Φ) {v : Value} (d : decode cc pc = .ok (.pop, 1)) (hv : v.category = 1) (k : Φ (pc + 1) L st σ) : Φ pc L (v :: st) σ := by
  obtain ⟨p, e, R, s, m, args, below, meth, c, cells, slots, Q, ⟨hx, hb, hml, hown, hts⟩, hWk, hRm, hRet, rfl⟩ := M
  intro hn H locs ls hW hS hl
  exact lv_pop hx hb d hv (k hn H locs ls hW hS hl)
theorem j_dup2 (M : Mach l G own cc nL ret fr lo post Φ) {v w : Value} (d : decode cc pc = .ok (.dup2, 1)) (hv : v.category = 1) (hw : w.category = 1) (k : Φ (pc + 1) L (v :: w :: v :: w :: st) σ) : Φ pc L (v :: w :: st) σ := by
  obtain ⟨p, e, R, s, m, args, below, meth, c, cells, slots, Q, ⟨hx, hb, hml, hown, hts⟩, hWk, hRm, hRet, rfl⟩ := M
  intro hn H locs ls hW hS hl
  exact lv_dup2_11 hx hb d hv hw (k hn H locs ls hW hS hl)
theorem j_null (M : Mach l G own cc nL ret fr lo post Φ) (d : decode cc pc = .ok (.aconst_null, 1)) (k : Φ (pc + 1) L (.null :: st) σ) : Φ pc L st σ := by
  obtain ⟨p, e, R, s, m, args, below, meth, c, cells, slots, Q, ⟨hx, hb, hml, hown, hts⟩, hWk, hRm, hRet, rfl⟩ := M
  intro hn H locs ls hW hS hl
  exact lv_null hx hb d (k hn H locs ls hW hS hl)
theorem j_if_eq (M : Mach l G own cc nL ret fr lo post Φ) {x : Int32} {off : Int} {tgt : Nat} (d : decode cc pc = .ok (.ifCond .eq off, 3)) (ht : (pc : Int) + off = (tgt : Int)) (kt : x = 0 → Φ tgt L st σ) (kf : ¬ x = 0 → Φ (pc + 3) L st σ) : Φ pc L (.int x :: st) σ := by
  obtain ⟨p, e, R, s, m, args, below, meth, c, cells, slots, Q, ⟨hx, hb, hml, hown, hts⟩, hWk, hRm, hRet, rfl⟩ := M
  intro hn H locs ls hW hS hl
  exact lv_if_eq hx hb d ht (fun h => kt h hn H locs ls hW hS hl) (fun h => kf h hn H locs ls hW hS hl)
theorem j_icmp_eq (M : Mach l G own cc nL ret fr lo post Φ) {x y : Int32} {off : Int} {tgt : Nat} (d : decode cc pc = .ok (.if_icmp .eq off, 3)) (ht : (pc : Int) + off = (tgt : Int)) (kt : x = y → Φ tgt L st σ) (kf : ¬ x = y → Φ (pc + 3) L st σ) : Φ pc L (.int y :: .int x :: st) σ := by
  obtain ⟨p, e, R, s, m, args, below, meth, c, cells, slots, Q, ⟨hx, hb, hml, hown, hts⟩, hWk, hRm, hRet, rfl⟩ := M
  intro hn H locs ls hW hS hl
  exact lv_icmp_eq hx hb d ht (fun h => kt h hn H locs ls hW hS hl) (fun h => kf h hn H locs ls hW hS hl)
theorem j_if_ne (M : Mach l G own cc nL ret fr lo post Φ) {x : Int32} {off : Int} {tgt : Nat} (d : decode cc pc = .ok (.ifCond .ne off, 3)) (ht : (pc : Int) + off = (tgt : Int)) (kt : ¬ x = 0 → Φ tgt L st σ) (kf : x = 0 → Φ (pc + 3) L st σ) : Φ pc L (.int x :: st) σ := by
  obtain ⟨p, e, R, s, m, args, below, meth, c, cells, slots, Q, ⟨hx, hb, hml, hown, hts⟩, hWk, hRm, hRet, rfl⟩ := M
  intro hn H locs ls hW hS hl
  exact lv_if_ne hx hb d ht (fun h => kt h hn H locs ls hW hS hl) (fun h => kf h hn H locs ls hW hS hl)
theorem j_icmp_ne (M : Mach l G own cc nL ret fr lo post Φ) {x y : Int32} {off : Int} {tgt : Nat} (d : decode cc pc = .ok (.if_icmp .ne off, 3)) (ht : (pc : Int) + off = (tgt : Int)) (kt : ¬ x = y → Φ tgt L st σ) (kf : x = y → Φ (pc + 3) L st σ) : Φ pc L (.int y :: .int x :: st) σ := by
  obtain ⟨p, e, R, s, m, args, below, meth, c, cells, slots, Q, ⟨hx, hb, hml, hown, hts⟩, hWk, hRm, hRet, rfl⟩ := M
  intro hn H locs ls hW hS hl
  exact lv_icmp_ne hx hb d ht (fun h => kt h hn H locs ls hW hS hl) (fun h => kf h hn H locs ls hW hS hl)
theorem j_if_lt (M : Mach l G own cc nL ret fr lo post Φ) {x : Int32} {off : Int} {tgt : Nat} (d : decode cc pc = .ok (.ifCond .lt off, 3)) (ht : (pc : Int) + off = (tgt : Int)) (kt : x < 0 → Φ tgt L st σ) (kf : ¬ x < 0 → Φ (pc + 3) L st σ) : Φ pc L (.int x :: st) σ := by
  obtain ⟨p, e, R, s, m, args, below, meth, c, cells, slots, Q, ⟨hx, hb, hml, hown, hts⟩, hWk, hRm, hRet, rfl⟩ := M
  intro hn H locs ls hW hS hl
  exact lv_if_lt hx hb d ht (fun h => kt h hn H locs ls hW hS hl) (fun h => kf h hn H locs ls hW hS hl)
theorem j_icmp_lt (M : Mach l G own cc nL ret fr lo post Φ) {x y : Int32} {off : Int} {tgt : Nat} (d : decode cc pc = .ok (.if_icmp .lt off, 3)) (ht : (pc : Int) + off = (tgt : Int)) (kt : x < y → Φ tgt L st σ) (kf : ¬ x < y → Φ (pc + 3) L st σ) : Φ pc L (.int y :: .int x :: st) σ := by
  obtain ⟨p, e, R, s, m, args, below, meth, c, cells, slots, Q, ⟨hx, hb, hml, hown, hts⟩, hWk, hRm, hRet, rfl⟩ := M
  intro hn H locs ls hW hS hl
  exact lv_icmp_lt hx hb d ht (fun h => kt h hn H locs ls hW hS hl) (fun h => kf h hn H locs ls hW hS hl)
theorem j_if_ge (M : Mach l G own cc nL ret fr lo post Φ) {x : Int32} {off : Int} {tgt : Nat} (d : decode cc pc = .ok (.ifCond .ge off, 3)) (ht : (pc : Int) + off = (tgt : Int)) (kt : 0 ≤ x → Φ tgt L st σ) (kf : ¬ 0 ≤ x → Φ (pc + 3) L st σ) : Φ pc L (.int x :: st) σ := by
  obtain ⟨p, e, R, s, m, args, below, meth, c, cells, slots, Q, ⟨hx, hb, hml, hown, hts⟩, hWk, hRm, hRet, rfl⟩ := M
  intro hn H locs ls hW hS hl
  exact lv_if_ge hx hb d ht (fun h => kt h hn H locs ls hW hS hl) (fun h => kf h hn H locs ls hW hS hl)
theorem j_icmp_ge (M : Mach l G own cc nL ret fr lo post Φ) {x y : Int32} {off : Int} {tgt : Nat} (d : decode cc pc = .ok (.if_icmp .ge off, 3)) (ht : (pc : Int) + off = (tgt : Int)) (kt : y ≤ x → Φ tgt L st σ) (kf : ¬ y ≤ x → Φ (pc + 3) L st σ) : Φ pc L (.int y :: .int x :: st) σ := by
  obtain ⟨p, e, R, s, m, args, below, meth, c, cells, slots, Q, ⟨hx, hb, hml, hown, hts⟩, hWk, hRm, hRet, rfl⟩ := M
  intro hn H locs ls hW hS hl
  exact lv_icmp_ge hx hb d ht (fun h => kt h hn H locs ls hW hS hl) (fun h => kf h hn H locs ls hW hS hl)
theorem j_if_gt (M : Mach l G own cc nL ret fr lo post Φ) {x : Int32} {off : Int} {tgt : Nat} (d : decode cc pc = .ok (.ifCond .gt off, 3)) (ht : (pc : Int) + off = (tgt : Int)) (kt : 0 < x → Φ tgt L st σ) (kf : ¬ 0 < x → Φ (pc + 3) L st σ) : Φ pc L (.int x :: st) σ := by
  obtain ⟨p, e, R, s, m, args, below, meth, c, cells, slots, Q, ⟨hx, hb, hml, hown, hts⟩, hWk, hRm, hRet, rfl⟩ := M
  intro hn H locs ls hW hS hl
  exact lv_if_gt hx hb d ht (fun h => kt h hn H locs ls hW hS hl) (fun h => kf h hn H locs ls hW hS hl)
theorem j_icmp_gt (M : Mach l G own cc nL ret fr lo post Φ) {x y : Int32} {off : Int} {tgt : Nat} (d : decode cc pc = .ok (.if_icmp .gt off, 3)) (ht : (pc : Int) + off = (tgt : Int)) (kt : y < x → Φ tgt L st σ) (kf : ¬ y < x → Φ (pc + 3) L st σ) : Φ pc L (.int y :: .int x :: st) σ := by
  obtain ⟨p, e, R, s, m, args, below, meth, c, cells, slots, Q, ⟨hx, hb, hml, hown, hts⟩, hWk, hRm, hRet, rfl⟩ := M
  intro hn H locs ls hW hS hl
  exact lv_icmp_gt hx hb d ht (fun h => kt h hn H locs ls hW hS hl) (fun h => kf h hn H locs ls hW hS hl)
theorem j_if_le (M : Mach l G own cc nL ret fr lo post Φ) {x : Int32} {off : Int} {tgt : Nat} (d : decode cc pc = .ok (.ifCond .le off, 3)) (ht : (pc : Int) + off = (tgt : Int)) (kt : x ≤ 0 → Φ tgt L st σ) (kf : ¬ x ≤ 0 → Φ (pc + 3) L st σ) : Φ pc L (.int x :: st) σ := by
  obtain ⟨p, e, R, s, m, args, below, meth, c, cells, slots, Q, ⟨hx, hb, hml, hown, hts⟩, hWk, hRm, hRet, rfl⟩ := M
  intro hn H locs ls hW hS hl
  exact lv_if_le hx hb d ht (fun h => kt h hn H locs ls hW hS hl) (fun h => kf h hn H locs ls hW hS hl)
theorem j_icmp_le (M : Mach l G own cc nL ret fr lo post Φ) {x y : Int32} {off : Int} {tgt : Nat} (d : decode cc pc = .ok (.if_icmp .le off, 3)) (ht : (pc : Int) + off = (tgt : Int)) (kt : x ≤ y → Φ tgt L st σ) (kf : ¬ x ≤ y → Φ (pc + 3) L st σ) : Φ pc L (.int y :: .int x :: st) σ := by
  obtain ⟨p, e, R, s, m, args, below, meth, c, cells, slots, Q, ⟨hx, hb, hml, hown, hts⟩, hWk, hRm, hRet, rfl⟩ := M
  intro hn H locs ls hW hS hl
  exact lv_icmp_le hx hb d ht (fun h => kt h hn H locs ls hW hS hl) (fun h => kf h hn H locs ls hW hS hl)
theorem j_goto (M : Mach l G own cc nL ret fr lo post Φ) {off : Int} {tgt : Nat} (d : decode cc pc = .ok (.goto off, 3)) (ht : (pc : Int) + off = (tgt : Int)) (k : Φ tgt L st σ) : Φ pc L st σ := by
  obtain ⟨p, e, R, s, m, args, below, meth, c, cells, slots, Q, ⟨hx, hb, hml, hown, hts⟩, hWk, hRm, hRet, rfl⟩ := M
  intro hn H locs ls hW hS hl
  exact lv_goto hx hb d ht (k hn H locs ls hW hS hl)
theorem j_ifnonnull (M : Mach l G own cc nL ret fr lo post Φ) {x : Nat} {off : Int} {tgt : Nat} (d : decode cc pc = .ok (.ifnonnull off, 3)) (ht : (pc : Int) + off = (tgt : Int)) (k : Φ tgt L st σ) : Φ pc L (.ref x :: st) σ := by
  obtain ⟨p, e, R, s, m, args, below, meth, c, cells, slots, Q, ⟨hx, hb, hml, hown, hts⟩, hWk, hRm, hRet, rfl⟩ := M
  intro hn H locs ls hW hS hl
  exact lv_ifnonnull hx hb d ht (k hn H locs ls hW hS hl)
theorem j_ifnull (M : Mach l G own cc nL ret fr lo post Φ) {x : Nat} {off : Int} (d : decode cc pc = .ok (.ifnull off, 3)) (k : Φ (pc + 3) L st σ) : Φ pc L (.ref x :: st) σ := by
  obtain ⟨p, e, R, s, m, args, below, meth, c, cells, slots, Q, ⟨hx, hb, hml, hown, hts⟩, hWk, hRm, hRet, rfl⟩ := M
  intro hn H locs ls hW hS hl
  exact lv_ifnull hx hb d (k hn H locs ls hW hS hl)
theorem j_ifnonnullN (M : Mach l G own cc nL ret fr lo post Φ) {off : Int} (d : decode cc pc = .ok (.ifnonnull off, 3)) (k : Φ (pc + 3) L st σ) : Φ pc L (.null :: st) σ := by
  obtain ⟨p, e, R, s, m, args, below, meth, c, cells, slots, Q, ⟨hx, hb, hml, hown, hts⟩, hWk, hRm, hRet, rfl⟩ := M
  intro hn H locs ls hW hS hl
  exact lv_ifnonnullN hx hb d (k hn H locs ls hW hS hl)
theorem j_ifnullN (M : Mach l G own cc nL ret fr lo post Φ) {off : Int} {tgt : Nat} (d : decode cc pc = .ok (.ifnull off, 3)) (ht : (pc : Int) + off = (tgt : Int)) (k : Φ tgt L st σ) : Φ pc L (.null :: st) σ := by
  obtain ⟨p, e, R, s, m, args, below, meth, c, cells, slots, Q, ⟨hx, hb, hml, hown, hts⟩, hWk, hRm, hRet, rfl⟩ := M
  intro hn H locs ls hW hS hl
  exact lv_ifnullN hx hb d ht (k hn H locs ls hW hS hl)
theorem j_tabOut (M : Mach l G own cc nL ret fr lo post Φ) {dflt lo hi : Int} {offs : Array Int} {len : Nat} {x : Int32} {tgt : Nat} (d : decode cc pc = .ok (.tableswitch dflt lo hi offs, len)) (h : x.toInt < lo ∨ hi < x.toInt) (ht : (pc : Int) + dflt = (tgt : Int)) (k : Φ tgt L st σ) : Φ pc L (.int x :: st) σ := by
  obtain ⟨p, e, R, s, m, args, below, meth, c, cells, slots, Q, ⟨hx, hb, hml, hown, hts⟩, hWk, hRm, hRet, rfl⟩ := M
  intro hn H locs ls hW hS hl
  exact lv_tableOut hx hb d h ht (k hn H locs ls hW hS hl)
theorem j_tabIn (M : Mach l G own cc nL ret fr lo post Φ) {dflt lo hi : Int} {offs : Array Int} {len : Nat} {x : Int32} {off : Int} {tgt : Nat} (d : decode cc pc = .ok (.tableswitch dflt lo hi offs, len)) (h1 : ¬ x.toInt < lo) (h2 : ¬ hi < x.toInt) (ho : offs[(x.toInt - lo).toNat]? = some off) (ht : (pc : Int) + off = (tgt : Int)) (k : Φ tgt L st σ) : Φ pc L (.int x :: st) σ := by
  obtain ⟨p, e, R, s, m, args, below, meth, c, cells, slots, Q, ⟨hx, hb, hml, hown, hts⟩, hWk, hRm, hRet, rfl⟩ := M
  intro hn H locs ls hW hS hl
  exact lv_tableIn hx hb d h1 h2 ho ht (k hn H locs ls hW hS hl)
theorem j_lookup (M : Mach l G own cc nL ret fr lo post Φ) {dflt : Int} {ps : Array (Int × Int)} {len : Nat} {x : Int32} {off : Int} {tgt : Nat} (d : decode cc pc = .ok (.lookupswitch dflt ps, len)) (hp : (ps.toList.zip (ps.toList.drop 1)).all (fun (a, next) => a.1 < next.1) = true) (ho : Op.lookupswitch.offset ps.toList dflt x.toInt = off) (ht : (pc : Int) + off = (tgt : Int)) (k : Φ tgt L st σ) : Φ pc L (.int x :: st) σ := by
  obtain ⟨p, e, R, s, m, args, below, meth, c, cells, slots, Q, ⟨hx, hb, hml, hown, hts⟩, hWk, hRm, hRet, rfl⟩ := M
  intro hn H locs ls hW hS hl
  exact lv_lookup hx hb d hp ho ht (k hn H locs ls hW hS hl)
theorem j_iret (M : Mach l G own cc nL (some .int) fr lo post Φ) {x : Int32} (d : decode cc pc = .ok (.ireturn, 1))  (h : post (some (.int x)) σ) : Φ pc L ([.int x]) σ := by
  obtain ⟨p, e, R, s, m, args, below, meth, c, cells, slots, Q, ⟨hx, hb, hml, hown, hts⟩, hWk, hRm, hRet, rfl⟩ := M
  intro hn H locs ls hW hS hl
  exact hRet pc (some (.int x)) σ (Or.inl ⟨rfl, d, x, rfl⟩) h H locs ls hW hS
theorem j_zret (M : Mach l G own cc nL (some .boolean) fr lo post Φ) {x : Int32} (d : decode cc pc = .ok (.ireturn, 1)) (hz : x = 0 ∨ x = 1) (h : post (some (.int x)) σ) : Φ pc L ([.int x]) σ := by
  obtain ⟨p, e, R, s, m, args, below, meth, c, cells, slots, Q, ⟨hx, hb, hml, hown, hts⟩, hWk, hRm, hRet, rfl⟩ := M
  intro hn H locs ls hW hS hl
  exact hRet pc (some (.int x)) σ (Or.inr (Or.inl ⟨rfl, d, by rcases hz with rfl | rfl <;> simp⟩)) h H locs ls hW hS
theorem j_vret (M : Mach l G own cc nL none fr lo post Φ)  (d : decode cc pc = .ok (.return_, 1))  (h : post (none) σ) : Φ pc L ([]) σ := by
  obtain ⟨p, e, R, s, m, args, below, meth, c, cells, slots, Q, ⟨hx, hb, hml, hown, hts⟩, hWk, hRm, hRet, rfl⟩ := M
  intro hn H locs ls hW hS hl
  exact hRet pc (none) σ (Or.inr (Or.inr (Or.inl ⟨rfl, d, rfl⟩))) h H locs ls hW hS
theorem j_lret (M : Mach l G own cc nL (some .long) fr lo post Φ) {x : Int64} (d : decode cc pc = .ok (.lreturn, 1))  (h : post (some (.long x)) σ) : Φ pc L ([.long x]) σ := by
  obtain ⟨p, e, R, s, m, args, below, meth, c, cells, slots, Q, ⟨hx, hb, hml, hown, hts⟩, hWk, hRm, hRet, rfl⟩ := M
  intro hn H locs ls hW hS hl
  exact hRet pc (some (.long x)) σ (Or.inr (Or.inr (Or.inr (Or.inl ⟨rfl, d, x, rfl⟩)))) h H locs ls hW hS
theorem j_aret (M : Mach l G own cc nL (some (.object RX3)) fr lo post Φ) {x : Nat} (d : decode cc pc = .ok (.areturn, 1))  (h : post (some (.ref x)) σ) : Φ pc L ([.ref x]) σ := by
  obtain ⟨p, e, R, s, m, args, below, meth, c, cells, slots, Q, ⟨hx, hb, hml, hown, hts⟩, hWk, hRm, hRet, rfl⟩ := M
  intro hn H locs ls hW hS hl
  exact hRet pc (some (.ref x)) σ (Or.inr (Or.inr (Or.inr (Or.inr ⟨rfl, d, Or.inr ⟨x, rfl⟩⟩)))) h H locs ls hW hS
theorem j_aretN (M : Mach l G own cc nL (some (.object RX3)) fr lo post Φ)  (d : decode cc pc = .ok (.areturn, 1))  (h : post (some .null) σ) : Φ pc L ([.null]) σ := by
  obtain ⟨p, e, R, s, m, args, below, meth, c, cells, slots, Q, ⟨hx, hb, hml, hown, hts⟩, hWk, hRm, hRet, rfl⟩ := M
  intro hn H locs ls hW hS hl
  exact hRet pc (some .null) σ (Or.inr (Or.inr (Or.inr (Or.inr ⟨rfl, d, Or.inl rfl⟩)))) h H locs ls hW hS
def lsub : List (Option Value) → List (Option Value) → Prop
  | [], [] => True
  | none :: a, _ :: b => lsub a b
  | some v :: a, w :: b => w = some v ∧ lsub a b
  | _, _ => False
theorem lsub_len : ∀ {a b : List (Option Value)}, lsub a b → a.length = b.length
  | [], [], _ => rfl
  | none :: a, _ :: b, h => congrArg (· + 1) (lsub_len (a := a) (b := b) h)
  | some v :: a, w :: b, h => congrArg (· + 1) (lsub_len (a := a) (b := b) h.2)
  | [], _ :: _, h => h.elim
  | none :: _, [], h => h.elim
  | some _ :: _, [], h => h.elim
theorem lsub_at : ∀ {a b : List (Option Value)}, lsub a b → ∀ (i : Nat) (v : Value), a[i]? = some (some v) → b[i]? = some (some v)
  | [], [], _, i, v, h => by simp at h
  | none :: a, _ :: b, h, 0, v, hi => by simp at hi
  | none :: a, _ :: b, h, i + 1, v, hi => by simpa using lsub_at (a := a) (b := b) h i v (by simpa using hi)
  | some u :: a, w :: b, h, 0, v, hi => by simpa [h.1] using hi
  | some u :: a, w :: b, h, i + 1, v, hi => by simpa using lsub_at (a := a) (b := b) h.2 i v (by simpa using hi)
  | [], _ :: _, h, _, _, _ => h.elim
  | none :: _, [], h, _, _, _ => h.elim
  | some _ :: _, [], h, _, _, _ => h.elim
theorem j_forget (M : Mach l G own cc nL ret fr lo post Φ) {L' : List (Option Value)} (h : lsub L' L) (k : Φ pc L' st σ) : Φ pc L st σ := by
  obtain ⟨p, e, R, s, m, args, below, meth, c, cells, slots, Q, ⟨hx, hb, hml, hown, hts⟩, hWk, hRm, hRet, rfl⟩ := M
  intro hn H locs ls hW hS hl
  exact k ((lsub_len h).trans hn) H locs ls hW hS (hl.sub (lsub_len h) (lsub_at h))
end Rows
section Rows2
variable {l : Launch} {G : Gw} {own : String} {cc : ByteArray} {nL fr lo : Nat} {ret : Option FieldType} {post : Option Value → Sg → Prop} {Φ : Ph} {pc : Nat} {rest : List (Option Value)} {st : List Value} {σ : Sg}
theorem j_istore_0 (M : Mach l G own cc nL ret fr lo post Φ) {x0 : Option Value} {x : Int32} (d : decode cc pc = .ok (.istore_n 0, 1))  (k : Φ (pc + 1) (some (.int x) :: rest) st σ) : Φ pc (x0 :: rest) (.int x :: st) σ := j_istore_n0 M d (by show 0 < _; simp only [List.length_cons]; omega) trivial k
theorem j_astore_0 (M : Mach l G own cc nL ret fr lo post Φ) {x0 : Option Value} {x : Nat} (d : decode cc pc = .ok (.astore_n 0, 1))  (k : Φ (pc + 1) (some (.ref x) :: rest) st σ) : Φ pc (x0 :: rest) (.ref x :: st) σ := j_astore_n0 M d (by show 0 < _; simp only [List.length_cons]; omega) trivial k
theorem j_iinc_0 (M : Mach l G own cc nL ret fr lo post Φ) {n : Int} {x v : Int32} (d : decode cc pc = .ok (.iinc 0 n, 3)) (hv : x + Int32.ofInt n = v) (k : Φ (pc + 3) (some (.int v) :: rest) st σ) : Φ pc (some (.int x) :: rest) st σ := j_iinc0 M d (by simp) hv trivial k
theorem j_lstore_0 (M : Mach l G own cc nL ret fr lo post Φ) {x0 x1 : Option Value} {x : Int64} (d : decode cc pc = .ok (.lstore_n 0, 1))  (k : Φ (pc + 1) (some (.long x) :: none :: rest) st σ) : Φ pc (x0 :: x1 :: rest) (.long x :: st) σ := j_lstore_n0 M d (by show 0 + 1 < _; simp only [List.length_cons]; omega) trivial k
theorem j_istore_1 (M : Mach l G own cc nL ret fr lo post Φ) {x0 x1 : Option Value} {x : Int32} (d : decode cc pc = .ok (.istore_n 1, 1)) (hp : noLong x0) (k : Φ (pc + 1) (x0 :: some (.int x) :: rest) st σ) : Φ pc (x0 :: x1 :: rest) (.int x :: st) σ := j_istore_n0 M d (by show 1 < _; simp only [List.length_cons]; omega) (fun o ho => by simp at ho; subst ho; exact hp) k
theorem j_astore_1 (M : Mach l G own cc nL ret fr lo post Φ) {x0 x1 : Option Value} {x : Nat} (d : decode cc pc = .ok (.astore_n 1, 1)) (hp : noLong x0) (k : Φ (pc + 1) (x0 :: some (.ref x) :: rest) st σ) : Φ pc (x0 :: x1 :: rest) (.ref x :: st) σ := j_astore_n0 M d (by show 1 < _; simp only [List.length_cons]; omega) (fun o ho => by simp at ho; subst ho; exact hp) k
theorem j_iinc_1 (M : Mach l G own cc nL ret fr lo post Φ) {x0 : Option Value} {n : Int} {x v : Int32} (d : decode cc pc = .ok (.iinc 1 n, 3)) (hv : x + Int32.ofInt n = v) (hp : noLong x0) (k : Φ (pc + 3) (x0 :: some (.int v) :: rest) st σ) : Φ pc (x0 :: some (.int x) :: rest) st σ := j_iinc0 M d (by simp) hv (fun o ho => by simp at ho; subst ho; exact hp) k
theorem j_lstore_1 (M : Mach l G own cc nL ret fr lo post Φ) {x0 x1 x2 : Option Value} {x : Int64} (d : decode cc pc = .ok (.lstore_n 1, 1)) (hp : noLong x0) (k : Φ (pc + 1) (x0 :: some (.long x) :: none :: rest) st σ) : Φ pc (x0 :: x1 :: x2 :: rest) (.long x :: st) σ := j_lstore_n0 M d (by show 1 + 1 < _; simp only [List.length_cons]; omega) (fun o ho => by simp at ho; subst ho; exact hp) k
theorem j_istore_2 (M : Mach l G own cc nL ret fr lo post Φ) {x0 x1 x2 : Option Value} {x : Int32} (d : decode cc pc = .ok (.istore_n 2, 1)) (hp : noLong x1) (k : Φ (pc + 1) (x0 :: x1 :: some (.int x) :: rest) st σ) : Φ pc (x0 :: x1 :: x2 :: rest) (.int x :: st) σ := j_istore_n0 M d (by show 2 < _; simp only [List.length_cons]; omega) (fun o ho => by simp at ho; subst ho; exact hp) k
theorem j_astore_2 (M : Mach l G own cc nL ret fr lo post Φ) {x0 x1 x2 : Option Value} {x : Nat} (d : decode cc pc = .ok (.astore_n 2, 1)) (hp : noLong x1) (k : Φ (pc + 1) (x0 :: x1 :: some (.ref x) :: rest) st σ) : Φ pc (x0 :: x1 :: x2 :: rest) (.ref x :: st) σ := j_astore_n0 M d (by show 2 < _; simp only [List.length_cons]; omega) (fun o ho => by simp at ho; subst ho; exact hp) k
theorem j_iinc_2 (M : Mach l G own cc nL ret fr lo post Φ) {x0 x1 : Option Value} {n : Int} {x v : Int32} (d : decode cc pc = .ok (.iinc 2 n, 3)) (hv : x + Int32.ofInt n = v) (hp : noLong x1) (k : Φ (pc + 3) (x0 :: x1 :: some (.int v) :: rest) st σ) : Φ pc (x0 :: x1 :: some (.int x) :: rest) st σ := j_iinc0 M d (by simp) hv (fun o ho => by simp at ho; subst ho; exact hp) k
theorem j_lstore_2 (M : Mach l G own cc nL ret fr lo post Φ) {x0 x1 x2 x3 : Option Value} {x : Int64} (d : decode cc pc = .ok (.lstore_n 2, 1)) (hp : noLong x1) (k : Φ (pc + 1) (x0 :: x1 :: some (.long x) :: none :: rest) st σ) : Φ pc (x0 :: x1 :: x2 :: x3 :: rest) (.long x :: st) σ := j_lstore_n0 M d (by show 2 + 1 < _; simp only [List.length_cons]; omega) (fun o ho => by simp at ho; subst ho; exact hp) k
theorem j_istore_3 (M : Mach l G own cc nL ret fr lo post Φ) {x0 x1 x2 x3 : Option Value} {x : Int32} (d : decode cc pc = .ok (.istore_n 3, 1)) (hp : noLong x2) (k : Φ (pc + 1) (x0 :: x1 :: x2 :: some (.int x) :: rest) st σ) : Φ pc (x0 :: x1 :: x2 :: x3 :: rest) (.int x :: st) σ := j_istore_n0 M d (by show 3 < _; simp only [List.length_cons]; omega) (fun o ho => by simp at ho; subst ho; exact hp) k
theorem j_astore_3 (M : Mach l G own cc nL ret fr lo post Φ) {x0 x1 x2 x3 : Option Value} {x : Nat} (d : decode cc pc = .ok (.astore_n 3, 1)) (hp : noLong x2) (k : Φ (pc + 1) (x0 :: x1 :: x2 :: some (.ref x) :: rest) st σ) : Φ pc (x0 :: x1 :: x2 :: x3 :: rest) (.ref x :: st) σ := j_astore_n0 M d (by show 3 < _; simp only [List.length_cons]; omega) (fun o ho => by simp at ho; subst ho; exact hp) k
theorem j_iinc_3 (M : Mach l G own cc nL ret fr lo post Φ) {x0 x1 x2 : Option Value} {n : Int} {x v : Int32} (d : decode cc pc = .ok (.iinc 3 n, 3)) (hv : x + Int32.ofInt n = v) (hp : noLong x2) (k : Φ (pc + 3) (x0 :: x1 :: x2 :: some (.int v) :: rest) st σ) : Φ pc (x0 :: x1 :: x2 :: some (.int x) :: rest) st σ := j_iinc0 M d (by simp) hv (fun o ho => by simp at ho; subst ho; exact hp) k
theorem j_lstore_3 (M : Mach l G own cc nL ret fr lo post Φ) {x0 x1 x2 x3 x4 : Option Value} {x : Int64} (d : decode cc pc = .ok (.lstore_n 3, 1)) (hp : noLong x2) (k : Φ (pc + 1) (x0 :: x1 :: x2 :: some (.long x) :: none :: rest) st σ) : Φ pc (x0 :: x1 :: x2 :: x3 :: x4 :: rest) (.long x :: st) σ := j_lstore_n0 M d (by show 3 + 1 < _; simp only [List.length_cons]; omega) (fun o ho => by simp at ho; subst ho; exact hp) k
theorem j_istore_4 (M : Mach l G own cc nL ret fr lo post Φ) {x0 x1 x2 x3 x4 : Option Value} {x : Int32} (d : decode cc pc = .ok (.istore 4, 2)) (hp : noLong x3) (k : Φ (pc + 2) (x0 :: x1 :: x2 :: x3 :: some (.int x) :: rest) st σ) : Φ pc (x0 :: x1 :: x2 :: x3 :: x4 :: rest) (.int x :: st) σ := j_istore0 M d (by simp) (fun o ho => by simp at ho; subst ho; exact hp) k
theorem j_astore_4 (M : Mach l G own cc nL ret fr lo post Φ) {x0 x1 x2 x3 x4 : Option Value} {x : Nat} (d : decode cc pc = .ok (.astore 4, 2)) (hp : noLong x3) (k : Φ (pc + 2) (x0 :: x1 :: x2 :: x3 :: some (.ref x) :: rest) st σ) : Φ pc (x0 :: x1 :: x2 :: x3 :: x4 :: rest) (.ref x :: st) σ := j_astore0 M d (by simp) (fun o ho => by simp at ho; subst ho; exact hp) k
theorem j_iinc_4 (M : Mach l G own cc nL ret fr lo post Φ) {x0 x1 x2 x3 : Option Value} {n : Int} {x v : Int32} (d : decode cc pc = .ok (.iinc 4 n, 3)) (hv : x + Int32.ofInt n = v) (hp : noLong x3) (k : Φ (pc + 3) (x0 :: x1 :: x2 :: x3 :: some (.int v) :: rest) st σ) : Φ pc (x0 :: x1 :: x2 :: x3 :: some (.int x) :: rest) st σ := j_iinc0 M d (by simp) hv (fun o ho => by simp at ho; subst ho; exact hp) k
theorem j_lstore_4 (M : Mach l G own cc nL ret fr lo post Φ) {x0 x1 x2 x3 x4 x5 : Option Value} {x : Int64} (d : decode cc pc = .ok (.lstore 4, 2)) (hp : noLong x3) (k : Φ (pc + 2) (x0 :: x1 :: x2 :: x3 :: some (.long x) :: none :: rest) st σ) : Φ pc (x0 :: x1 :: x2 :: x3 :: x4 :: x5 :: rest) (.long x :: st) σ := j_lstore0 M d (by simp) (fun o ho => by simp at ho; subst ho; exact hp) k
theorem j_istore_5 (M : Mach l G own cc nL ret fr lo post Φ) {x0 x1 x2 x3 x4 x5 : Option Value} {x : Int32} (d : decode cc pc = .ok (.istore 5, 2)) (hp : noLong x4) (k : Φ (pc + 2) (x0 :: x1 :: x2 :: x3 :: x4 :: some (.int x) :: rest) st σ) : Φ pc (x0 :: x1 :: x2 :: x3 :: x4 :: x5 :: rest) (.int x :: st) σ := j_istore0 M d (by simp) (fun o ho => by simp at ho; subst ho; exact hp) k
theorem j_astore_5 (M : Mach l G own cc nL ret fr lo post Φ) {x0 x1 x2 x3 x4 x5 : Option Value} {x : Nat} (d : decode cc pc = .ok (.astore 5, 2)) (hp : noLong x4) (k : Φ (pc + 2) (x0 :: x1 :: x2 :: x3 :: x4 :: some (.ref x) :: rest) st σ) : Φ pc (x0 :: x1 :: x2 :: x3 :: x4 :: x5 :: rest) (.ref x :: st) σ := j_astore0 M d (by simp) (fun o ho => by simp at ho; subst ho; exact hp) k
theorem j_iinc_5 (M : Mach l G own cc nL ret fr lo post Φ) {x0 x1 x2 x3 x4 : Option Value} {n : Int} {x v : Int32} (d : decode cc pc = .ok (.iinc 5 n, 3)) (hv : x + Int32.ofInt n = v) (hp : noLong x4) (k : Φ (pc + 3) (x0 :: x1 :: x2 :: x3 :: x4 :: some (.int v) :: rest) st σ) : Φ pc (x0 :: x1 :: x2 :: x3 :: x4 :: some (.int x) :: rest) st σ := j_iinc0 M d (by simp) hv (fun o ho => by simp at ho; subst ho; exact hp) k
theorem j_lstore_5 (M : Mach l G own cc nL ret fr lo post Φ) {x0 x1 x2 x3 x4 x5 x6 : Option Value} {x : Int64} (d : decode cc pc = .ok (.lstore 5, 2)) (hp : noLong x4) (k : Φ (pc + 2) (x0 :: x1 :: x2 :: x3 :: x4 :: some (.long x) :: none :: rest) st σ) : Φ pc (x0 :: x1 :: x2 :: x3 :: x4 :: x5 :: x6 :: rest) (.long x :: st) σ := j_lstore0 M d (by simp) (fun o ho => by simp at ho; subst ho; exact hp) k
theorem j_istore_6 (M : Mach l G own cc nL ret fr lo post Φ) {x0 x1 x2 x3 x4 x5 x6 : Option Value} {x : Int32} (d : decode cc pc = .ok (.istore 6, 2)) (hp : noLong x5) (k : Φ (pc + 2) (x0 :: x1 :: x2 :: x3 :: x4 :: x5 :: some (.int x) :: rest) st σ) : Φ pc (x0 :: x1 :: x2 :: x3 :: x4 :: x5 :: x6 :: rest) (.int x :: st) σ := j_istore0 M d (by simp) (fun o ho => by simp at ho; subst ho; exact hp) k
theorem j_astore_6 (M : Mach l G own cc nL ret fr lo post Φ) {x0 x1 x2 x3 x4 x5 x6 : Option Value} {x : Nat} (d : decode cc pc = .ok (.astore 6, 2)) (hp : noLong x5) (k : Φ (pc + 2) (x0 :: x1 :: x2 :: x3 :: x4 :: x5 :: some (.ref x) :: rest) st σ) : Φ pc (x0 :: x1 :: x2 :: x3 :: x4 :: x5 :: x6 :: rest) (.ref x :: st) σ := j_astore0 M d (by simp) (fun o ho => by simp at ho; subst ho; exact hp) k
theorem j_iinc_6 (M : Mach l G own cc nL ret fr lo post Φ) {x0 x1 x2 x3 x4 x5 : Option Value} {n : Int} {x v : Int32} (d : decode cc pc = .ok (.iinc 6 n, 3)) (hv : x + Int32.ofInt n = v) (hp : noLong x5) (k : Φ (pc + 3) (x0 :: x1 :: x2 :: x3 :: x4 :: x5 :: some (.int v) :: rest) st σ) : Φ pc (x0 :: x1 :: x2 :: x3 :: x4 :: x5 :: some (.int x) :: rest) st σ := j_iinc0 M d (by simp) hv (fun o ho => by simp at ho; subst ho; exact hp) k
theorem j_lstore_6 (M : Mach l G own cc nL ret fr lo post Φ) {x0 x1 x2 x3 x4 x5 x6 x7 : Option Value} {x : Int64} (d : decode cc pc = .ok (.lstore 6, 2)) (hp : noLong x5) (k : Φ (pc + 2) (x0 :: x1 :: x2 :: x3 :: x4 :: x5 :: some (.long x) :: none :: rest) st σ) : Φ pc (x0 :: x1 :: x2 :: x3 :: x4 :: x5 :: x6 :: x7 :: rest) (.long x :: st) σ := j_lstore0 M d (by simp) (fun o ho => by simp at ho; subst ho; exact hp) k
theorem j_istore_7 (M : Mach l G own cc nL ret fr lo post Φ) {x0 x1 x2 x3 x4 x5 x6 x7 : Option Value} {x : Int32} (d : decode cc pc = .ok (.istore 7, 2)) (hp : noLong x6) (k : Φ (pc + 2) (x0 :: x1 :: x2 :: x3 :: x4 :: x5 :: x6 :: some (.int x) :: rest) st σ) : Φ pc (x0 :: x1 :: x2 :: x3 :: x4 :: x5 :: x6 :: x7 :: rest) (.int x :: st) σ := j_istore0 M d (by simp) (fun o ho => by simp at ho; subst ho; exact hp) k
theorem j_astore_7 (M : Mach l G own cc nL ret fr lo post Φ) {x0 x1 x2 x3 x4 x5 x6 x7 : Option Value} {x : Nat} (d : decode cc pc = .ok (.astore 7, 2)) (hp : noLong x6) (k : Φ (pc + 2) (x0 :: x1 :: x2 :: x3 :: x4 :: x5 :: x6 :: some (.ref x) :: rest) st σ) : Φ pc (x0 :: x1 :: x2 :: x3 :: x4 :: x5 :: x6 :: x7 :: rest) (.ref x :: st) σ := j_astore0 M d (by simp) (fun o ho => by simp at ho; subst ho; exact hp) k
theorem j_iinc_7 (M : Mach l G own cc nL ret fr lo post Φ) {x0 x1 x2 x3 x4 x5 x6 : Option Value} {n : Int} {x v : Int32} (d : decode cc pc = .ok (.iinc 7 n, 3)) (hv : x + Int32.ofInt n = v) (hp : noLong x6) (k : Φ (pc + 3) (x0 :: x1 :: x2 :: x3 :: x4 :: x5 :: x6 :: some (.int v) :: rest) st σ) : Φ pc (x0 :: x1 :: x2 :: x3 :: x4 :: x5 :: x6 :: some (.int x) :: rest) st σ := j_iinc0 M d (by simp) hv (fun o ho => by simp at ho; subst ho; exact hp) k
theorem j_lstore_7 (M : Mach l G own cc nL ret fr lo post Φ) {x0 x1 x2 x3 x4 x5 x6 x7 x8 : Option Value} {x : Int64} (d : decode cc pc = .ok (.lstore 7, 2)) (hp : noLong x6) (k : Φ (pc + 2) (x0 :: x1 :: x2 :: x3 :: x4 :: x5 :: x6 :: some (.long x) :: none :: rest) st σ) : Φ pc (x0 :: x1 :: x2 :: x3 :: x4 :: x5 :: x6 :: x7 :: x8 :: rest) (.long x :: st) σ := j_lstore0 M d (by simp) (fun o ho => by simp at ho; subst ho; exact hp) k
theorem j_istore_8 (M : Mach l G own cc nL ret fr lo post Φ) {x0 x1 x2 x3 x4 x5 x6 x7 x8 : Option Value} {x : Int32} (d : decode cc pc = .ok (.istore 8, 2)) (hp : noLong x7) (k : Φ (pc + 2) (x0 :: x1 :: x2 :: x3 :: x4 :: x5 :: x6 :: x7 :: some (.int x) :: rest) st σ) : Φ pc (x0 :: x1 :: x2 :: x3 :: x4 :: x5 :: x6 :: x7 :: x8 :: rest) (.int x :: st) σ := j_istore0 M d (by simp) (fun o ho => by simp at ho; subst ho; exact hp) k
theorem j_astore_8 (M : Mach l G own cc nL ret fr lo post Φ) {x0 x1 x2 x3 x4 x5 x6 x7 x8 : Option Value} {x : Nat} (d : decode cc pc = .ok (.astore 8, 2)) (hp : noLong x7) (k : Φ (pc + 2) (x0 :: x1 :: x2 :: x3 :: x4 :: x5 :: x6 :: x7 :: some (.ref x) :: rest) st σ) : Φ pc (x0 :: x1 :: x2 :: x3 :: x4 :: x5 :: x6 :: x7 :: x8 :: rest) (.ref x :: st) σ := j_astore0 M d (by simp) (fun o ho => by simp at ho; subst ho; exact hp) k
theorem j_iinc_8 (M : Mach l G own cc nL ret fr lo post Φ) {x0 x1 x2 x3 x4 x5 x6 x7 : Option Value} {n : Int} {x v : Int32} (d : decode cc pc = .ok (.iinc 8 n, 3)) (hv : x + Int32.ofInt n = v) (hp : noLong x7) (k : Φ (pc + 3) (x0 :: x1 :: x2 :: x3 :: x4 :: x5 :: x6 :: x7 :: some (.int v) :: rest) st σ) : Φ pc (x0 :: x1 :: x2 :: x3 :: x4 :: x5 :: x6 :: x7 :: some (.int x) :: rest) st σ := j_iinc0 M d (by simp) hv (fun o ho => by simp at ho; subst ho; exact hp) k
theorem j_lstore_8 (M : Mach l G own cc nL ret fr lo post Φ) {x0 x1 x2 x3 x4 x5 x6 x7 x8 x9 : Option Value} {x : Int64} (d : decode cc pc = .ok (.lstore 8, 2)) (hp : noLong x7) (k : Φ (pc + 2) (x0 :: x1 :: x2 :: x3 :: x4 :: x5 :: x6 :: x7 :: some (.long x) :: none :: rest) st σ) : Φ pc (x0 :: x1 :: x2 :: x3 :: x4 :: x5 :: x6 :: x7 :: x8 :: x9 :: rest) (.long x :: st) σ := j_lstore0 M d (by simp) (fun o ho => by simp at ho; subst ho; exact hp) k
theorem j_istore_9 (M : Mach l G own cc nL ret fr lo post Φ) {x0 x1 x2 x3 x4 x5 x6 x7 x8 x9 : Option Value} {x : Int32} (d : decode cc pc = .ok (.istore 9, 2)) (hp : noLong x8) (k : Φ (pc + 2) (x0 :: x1 :: x2 :: x3 :: x4 :: x5 :: x6 :: x7 :: x8 :: some (.int x) :: rest) st σ) : Φ pc (x0 :: x1 :: x2 :: x3 :: x4 :: x5 :: x6 :: x7 :: x8 :: x9 :: rest) (.int x :: st) σ := j_istore0 M d (by simp) (fun o ho => by simp at ho; subst ho; exact hp) k
theorem j_astore_9 (M : Mach l G own cc nL ret fr lo post Φ) {x0 x1 x2 x3 x4 x5 x6 x7 x8 x9 : Option Value} {x : Nat} (d : decode cc pc = .ok (.astore 9, 2)) (hp : noLong x8) (k : Φ (pc + 2) (x0 :: x1 :: x2 :: x3 :: x4 :: x5 :: x6 :: x7 :: x8 :: some (.ref x) :: rest) st σ) : Φ pc (x0 :: x1 :: x2 :: x3 :: x4 :: x5 :: x6 :: x7 :: x8 :: x9 :: rest) (.ref x :: st) σ := j_astore0 M d (by simp) (fun o ho => by simp at ho; subst ho; exact hp) k
theorem j_iinc_9 (M : Mach l G own cc nL ret fr lo post Φ) {x0 x1 x2 x3 x4 x5 x6 x7 x8 : Option Value} {n : Int} {x v : Int32} (d : decode cc pc = .ok (.iinc 9 n, 3)) (hv : x + Int32.ofInt n = v) (hp : noLong x8) (k : Φ (pc + 3) (x0 :: x1 :: x2 :: x3 :: x4 :: x5 :: x6 :: x7 :: x8 :: some (.int v) :: rest) st σ) : Φ pc (x0 :: x1 :: x2 :: x3 :: x4 :: x5 :: x6 :: x7 :: x8 :: some (.int x) :: rest) st σ := j_iinc0 M d (by simp) hv (fun o ho => by simp at ho; subst ho; exact hp) k
theorem j_lstore_9 (M : Mach l G own cc nL ret fr lo post Φ) {x0 x1 x2 x3 x4 x5 x6 x7 x8 x9 x10 : Option Value} {x : Int64} (d : decode cc pc = .ok (.lstore 9, 2)) (hp : noLong x8) (k : Φ (pc + 2) (x0 :: x1 :: x2 :: x3 :: x4 :: x5 :: x6 :: x7 :: x8 :: some (.long x) :: none :: rest) st σ) : Φ pc (x0 :: x1 :: x2 :: x3 :: x4 :: x5 :: x6 :: x7 :: x8 :: x9 :: x10 :: rest) (.long x :: st) σ := j_lstore0 M d (by simp) (fun o ho => by simp at ho; subst ho; exact hp) k
theorem j_istore_10 (M : Mach l G own cc nL ret fr lo post Φ) {x0 x1 x2 x3 x4 x5 x6 x7 x8 x9 x10 : Option Value} {x : Int32} (d : decode cc pc = .ok (.istore 10, 2)) (hp : noLong x9) (k : Φ (pc + 2) (x0 :: x1 :: x2 :: x3 :: x4 :: x5 :: x6 :: x7 :: x8 :: x9 :: some (.int x) :: rest) st σ) : Φ pc (x0 :: x1 :: x2 :: x3 :: x4 :: x5 :: x6 :: x7 :: x8 :: x9 :: x10 :: rest) (.int x :: st) σ := j_istore0 M d (by simp) (fun o ho => by simp at ho; subst ho; exact hp) k
theorem j_astore_10 (M : Mach l G own cc nL ret fr lo post Φ) {x0 x1 x2 x3 x4 x5 x6 x7 x8 x9 x10 : Option Value} {x : Nat} (d : decode cc pc = .ok (.astore 10, 2)) (hp : noLong x9) (k : Φ (pc + 2) (x0 :: x1 :: x2 :: x3 :: x4 :: x5 :: x6 :: x7 :: x8 :: x9 :: some (.ref x) :: rest) st σ) : Φ pc (x0 :: x1 :: x2 :: x3 :: x4 :: x5 :: x6 :: x7 :: x8 :: x9 :: x10 :: rest) (.ref x :: st) σ := j_astore0 M d (by simp) (fun o ho => by simp at ho; subst ho; exact hp) k
theorem j_iinc_10 (M : Mach l G own cc nL ret fr lo post Φ) {x0 x1 x2 x3 x4 x5 x6 x7 x8 x9 : Option Value} {n : Int} {x v : Int32} (d : decode cc pc = .ok (.iinc 10 n, 3)) (hv : x + Int32.ofInt n = v) (hp : noLong x9) (k : Φ (pc + 3) (x0 :: x1 :: x2 :: x3 :: x4 :: x5 :: x6 :: x7 :: x8 :: x9 :: some (.int v) :: rest) st σ) : Φ pc (x0 :: x1 :: x2 :: x3 :: x4 :: x5 :: x6 :: x7 :: x8 :: x9 :: some (.int x) :: rest) st σ := j_iinc0 M d (by simp) hv (fun o ho => by simp at ho; subst ho; exact hp) k
theorem j_lstore_10 (M : Mach l G own cc nL ret fr lo post Φ) {x0 x1 x2 x3 x4 x5 x6 x7 x8 x9 x10 x11 : Option Value} {x : Int64} (d : decode cc pc = .ok (.lstore 10, 2)) (hp : noLong x9) (k : Φ (pc + 2) (x0 :: x1 :: x2 :: x3 :: x4 :: x5 :: x6 :: x7 :: x8 :: x9 :: some (.long x) :: none :: rest) st σ) : Φ pc (x0 :: x1 :: x2 :: x3 :: x4 :: x5 :: x6 :: x7 :: x8 :: x9 :: x10 :: x11 :: rest) (.long x :: st) σ := j_lstore0 M d (by simp) (fun o ho => by simp at ho; subst ho; exact hp) k
theorem j_istore_11 (M : Mach l G own cc nL ret fr lo post Φ) {x0 x1 x2 x3 x4 x5 x6 x7 x8 x9 x10 x11 : Option Value} {x : Int32} (d : decode cc pc = .ok (.istore 11, 2)) (hp : noLong x10) (k : Φ (pc + 2) (x0 :: x1 :: x2 :: x3 :: x4 :: x5 :: x6 :: x7 :: x8 :: x9 :: x10 :: some (.int x) :: rest) st σ) : Φ pc (x0 :: x1 :: x2 :: x3 :: x4 :: x5 :: x6 :: x7 :: x8 :: x9 :: x10 :: x11 :: rest) (.int x :: st) σ := j_istore0 M d (by simp) (fun o ho => by simp at ho; subst ho; exact hp) k
theorem j_astore_11 (M : Mach l G own cc nL ret fr lo post Φ) {x0 x1 x2 x3 x4 x5 x6 x7 x8 x9 x10 x11 : Option Value} {x : Nat} (d : decode cc pc = .ok (.astore 11, 2)) (hp : noLong x10) (k : Φ (pc + 2) (x0 :: x1 :: x2 :: x3 :: x4 :: x5 :: x6 :: x7 :: x8 :: x9 :: x10 :: some (.ref x) :: rest) st σ) : Φ pc (x0 :: x1 :: x2 :: x3 :: x4 :: x5 :: x6 :: x7 :: x8 :: x9 :: x10 :: x11 :: rest) (.ref x :: st) σ := j_astore0 M d (by simp) (fun o ho => by simp at ho; subst ho; exact hp) k
theorem j_iinc_11 (M : Mach l G own cc nL ret fr lo post Φ) {x0 x1 x2 x3 x4 x5 x6 x7 x8 x9 x10 : Option Value} {n : Int} {x v : Int32} (d : decode cc pc = .ok (.iinc 11 n, 3)) (hv : x + Int32.ofInt n = v) (hp : noLong x10) (k : Φ (pc + 3) (x0 :: x1 :: x2 :: x3 :: x4 :: x5 :: x6 :: x7 :: x8 :: x9 :: x10 :: some (.int v) :: rest) st σ) : Φ pc (x0 :: x1 :: x2 :: x3 :: x4 :: x5 :: x6 :: x7 :: x8 :: x9 :: x10 :: some (.int x) :: rest) st σ := j_iinc0 M d (by simp) hv (fun o ho => by simp at ho; subst ho; exact hp) k
theorem j_lstore_11 (M : Mach l G own cc nL ret fr lo post Φ) {x0 x1 x2 x3 x4 x5 x6 x7 x8 x9 x10 x11 x12 : Option Value} {x : Int64} (d : decode cc pc = .ok (.lstore 11, 2)) (hp : noLong x10) (k : Φ (pc + 2) (x0 :: x1 :: x2 :: x3 :: x4 :: x5 :: x6 :: x7 :: x8 :: x9 :: x10 :: some (.long x) :: none :: rest) st σ) : Φ pc (x0 :: x1 :: x2 :: x3 :: x4 :: x5 :: x6 :: x7 :: x8 :: x9 :: x10 :: x11 :: x12 :: rest) (.long x :: st) σ := j_lstore0 M d (by simp) (fun o ho => by simp at ho; subst ho; exact hp) k
theorem j_istore_12 (M : Mach l G own cc nL ret fr lo post Φ) {x0 x1 x2 x3 x4 x5 x6 x7 x8 x9 x10 x11 x12 : Option Value} {x : Int32} (d : decode cc pc = .ok (.istore 12, 2)) (hp : noLong x11) (k : Φ (pc + 2) (x0 :: x1 :: x2 :: x3 :: x4 :: x5 :: x6 :: x7 :: x8 :: x9 :: x10 :: x11 :: some (.int x) :: rest) st σ) : Φ pc (x0 :: x1 :: x2 :: x3 :: x4 :: x5 :: x6 :: x7 :: x8 :: x9 :: x10 :: x11 :: x12 :: rest) (.int x :: st) σ := j_istore0 M d (by simp) (fun o ho => by simp at ho; subst ho; exact hp) k
theorem j_astore_12 (M : Mach l G own cc nL ret fr lo post Φ) {x0 x1 x2 x3 x4 x5 x6 x7 x8 x9 x10 x11 x12 : Option Value} {x : Nat} (d : decode cc pc = .ok (.astore 12, 2)) (hp : noLong x11) (k : Φ (pc + 2) (x0 :: x1 :: x2 :: x3 :: x4 :: x5 :: x6 :: x7 :: x8 :: x9 :: x10 :: x11 :: some (.ref x) :: rest) st σ) : Φ pc (x0 :: x1 :: x2 :: x3 :: x4 :: x5 :: x6 :: x7 :: x8 :: x9 :: x10 :: x11 :: x12 :: rest) (.ref x :: st) σ := j_astore0 M d (by simp) (fun o ho => by simp at ho; subst ho; exact hp) k
theorem j_iinc_12 (M : Mach l G own cc nL ret fr lo post Φ) {x0 x1 x2 x3 x4 x5 x6 x7 x8 x9 x10 x11 : Option Value} {n : Int} {x v : Int32} (d : decode cc pc = .ok (.iinc 12 n, 3)) (hv : x + Int32.ofInt n = v) (hp : noLong x11) (k : Φ (pc + 3) (x0 :: x1 :: x2 :: x3 :: x4 :: x5 :: x6 :: x7 :: x8 :: x9 :: x10 :: x11 :: some (.int v) :: rest) st σ) : Φ pc (x0 :: x1 :: x2 :: x3 :: x4 :: x5 :: x6 :: x7 :: x8 :: x9 :: x10 :: x11 :: some (.int x) :: rest) st σ := j_iinc0 M d (by simp) hv (fun o ho => by simp at ho; subst ho; exact hp) k
theorem j_lstore_12 (M : Mach l G own cc nL ret fr lo post Φ) {x0 x1 x2 x3 x4 x5 x6 x7 x8 x9 x10 x11 x12 x13 : Option Value} {x : Int64} (d : decode cc pc = .ok (.lstore 12, 2)) (hp : noLong x11) (k : Φ (pc + 2) (x0 :: x1 :: x2 :: x3 :: x4 :: x5 :: x6 :: x7 :: x8 :: x9 :: x10 :: x11 :: some (.long x) :: none :: rest) st σ) : Φ pc (x0 :: x1 :: x2 :: x3 :: x4 :: x5 :: x6 :: x7 :: x8 :: x9 :: x10 :: x11 :: x12 :: x13 :: rest) (.long x :: st) σ := j_lstore0 M d (by simp) (fun o ho => by simp at ho; subst ho; exact hp) k
theorem j_istore_13 (M : Mach l G own cc nL ret fr lo post Φ) {x0 x1 x2 x3 x4 x5 x6 x7 x8 x9 x10 x11 x12 x13 : Option Value} {x : Int32} (d : decode cc pc = .ok (.istore 13, 2)) (hp : noLong x12) (k : Φ (pc + 2) (x0 :: x1 :: x2 :: x3 :: x4 :: x5 :: x6 :: x7 :: x8 :: x9 :: x10 :: x11 :: x12 :: some (.int x) :: rest) st σ) : Φ pc (x0 :: x1 :: x2 :: x3 :: x4 :: x5 :: x6 :: x7 :: x8 :: x9 :: x10 :: x11 :: x12 :: x13 :: rest) (.int x :: st) σ := j_istore0 M d (by simp) (fun o ho => by simp at ho; subst ho; exact hp) k
theorem j_astore_13 (M : Mach l G own cc nL ret fr lo post Φ) {x0 x1 x2 x3 x4 x5 x6 x7 x8 x9 x10 x11 x12 x13 : Option Value} {x : Nat} (d : decode cc pc = .ok (.astore 13, 2)) (hp : noLong x12) (k : Φ (pc + 2) (x0 :: x1 :: x2 :: x3 :: x4 :: x5 :: x6 :: x7 :: x8 :: x9 :: x10 :: x11 :: x12 :: some (.ref x) :: rest) st σ) : Φ pc (x0 :: x1 :: x2 :: x3 :: x4 :: x5 :: x6 :: x7 :: x8 :: x9 :: x10 :: x11 :: x12 :: x13 :: rest) (.ref x :: st) σ := j_astore0 M d (by simp) (fun o ho => by simp at ho; subst ho; exact hp) k
theorem j_iinc_13 (M : Mach l G own cc nL ret fr lo post Φ) {x0 x1 x2 x3 x4 x5 x6 x7 x8 x9 x10 x11 x12 : Option Value} {n : Int} {x v : Int32} (d : decode cc pc = .ok (.iinc 13 n, 3)) (hv : x + Int32.ofInt n = v) (hp : noLong x12) (k : Φ (pc + 3) (x0 :: x1 :: x2 :: x3 :: x4 :: x5 :: x6 :: x7 :: x8 :: x9 :: x10 :: x11 :: x12 :: some (.int v) :: rest) st σ) : Φ pc (x0 :: x1 :: x2 :: x3 :: x4 :: x5 :: x6 :: x7 :: x8 :: x9 :: x10 :: x11 :: x12 :: some (.int x) :: rest) st σ := j_iinc0 M d (by simp) hv (fun o ho => by simp at ho; subst ho; exact hp) k
theorem j_lstore_13 (M : Mach l G own cc nL ret fr lo post Φ) {x0 x1 x2 x3 x4 x5 x6 x7 x8 x9 x10 x11 x12 x13 x14 : Option Value} {x : Int64} (d : decode cc pc = .ok (.lstore 13, 2)) (hp : noLong x12) (k : Φ (pc + 2) (x0 :: x1 :: x2 :: x3 :: x4 :: x5 :: x6 :: x7 :: x8 :: x9 :: x10 :: x11 :: x12 :: some (.long x) :: none :: rest) st σ) : Φ pc (x0 :: x1 :: x2 :: x3 :: x4 :: x5 :: x6 :: x7 :: x8 :: x9 :: x10 :: x11 :: x12 :: x13 :: x14 :: rest) (.long x :: st) σ := j_lstore0 M d (by simp) (fun o ho => by simp at ho; subst ho; exact hp) k
theorem j_istore_14 (M : Mach l G own cc nL ret fr lo post Φ) {x0 x1 x2 x3 x4 x5 x6 x7 x8 x9 x10 x11 x12 x13 x14 : Option Value} {x : Int32} (d : decode cc pc = .ok (.istore 14, 2)) (hp : noLong x13) (k : Φ (pc + 2) (x0 :: x1 :: x2 :: x3 :: x4 :: x5 :: x6 :: x7 :: x8 :: x9 :: x10 :: x11 :: x12 :: x13 :: some (.int x) :: rest) st σ) : Φ pc (x0 :: x1 :: x2 :: x3 :: x4 :: x5 :: x6 :: x7 :: x8 :: x9 :: x10 :: x11 :: x12 :: x13 :: x14 :: rest) (.int x :: st) σ := j_istore0 M d (by simp) (fun o ho => by simp at ho; subst ho; exact hp) k
theorem j_astore_14 (M : Mach l G own cc nL ret fr lo post Φ) {x0 x1 x2 x3 x4 x5 x6 x7 x8 x9 x10 x11 x12 x13 x14 : Option Value} {x : Nat} (d : decode cc pc = .ok (.astore 14, 2)) (hp : noLong x13) (k : Φ (pc + 2) (x0 :: x1 :: x2 :: x3 :: x4 :: x5 :: x6 :: x7 :: x8 :: x9 :: x10 :: x11 :: x12 :: x13 :: some (.ref x) :: rest) st σ) : Φ pc (x0 :: x1 :: x2 :: x3 :: x4 :: x5 :: x6 :: x7 :: x8 :: x9 :: x10 :: x11 :: x12 :: x13 :: x14 :: rest) (.ref x :: st) σ := j_astore0 M d (by simp) (fun o ho => by simp at ho; subst ho; exact hp) k
theorem j_iinc_14 (M : Mach l G own cc nL ret fr lo post Φ) {x0 x1 x2 x3 x4 x5 x6 x7 x8 x9 x10 x11 x12 x13 : Option Value} {n : Int} {x v : Int32} (d : decode cc pc = .ok (.iinc 14 n, 3)) (hv : x + Int32.ofInt n = v) (hp : noLong x13) (k : Φ (pc + 3) (x0 :: x1 :: x2 :: x3 :: x4 :: x5 :: x6 :: x7 :: x8 :: x9 :: x10 :: x11 :: x12 :: x13 :: some (.int v) :: rest) st σ) : Φ pc (x0 :: x1 :: x2 :: x3 :: x4 :: x5 :: x6 :: x7 :: x8 :: x9 :: x10 :: x11 :: x12 :: x13 :: some (.int x) :: rest) st σ := j_iinc0 M d (by simp) hv (fun o ho => by simp at ho; subst ho; exact hp) k
theorem j_lstore_14 (M : Mach l G own cc nL ret fr lo post Φ) {x0 x1 x2 x3 x4 x5 x6 x7 x8 x9 x10 x11 x12 x13 x14 x15 : Option Value} {x : Int64} (d : decode cc pc = .ok (.lstore 14, 2)) (hp : noLong x13) (k : Φ (pc + 2) (x0 :: x1 :: x2 :: x3 :: x4 :: x5 :: x6 :: x7 :: x8 :: x9 :: x10 :: x11 :: x12 :: x13 :: some (.long x) :: none :: rest) st σ) : Φ pc (x0 :: x1 :: x2 :: x3 :: x4 :: x5 :: x6 :: x7 :: x8 :: x9 :: x10 :: x11 :: x12 :: x13 :: x14 :: x15 :: rest) (.long x :: st) σ := j_lstore0 M d (by simp) (fun o ho => by simp at ho; subst ho; exact hp) k
theorem j_istore_15 (M : Mach l G own cc nL ret fr lo post Φ) {x0 x1 x2 x3 x4 x5 x6 x7 x8 x9 x10 x11 x12 x13 x14 x15 : Option Value} {x : Int32} (d : decode cc pc = .ok (.istore 15, 2)) (hp : noLong x14) (k : Φ (pc + 2) (x0 :: x1 :: x2 :: x3 :: x4 :: x5 :: x6 :: x7 :: x8 :: x9 :: x10 :: x11 :: x12 :: x13 :: x14 :: some (.int x) :: rest) st σ) : Φ pc (x0 :: x1 :: x2 :: x3 :: x4 :: x5 :: x6 :: x7 :: x8 :: x9 :: x10 :: x11 :: x12 :: x13 :: x14 :: x15 :: rest) (.int x :: st) σ := j_istore0 M d (by simp) (fun o ho => by simp at ho; subst ho; exact hp) k
theorem j_astore_15 (M : Mach l G own cc nL ret fr lo post Φ) {x0 x1 x2 x3 x4 x5 x6 x7 x8 x9 x10 x11 x12 x13 x14 x15 : Option Value} {x : Nat} (d : decode cc pc = .ok (.astore 15, 2)) (hp : noLong x14) (k : Φ (pc + 2) (x0 :: x1 :: x2 :: x3 :: x4 :: x5 :: x6 :: x7 :: x8 :: x9 :: x10 :: x11 :: x12 :: x13 :: x14 :: some (.ref x) :: rest) st σ) : Φ pc (x0 :: x1 :: x2 :: x3 :: x4 :: x5 :: x6 :: x7 :: x8 :: x9 :: x10 :: x11 :: x12 :: x13 :: x14 :: x15 :: rest) (.ref x :: st) σ := j_astore0 M d (by simp) (fun o ho => by simp at ho; subst ho; exact hp) k
theorem j_iinc_15 (M : Mach l G own cc nL ret fr lo post Φ) {x0 x1 x2 x3 x4 x5 x6 x7 x8 x9 x10 x11 x12 x13 x14 : Option Value} {n : Int} {x v : Int32} (d : decode cc pc = .ok (.iinc 15 n, 3)) (hv : x + Int32.ofInt n = v) (hp : noLong x14) (k : Φ (pc + 3) (x0 :: x1 :: x2 :: x3 :: x4 :: x5 :: x6 :: x7 :: x8 :: x9 :: x10 :: x11 :: x12 :: x13 :: x14 :: some (.int v) :: rest) st σ) : Φ pc (x0 :: x1 :: x2 :: x3 :: x4 :: x5 :: x6 :: x7 :: x8 :: x9 :: x10 :: x11 :: x12 :: x13 :: x14 :: some (.int x) :: rest) st σ := j_iinc0 M d (by simp) hv (fun o ho => by simp at ho; subst ho; exact hp) k
theorem j_lstore_15 (M : Mach l G own cc nL ret fr lo post Φ) {x0 x1 x2 x3 x4 x5 x6 x7 x8 x9 x10 x11 x12 x13 x14 x15 x16 : Option Value} {x : Int64} (d : decode cc pc = .ok (.lstore 15, 2)) (hp : noLong x14) (k : Φ (pc + 2) (x0 :: x1 :: x2 :: x3 :: x4 :: x5 :: x6 :: x7 :: x8 :: x9 :: x10 :: x11 :: x12 :: x13 :: x14 :: some (.long x) :: none :: rest) st σ) : Φ pc (x0 :: x1 :: x2 :: x3 :: x4 :: x5 :: x6 :: x7 :: x8 :: x9 :: x10 :: x11 :: x12 :: x13 :: x14 :: x15 :: x16 :: rest) (.long x :: st) σ := j_lstore0 M d (by simp) (fun o ho => by simp at ho; subst ho; exact hp) k
end Rows2
end
section
theorem cel_lib (G : Gw) {c : Nat} (h : isLib c) (k : Nat) (f : Int32 → Int32) : cel G c k f = celL G c k f := by
  obtain ⟨h1, h2⟩ := h
  obtain ⟨d, rfl⟩ : ∃ d, c = d + 6 := ⟨c - 6, by omega⟩
  show (if d < 29 then celL G (d + 6) k f else celM G k f) = _
  rw [if_pos (by omega)]
theorem vld_lib {c k : Nat} (h : isLib c) (hk : k < 9) : vld c k = true := by
  obtain ⟨h1, h2⟩ := h
  obtain ⟨d, rfl⟩ : ∃ d, c = d + 6 := ⟨c - 6, by omega⟩
  show (if d < 29 then decide (k < 9) else _) = true
  rw [if_pos (by omega)]
  simpa using hk
theorem lib_now : isLib 6 := ⟨by decide, by decide⟩
theorem lib_draft : isLib 7 := ⟨by decide, by decide⟩
theorem lib_im0 : isLib 8 := ⟨by decide, by decide⟩
theorem lib_im1 : isLib 9 := ⟨by decide, by decide⟩
theorem lib_then : isLib 10 := ⟨by decide, by decide⟩
theorem i_ok {i n' : Int32} {n : Nat} (h0 : 0 ≤ i) (h1 : i < n') (hn : nI n = n') (hn2 : n < 2147483648) : i.toNatClampNeg < n ∧ nI i.toNatClampNeg = i ∧ vp_in i n := by
  subst hn
  have h0' : ¬ i < 0 := Int32.not_lt.mpr h0
  obtain ⟨j, hj, rfl⟩ := nI_of h0'
  have h1' : j < n := (nI_ltI hj hn2).mp h1
  rw [nI_clamp hj]
  exact ⟨h1', rfl, vp_in_nI h1' hn2⟩
theorem ofF_at {f : Int32 → Int32} {i : Int32} {n : Nat} (h : i.toNatClampNeg < n ∧ nI i.toNatClampNeg = i ∧ vp_in i n) (hn2 : n < 2147483648) : ofF f i.toNatClampNeg = f i := by
  unfold ofF
  rw [if_pos (by omega), h.2.1]
theorem ofF_upd {f : Int32 → Int32} {i x : Int32} {n : Nat} (h : i.toNatClampNeg < n ∧ nI i.toNatClampNeg = i ∧ vp_in i n) (hn2 : n < 2147483648) : upd (ofF f) i.toNatClampNeg x = ofF (upI f i x) := by
  funext j
  unfold upd ofF upI
  by_cases hj : j = i.toNatClampNeg
  · subst hj
    rw [if_pos rfl, if_pos (by omega), if_pos h.2.1]
  · rw [if_neg hj]
    by_cases hb : j < 2147483648
    · rw [if_pos hb, if_pos hb, if_neg]
      intro e
      apply hj
      rw [← e, nI_clamp hb]
    · rw [if_neg hb, if_neg hb]
theorem Wk.calling {G : Gw} {U : State} (h : Wk G U) (g : JFrame) (mk : MethodId) (a : Array Value) : Wk G (U.calling g mk a) :=
  ⟨h.1, va_K.moved (u := U) (U := U.calling g mk a) (Vm.Alike.refl U.vm) h.2.1, va_Z.moved (u := U) (U := U.calling g mk a) (Vm.Alike.refl U.vm) h.2.2.1, va_T.moved (u := U) (U := U.calling g mk a) (Vm.Alike.refl U.vm) h.2.2.2.1,
    va_Nw.same (u := U) (U := U.calling g mk a) rfl rfl h.2.2.2.2.1, va_Nw.same (u := U) (U := U.calling g mk a) rfl rfl h.2.2.2.2.2.1, va_Nw.same (u := U) (U := U.calling g mk a) rfl rfl h.2.2.2.2.2.2⟩
section Mem
variable {l : Launch} {G : Gw} {own : String} {cc : ByteArray} {nL fr lo : Nat} {ret : Option FieldType} {post : Option Value → Sg → Prop} {Φ : Ph} {pc : Nat} {L : List (Option Value)} {st : List Value} {σ : Sg}
theorem j_getf (M : Mach l G own cc nL ret fr lo post Φ) {c ci index N k : Nat} {C : String} {T : u_T} {fs : List Value} {v : Value} (hv : vld c 0 = true) (hc : cel G c 0 (σ c 0) = .inr (ci, fs)) (hcl : vwCl[ci]? = some (C, T, N)) (hk : k < N) (hin : ∀ w ∈ u_ws C T N, w ∈ tws) (hlink : Cond.fieldLink own index (T k).1 (T k).2.1 (T k).2.2.1 ∈ tws) (hfs : fs[k]? = some v) (d : decode cc pc = .ok (.getfield index, 3)) (kk : Φ (pc + 3) L (v :: st) σ) : Φ pc L (.ref (ad G c 0) :: st) σ := by
  obtain ⟨p, e, R, s, m, args, below, meth, cd, cells, slots, Q, ⟨hx, hb, hml, hown, hts⟩, hWk, hRm, hRet, rfl⟩ := M
  intro hn H locs ls hW hS hl
  obtain ⟨i, hi, he⟩ := wl_at (G := G) (σ := σ) hv
  rw [hc] at he
  exact va_get hx hb hts hin hown hWk.2.1 hW i he hcl k hk (hts _ hlink) (fun _ h9 => h9) hfs d (kk hn H locs ls hW hS hl)
theorem j_getfN (M : Mach l G own cc nL ret fr lo post Φ) {c ci index N k : Nat} {C host : String} {T : u_T} {fs : List Value} {v : Value} (hv : vld c 0 = true) (hc : cel G c 0 (σ c 0) = .inr (ci, fs)) (hcl : vwCl[ci]? = some (C, T, N)) (hk : k < N) (hin : ∀ w ∈ u_ws C T N, w ∈ tws) (hlink : ∀ U, Wk G U → va_Nw (.fieldLinkNest own index (T k).1 (T k).2.1 (T k).2.2.1 host) U) (hfs : fs[k]? = some v) (d : decode cc pc = .ok (.getfield index, 3)) (kk : Φ (pc + 3) L (v :: st) σ) : Φ pc L (.ref (ad G c 0) :: st) σ := by
  obtain ⟨p, e, R, s, m, args, below, meth, cd, cells, slots, Q, ⟨hx, hb, hml, hown, hts⟩, hWk, hRm, hRet, rfl⟩ := M
  intro hn H locs ls hW hS hl
  obtain ⟨i, hi, he⟩ := wl_at (G := G) (σ := σ) hv
  rw [hc] at he
  exact va_getN hx hb hts hin hown hWk.2.1 hW i he hcl k hk (va_Nw.use rfl (hlink _ hWk)) (fun _ h9 => h9) hfs d (kk hn H locs ls hW hS hl)
theorem j_putf (M : Mach l G own cc nL ret fr lo post Φ) {c ci index N k : Nat} {C : String} {T : u_T} {ty0 : Nat → FieldType} {fs : List Value} {v : Value} {f' : Int32 → Int32} (hv : vld c 0 = true) (hc : cel G c 0 (σ c 0) = .inr (ci, fs)) (hcl : vwCl[ci]? = some (C, T, N)) (hk : k < N) (hin : ∀ w ∈ u_ws C T N, w ∈ tws) (hty : ∀ k, k < N → parseFieldDescriptor (T k).2.2.1 = some (ty0 k)) (hnm : ∀ a, a < N → ∀ b, b < N → a ≠ b → (T a).2.1 ≠ (T b).2.1) (hlink : Cond.fieldLink own index (T k).1 (T k).2.1 (T k).2.2.1 ∈ tws) (hfin : (T k).2.2.2 = false) (hn : narrow (ty0 k) v = v) (hfit : fits (ty0 k) v = true) (hlen : k < fs.length) (hc' : cel G c 0 f' = .inr (ci, fs.set k v)) (d : decode cc pc = .ok (.putfield index, 3)) (kk : Φ (pc + 3) L st (up σ c 0 f')) : Φ pc L (v :: .ref (ad G c 0) :: st) σ := by
  obtain ⟨p, e, R, s, m, args, below, meth, cd, cells, slots, Q, ⟨hx, hb, hml, hown, hts⟩, hWk, hRm, hRet, rfl⟩ := M
  intro hn' H locs ls hW hS hl
  obtain ⟨i, hi, he⟩ := wl_at (G := G) (σ := σ) hv
  rw [hc] at he
  refine va_put hx hb hts hin ty0 hty hnm hown hWk.2.1 hW (wl_D hWk.1 σ) hS i he hcl k hk (hts _ hlink) (fun _ h9 => h9) hfin (hty k hk) hn hfit hlen d (fun H1 locs1 hP hD hS1 => ?_)
  rw [← hc', wl_set hi] at hP
  exact kk hn' H1 locs1 ls hP hS1 hl
theorem j_iald (M : Mach l G own cc nL ret fr lo post Φ) {c k n : Nat} {n' i : Int32} (hv : vld c k = true) (hc : cel G c k (σ c k) = iarr G n (σ c k)) (hn' : nI n = n') (hn2 : n < 2147483648) (d : decode cc pc = .ok (.iaload, 1)) (h0 : 0 ≤ i) (h1 : i < n') (kk : Φ (pc + 1) L (.int (σ c k i) :: st) σ) : Φ pc L (.int i :: .ref (ad G c k) :: st) σ := by
  obtain ⟨p, e, R, s, m, args, below, meth, cd, cells, slots, Q, ⟨hx, hb, hml, hown, hts⟩, hWk, hRm, hRet, rfl⟩ := M
  intro hn H locs ls hW hS hl
  obtain ⟨q, hi, he⟩ := wl_at (G := G) (σ := σ) hv
  rw [hc] at he
  have hk := i_ok h0 h1 hn' hn2
  refine va_iald hx hb hWk.2.1 hW q 0 he rfl hk.2.2 d ?_
  rw [ofF_at hk hn2]
  exact kk hn H locs ls hW hS hl
theorem j_zald (M : Mach l G own cc nL ret fr lo post Φ) {c k n : Nat} {n' i : Int32} (hv : vld c k = true) (hc : cel G c k (σ c k) = zarr G n (σ c k)) (hn' : nI n = n') (hn2 : n < 2147483648) (d : decode cc pc = .ok (.baload, 1)) (h0 : 0 ≤ i) (h1 : i < n') (kk : Φ (pc + 1) L (.int (σ c k i) :: st) σ) : Φ pc L (.int i :: .ref (ad G c k) :: st) σ := by
  obtain ⟨p, e, R, s, m, args, below, meth, cd, cells, slots, Q, ⟨hx, hb, hml, hown, hts⟩, hWk, hRm, hRet, rfl⟩ := M
  intro hn H locs ls hW hS hl
  obtain ⟨q, hi, he⟩ := wl_at (G := G) (σ := σ) hv
  rw [hc] at he
  have hk := i_ok h0 h1 hn' hn2
  refine va_zald hx hb hWk.2.1 hW q 1 he rfl hk.2.2 d ?_
  rw [ofF_at hk hn2]
  exact kk hn H locs ls hW hS hl
theorem j_aald (M : Mach l G own cc nL ret fr lo post Φ) {c k n b : Nat} {n' i : Int32} (hv : vld c k = true) (hc : cel G c k (σ c k) = larr G n b) (hn' : nI n = n') (hn2 : n < 2147483648) (d : decode cc pc = .ok (.aaload, 1)) (h0 : 0 ≤ i) (h1 : i < n') (kk : Φ (pc + 1) L (.ref (ad G (b + i.toNatClampNeg) 0) :: st) σ) : Φ pc L (.int i :: .ref (ad G c k) :: st) σ := by
  obtain ⟨p, e, R, s, m, args, below, meth, cd, cells, slots, Q, ⟨hx, hb, hml, hown, hts⟩, hWk, hRm, hRet, rfl⟩ := M
  intro hn H locs ls hW hS hl
  obtain ⟨q, hi, he⟩ := wl_at (G := G) (σ := σ) hv
  rw [hc] at he
  have hk := i_ok h0 h1 hn' hn2
  exact va_aldq hx hb hWk.2.1 hW q 2 he rfl hk.2.2 d (kk hn H locs ls hW hS hl)
theorem j_iast (M : Mach l G own cc nL ret fr lo post Φ) {c k n : Nat} {n' i x : Int32} (hv : vld c k = true) (hc : ∀ f, cel G c k f = iarr G n f) (hn' : nI n = n') (hn2 : n < 2147483648) (d : decode cc pc = .ok (.iastore, 1)) (h0 : 0 ≤ i) (h1 : i < n') (kk : Φ (pc + 1) L st (up σ c k (upI (σ c k) i x))) : Φ pc L (.int x :: .int i :: .ref (ad G c k) :: st) σ := by
  obtain ⟨p, e, R, s, m, args, below, meth, cd, cells, slots, Q, ⟨hx, hb, hml, hown, hts⟩, hWk, hRm, hRet, rfl⟩ := M
  intro hn H locs ls hW hS hl
  obtain ⟨q, hi, he⟩ := wl_at (G := G) (σ := σ) hv
  rw [hc] at he
  have hk := i_ok h0 h1 hn' hn2
  refine va_iast hx hb hWk.2.1 hW (wl_D hWk.1 σ) hS q 0 he rfl hk.2.2 d (fun H1 locs1 hP hD hS1 => ?_)
  rw [ofF_upd hk hn2, show (Sum.inl (G.2.1.1, n, Sum.inl (ofF (upI (σ c k) i x))) : va_E) = cel G c k (upI (σ c k) i x) from (hc _).symm, wl_set hi] at hP
  exact kk hn H1 locs1 ls hP hS1 hl
theorem j_zast (M : Mach l G own cc nL ret fr lo post Φ) {c k n : Nat} {n' i x : Int32} (hv : vld c k = true) (hc : ∀ f, cel G c k f = zarr G n f) (hn' : nI n = n') (hn2 : n < 2147483648) (hz : vp_nar .boolean x = x) (d : decode cc pc = .ok (.bastore, 1)) (h0 : 0 ≤ i) (h1 : i < n') (kk : Φ (pc + 1) L st (up σ c k (upI (σ c k) i x))) : Φ pc L (.int x :: .int i :: .ref (ad G c k) :: st) σ := by
  obtain ⟨p, e, R, s, m, args, below, meth, cd, cells, slots, Q, ⟨hx, hb, hml, hown, hts⟩, hWk, hRm, hRet, rfl⟩ := M
  intro hn H locs ls hW hS hl
  obtain ⟨q, hi, he⟩ := wl_at (G := G) (σ := σ) hv
  rw [hc] at he
  have hk := i_ok h0 h1 hn' hn2
  refine va_zast hx hb hWk.2.1 hW (wl_D hWk.1 σ) hS q 1 he rfl hk.2.2 d (fun H1 locs1 hP hD hS1 => ?_)
  rw [hz, ofF_upd hk hn2, show (Sum.inl (G.2.1.2.1, n, Sum.inl (ofF (upI (σ c k) i x))) : va_E) = cel G c k (upI (σ c k) i x) from (hc _).symm, wl_set hi] at hP
  exact kk hn H1 locs1 ls hP hS1 hl
theorem j_bkget (M : Mach l G RX6 cc nL ret fr lo post Φ) {index : Nat} (hlink : Cond.fieldLink RX6 index RX6 "BROADER_KIND" "[I" ∈ tws) (d : decode cc pc = .ok (.getstatic index, 3)) (kk : Φ (pc + 3) L (.ref (bkA G) :: st) σ) : Φ pc L st σ := by
  obtain ⟨p, e, R, s, m, args, below, meth, cd, cells, slots, Q, ⟨hx, hb, hml, hown, hts⟩, hWk, hRm, hRet, rfl⟩ := M
  intro hn H locs ls hW hS hl
  exact va_gets hx hb hWk.2.2.1 hS hown (hts _ hlink) (fun _ h => h) d (kk hn H locs ls hW hS hl)
theorem j_bklen (M : Mach l G own cc nL ret fr lo post Φ) (d : decode cc pc = .ok (.arraylength, 1)) (kk : Φ (pc + 1) L (.int 6 :: st) σ) : Φ pc L (.ref (bkA G) :: st) σ := by
  obtain ⟨p, e, R, s, m, args, below, meth, cd, cells, slots, Q, ⟨hx, hb, hml, hown, hts⟩, hWk, hRm, hRet, rfl⟩ := M
  intro hn H locs ls hW hS hl
  exact va_tlen hx hb hWk.2.2.2.1 hS rfl d (kk hn H locs ls hW hS hl)
theorem j_bkld (M : Mach l G own cc nL ret fr lo post Φ) {i : Int32} {v : Value} (hv : bkf i.toNatClampNeg = v) (d : decode cc pc = .ok (.iaload, 1)) (h0 : 0 ≤ i) (h1 : i < 6) (kk : Φ (pc + 1) L (v :: st) σ) : Φ pc L (.int i :: .ref (bkA G) :: st) σ := by
  obtain ⟨p, e, R, s, m, args, below, meth, cd, cells, slots, Q, ⟨hx, hb, hml, hown, hts⟩, hWk, hRm, hRet, rfl⟩ := M
  intro hn H locs ls hW hS hl
  exact va_ti hx hb hWk.2.2.2.1 hS (i_ok h0 h1 (n := 6) rfl (by decide)).2.2 hv d (kk hn H locs ls hW hS hl)
theorem j_min (M : Mach l G own cc nL ret fr lo post Φ) {index : Nat} {x y : Int32} (h1 : Cond.methodLink own index Lib.Math.min.name ∈ tws) (h2 : Cond.static Lib.Math.min.name ∈ tws) (h3 : Cond.initialized "java/lang/Math" ∈ tws) (h4 : Cond.code Lib.Math.min.name Lib.Math.min.code 2 (some .int) ∈ tws) (hfr : 1 ≤ fr) (hlo : (st.map fun v => v.category).sum + 13 ≤ lo) (d : decode cc pc = .ok (.invokestatic index, 3)) (kk : Φ (pc + 3) L (.int (if y < x then y else x) :: st) σ) : Φ pc L (.int y :: .int x :: st) σ := by
  obtain ⟨p, e, R, s, m, args, below, meth, cd, cells, slots, Q, ⟨hx, hb, hml, hown, hts⟩, hWk, hRm, hRet, rfl⟩ := M
  intro hn H locs ls hW hS hl
  exact va_mmin hx hb (hml.trans (hn.symm.trans hl.1.symm)) hown (hts _ h1) (hts _ h2) (hts _ h3) (hts _ h4) (Nat.le_trans hfr hRm.1) (Nat.le_trans hlo hRm.2.1) hRm.2.2.1 hRm.2.2.2 d (kk hn H locs ls hW hS hl)
theorem j_abs (M : Mach l G own cc nL ret fr lo post Φ) {index : Nat} {x : Int32} (h1 : Cond.methodLink own index Lib.Math.abs.name ∈ tws) (h2 : Cond.static Lib.Math.abs.name ∈ tws) (h3 : Cond.initialized "java/lang/Math" ∈ tws) (h4 : Cond.code Lib.Math.abs.name Lib.Math.abs.code 1 (some .int) ∈ tws) (hfr : 1 ≤ fr) (hlo : (st.map fun v => v.category).sum + 13 ≤ lo) (d : decode cc pc = .ok (.invokestatic index, 3)) (kk : Φ (pc + 3) L (.int (if 0 ≤ x then x else 0 - x) :: st) σ) : Φ pc L (.int x :: st) σ := by
  obtain ⟨p, e, R, s, m, args, below, meth, cd, cells, slots, Q, ⟨hx, hb, hml, hown, hts⟩, hWk, hRm, hRet, rfl⟩ := M
  intro hn H locs ls hW hS hl
  exact va_mabs hx hb (hml.trans (hn.symm.trans hl.1.symm)) hown (hts _ h1) (hts _ h2) (hts _ h3) (hts _ h4) (Nat.le_trans hfr hRm.1) (Nat.le_trans hlo hRm.2.1) hRm.2.2.1 hRm.2.2.2 d (kk hn H locs ls hW hS hl)
/-! calls -/
def LkV (own : String) (index : Nat) (C : String) (y : MethodName) (bytes : ByteArray) (maxL : Nat) (rt : Option FieldType) (n : Nat) : Prop :=
  Cond.methodLink own index y ∈ tws ∧ Cond.instanceMethod y ∈ tws ∧ Cond.selects C y y ∈ tws ∧ Cond.initialized y.cls ∈ tws ∧ Cond.code y bytes maxL rt ∈ tws ∧ (y.cls ≠ "java/lang/invoke/MethodHandle" ∧ y.cls ≠ "java/lang/invoke/VarHandle" ∧ (parseMethodDescriptor y.desc).map (fun d => d.parameters.length) = some n)
def LkS (own : String) (index : Nat) (y : MethodName) (bytes : ByteArray) (maxL : Nat) (rt : Option FieldType) (n : Nat) : Prop :=
  Cond.methodLink own index y ∈ tws ∧ Cond.static y ∈ tws ∧ Cond.initialized y.cls ∈ tws ∧ Cond.code y bytes maxL rt ∈ tws ∧ (y.cls ≠ "java/lang/invoke/MethodHandle" ∧ y.cls ≠ "java/lang/invoke/VarHandle" ∧ (parseMethodDescriptor y.desc).map (fun d => d.parameters.length) = some n)
def LkN (G : Gw) (own : String) (index : Nat) (y : MethodName) (host : String) (bytes : ByteArray) (maxL : Nat) (rt : Option FieldType) (n : Nat) : Prop :=
  (∀ U, Wk G U → va_Nw (.methodLinkNest own index y host) U) ∧ Cond.static y ∈ tws ∧ Cond.initialized y.cls ∈ tws ∧ Cond.code y bytes maxL rt ∈ tws ∧ (y.cls ≠ "java/lang/invoke/MethodHandle" ∧ y.cls ≠ "java/lang/invoke/VarHandle" ∧ (parseMethodDescriptor y.desc).map (fun d => d.parameters.length) = some n)
def Recv (G : Gw) (σ : Sg) (C : String) (b : Nat) : Prop := ∃ (i ci : Nat) (fs : List Value) (T : u_T) (N : Nat), (wl G σ)[i]? = some (b, .inr (ci, fs)) ∧ vwCl[ci]? = some (C, T, N)
theorem tws_good {y : MethodName} {bytes : ByteArray} {maxL : Nat} {rt : Option FieldType} (h : Cond.code y bytes maxL rt ∈ tws) : GoodIn tws (Cond.code y bytes maxL rt :: tws) := by
  intro w hw
  have : w ∈ tws := by
    rcases List.mem_cons.mp hw with e | e
    · rw [e]; exact h
    · exact e
  exact ⟨this, good_of_word (List.mem_filter.mp this).2⟩
theorem run_to {p : Program} {e : Env} {R : Room} {s : State} {m : MethodId} {args : Array Value} {below : List Frame} {meth : Method} {c : Code} {H : Heap} {locs : List Loc} {cells slots : Nat} {Q : State → Prop} {ls : Array Slot} {rest st0 : List Value} {a : Array Value} {ps : Option Value → Sg → Prop}
    (hr : va_Run p l e R s m args below meth c H locs cells slots 0 0 (F0 m pc ls st0) rest (Qv G ps a) (AA G)) (hS : va_S (AA G) s.heap H locs)
    (kk : ∀ (v : Option Value) (σ' : Sg) (H1 : Heap) (locs1 : List Loc), ps v σ' → Wd G σ' H1 → va_S (AA G) s.heap H1 locs1 → W p l e R s m args below meth c H1 locs1 cells slots Q (F0 m (pc + 3) ls (v.toList ++ rest))) : W p l e R s m args below meth c H locs cells slots Q (F0 m pc ls st0) := by
  intro T hT X
  obtain ⟨v, st₀, t, T', Lc, h0, X', hL, e1, e2, ⟨⟨v', σ', hv, hp, hb⟩, hz, hk⟩, st⟩ := hr T hT X
  cases hv
  rw [h0] at hz hk
  obtain ⟨t2, a1, b1⟩ := kk v σ' T'.heap (locs ++ Lc) hp (by rw [e1]; exact hb)
    ⟨Nat.le_trans hS.1 (by rw [e1]; exact hz), fun q h1 h2 => by rw [e1, hk q (Nat.lt_of_lt_of_le h1 hS.1) h2]; exact hS.2.1 q h1 h2, fun q hq => by
      rcases List.mem_append.mp hq with h | h
      · exact hS.2.2 q h
      · exact hL q h⟩ T' rfl X'
  exact ⟨t2, st t2 a1, b1⟩
theorem pc_blind {av : List Value} {σ : Sg} : FrameBlind (va_Pc av (fun U => Wd G σ U.heap ∧ Wk G U)) := by
  intro a U g mk h
  exact ⟨h.1, h.2.1, h.2.2.calling g mk a⟩
theorem wk_at {s U : State} {H : Heap} {locs : List Loc} (hWk : Wk G s) (hS : va_S (AA G) s.heap H locs) (hU : U.heap = H) (hw : s.WarmedH U.vm) : Wk G U :=
  hWk.next hw.alike hw (fun a ha hn => by rw [hU]; exact hS.2.1 a ha hn)
theorem j_inv (M : Mach l G own cc nL ret fr lo post Φ) {index maxL n fr1 lo1 b : Nat} {C : String} {y : MethodName} {bytes : ByteArray} {rt : Option FieldType} {As rest : List Value} {ps : Option Value → Sg → Prop}
    (lk : LkV own index C y bytes maxL rt n) (hM : Mt l G y bytes maxL rt fr1 lo1 (.ref b :: As) σ ps) (hrv : Recv G σ C b) (d : decode cc pc = .ok (.invokevirtual index, 3)) (hn : As.length = n) (hst : (rest.map fun v => v.category).sum ≤ 8) (hfr : fr1 + 1 ≤ fr ∧ 8 + (maxL + 11) + lo1 ≤ lo)
    (kk : ∀ v σ', ps v σ' → Φ (pc + 3) L (v.toList ++ rest) σ') : Φ pc L (As.reverse ++ .ref b :: rest) σ := by
  obtain ⟨p, e, R, s, m, args, below, meth, cd, cells, slots, Q, ⟨hx, hb, hml, hown, hts⟩, hWk, hRm, hRet, rfl⟩ := M
  intro hnL H locs ls hW hS hl
  obtain ⟨h1, h2, h3, h4, h5, h6⟩ := lk
  obtain ⟨i, ci, fs, T, N, hi, hci⟩ := hrv
  have cb := callB_of (R := R) n hts (tws_good h5) rfl (rm := { frames := fr1, cells := 0, slots := 0, locals := lo1 }) (mc := 0) (ms := 0) rfl rfl (hts _ h4) (hts _ h1) h6 ⟨Nat.le_trans hfr.1 hRm.1, Nat.le_trans hfr.2 hRm.2.1⟩
  refine run_to (va_runV (b := b) (As := As) (C := C) (rest := rest) ⟨hx, hb, hml, hown, hts⟩ hM ⟨cb, hts _ h2, hts _ h3⟩ ⟨pc_blind, va_recv hWk.2.1 hW hci hi, fun U hU hw => ⟨rfl, by rw [hU]; exact hW, wk_at hWk hS hU hw⟩⟩ rfl hn (hl.1.trans hnL) rfl (lv_room hst) d ⟨hRm.2.2.1, hRm.2.2.2⟩) hS (fun v σ' H1 locs1 hp hW1 hS1 => ?_)
  exact kk v σ' hp hnL H1 locs1 ls hW1 hS1 hl
theorem j_invs (M : Mach l G own cc nL ret fr lo post Φ) {index maxL n fr1 lo1 : Nat} {y : MethodName} {bytes : ByteArray} {rt : Option FieldType} {As rest : List Value} {ps : Option Value → Sg → Prop}
    (lk : LkS own index y bytes maxL rt n) (hM : Mt l G y bytes maxL rt fr1 lo1 As σ ps) (d : decode cc pc = .ok (.invokestatic index, 3)) (hn : As.length = n) (hst : (rest.map fun v => v.category).sum ≤ 8) (hfr : fr1 + 1 ≤ fr ∧ 8 + (maxL + 11) + lo1 ≤ lo)
    (kk : ∀ v σ', ps v σ' → Φ (pc + 3) L (v.toList ++ rest) σ') : Φ pc L (As.reverse ++ rest) σ := by
  obtain ⟨p, e, R, s, m, args, below, meth, cd, cells, slots, Q, ⟨hx, hb, hml, hown, hts⟩, hWk, hRm, hRet, rfl⟩ := M
  intro hnL H locs ls hW hS hl
  obtain ⟨h1, h2, h4, h5, h6⟩ := lk
  have cb := callB_of (R := R) n hts (tws_good h5) rfl (rm := { frames := fr1, cells := 0, slots := 0, locals := lo1 }) (mc := 0) (ms := 0) rfl rfl (hts _ h4) (hts _ h1) h6 ⟨Nat.le_trans hfr.1 hRm.1, Nat.le_trans hfr.2 hRm.2.1⟩
  refine run_to (va_runS (As := As) (rest := rest) ⟨hx, hb, hml, hown, hts⟩ hM ⟨cb, hts _ h2⟩ ⟨pc_blind, fun U hU hw => ⟨rfl, by rw [hU]; exact hW, wk_at hWk hS hU hw⟩⟩ rfl hn (hl.1.trans hnL) rfl (lv_room hst) d ⟨hRm.2.2.1, hRm.2.2.2⟩) hS (fun v σ' H1 locs1 hp hW1 hS1 => ?_)
  exact kk v σ' hp hnL H1 locs1 ls hW1 hS1 hl
theorem j_invn (M : Mach l G own cc nL ret fr lo post Φ) {index maxL n fr1 lo1 : Nat} {y : MethodName} {host : String} {bytes : ByteArray} {rt : Option FieldType} {As rest : List Value} {ps : Option Value → Sg → Prop}
    (lk : LkN G own index y host bytes maxL rt n) (hM : Mt l G y bytes maxL rt fr1 lo1 As σ ps) (d : decode cc pc = .ok (.invokestatic index, 3)) (hn : As.length = n) (hst : (rest.map fun v => v.category).sum ≤ 8) (hfr : fr1 + 1 ≤ fr ∧ 8 + (maxL + 11) + lo1 ≤ lo)
    (kk : ∀ v σ', ps v σ' → Φ (pc + 3) L (v.toList ++ rest) σ') : Φ pc L (As.reverse ++ rest) σ := by
  obtain ⟨p, e, R, s, m, args, below, meth, cd, cells, slots, Q, ⟨hx, hb, hml, hown, hts⟩, hWk, hRm, hRet, rfl⟩ := M
  intro hnL H locs ls hW hS hl
  obtain ⟨h1, h2, h4, h5, h6⟩ := lk
  have cb := va_cnB (R := R) n hts (tws_good h5) rfl (rm := { frames := fr1, cells := 0, slots := 0, locals := lo1 }) (mc := 0) (ms := 0) rfl rfl (h1 s hWk) (hts _ h4) h6 ⟨Nat.le_trans hfr.1 hRm.1, Nat.le_trans hfr.2 hRm.2.1⟩
  refine run_to (va_runSN (As := As) (rest := rest) ⟨hx, hb, hml, hown, hts⟩ hM ⟨cb, hts _ h2, trivial⟩ ⟨pc_blind, fun U hU hw => ⟨rfl, by rw [hU]; exact hW, wk_at hWk hS hU hw⟩⟩ rfl hn (hl.1.trans hnL) rfl (lv_room hst) d ⟨hRm.2.2.1, hRm.2.2.2⟩) hS (fun v σ' H1 locs1 hp hW1 hS1 => ?_)
  exact kk v σ' hp hnL H1 locs1 ls hW1 hS1 hl
end Mem
/-! posts, and a method's start -/
def pI (q : Int32 → Sg → Prop) : Option Value → Sg → Prop := fun v σ' => ∃ r, v = some (.int r) ∧ q r σ'
def pL (q : Int64 → Sg → Prop) : Option Value → Sg → Prop := fun v σ' => ∃ r, v = some (.long r) ∧ q r σ'
def pV (q : Sg → Prop) : Option Value → Sg → Prop := fun v σ' => v = none ∧ q σ'
def pR (q : Nat → Sg → Prop) : Option Value → Sg → Prop := fun v σ' => ∃ r, v = some (.ref r) ∧ q r σ'
theorem kI {Φ : Ph} {pc : Nat} {L : List (Option Value)} {rest : List Value} {q : Int32 → Sg → Prop} (h : ∀ r σ', q r σ' → Φ pc L (.int r :: rest) σ') : ∀ v σ', pI q v σ' → Φ pc L (v.toList ++ rest) σ' := by
  rintro v σ' ⟨r, rfl, h'⟩
  exact h r σ' h'
theorem kL {Φ : Ph} {pc : Nat} {L : List (Option Value)} {rest : List Value} {q : Int64 → Sg → Prop} (h : ∀ r σ', q r σ' → Φ pc L (.long r :: rest) σ') : ∀ v σ', pL q v σ' → Φ pc L (v.toList ++ rest) σ' := by
  rintro v σ' ⟨r, rfl, h'⟩
  exact h r σ' h'
theorem kR {Φ : Ph} {pc : Nat} {L : List (Option Value)} {rest : List Value} {q : Nat → Sg → Prop} (h : ∀ r σ', q r σ' → Φ pc L (.ref r :: rest) σ') : ∀ v σ', pR q v σ' → Φ pc L (v.toList ++ rest) σ' := by
  rintro v σ' ⟨r, rfl, h'⟩
  exact h r σ' h'
theorem kV {Φ : Ph} {pc : Nat} {L : List (Option Value)} {rest : List Value} {q : Sg → Prop} (h : ∀ σ', q σ' → Φ pc L rest σ') : ∀ v σ', pV q v σ' → Φ pc L (v.toList ++ rest) σ' := by
  rintro v σ' ⟨rfl, h'⟩
  exact h σ' h'
/-- locals at the start -/
def lenv : List Value → List (Option Value)
  | [] => []
  | v :: r => if v.category = 2 then some v :: none :: lenv r else some v :: lenv r
theorem lenv_at : ∀ (av : List Value) (k i : Nat) (v : Value), (lenv av)[i]? = some (some v) → (k + i, v) ∈ lv_args k av
  | [], k, i, v, h => by simp [lenv] at h
  | a :: r, k, i, v, h => by
    unfold lenv at h
    unfold lv_args
    by_cases hc : a.category = 2
    · rw [if_pos hc] at h ⊢
      match i, h with
      | 0, h => simp at h; subst h; exact List.mem_cons_self
      | 1, h => simp at h
      | i + 2, h =>
        have := lenv_at r (k + 2) i v (by simpa using h)
        rw [show k + (i + 2) = k + 2 + i by omega]
        exact List.mem_cons_of_mem _ this
    · rw [if_neg hc] at h ⊢
      match i, h with
      | 0, h => simp at h; subst h; exact List.mem_cons_self
      | i + 1, h =>
        have := lenv_at r (k + 1) i v (by simpa using h)
        rw [show k + (i + 1) = k + 1 + i by omega]
        exact List.mem_cons_of_mem _ this
theorem lenv_len : ∀ (av : List Value), (lenv av).length = (lg_sl av).length
  | [] => rfl
  | a :: r => by
    have ih := lenv_len r
    unfold lenv
    by_cases hc : a.category = 2
    · rw [if_pos hc]
      simp only [List.length_cons, ih, lg_sl, List.flatMap_cons, hc, if_true, List.length_append, List.length_nil]
      omega
    · rw [if_neg hc]
      simp only [List.length_cons, ih, lg_sl, List.flatMap_cons, hc, if_false, List.length_append, List.length_nil]
      omega
theorem mt_intro {l : Launch} {G : Gw} {y : MethodName} {cc : ByteArray} {nL fr lo : Nat} {ret : Option FieldType} {av : List Value} {σ : Sg} {post : Option Value → Sg → Prop} (hy : plainName y.cls = true) (hlen : (lg_sl av).length ≤ nL)
    (h : ∀ Φ : Ph, Mach l G y.cls cc nL ret fr lo post Φ → Φ 0 (lenv av ++ List.replicate (nL - (lg_sl av).length) none) [] σ) : Mt l G y cc nL ret fr lo av σ post := by
  refine Met.ofW (cc := cc) (maxL := nL) (ret := ret) hy rfl ?_
  intro p e s m args below meth c s₁ B hml hv
  obtain ⟨rfl, hWd, hWk⟩ := hv
  have hx := B.exec
  have hb := B.bytes
  have hr := B.returns
  have hts0 := atoms_spec (ws := .code y cc nL ret :: tws) B.pre
  have hown : s.vm.findClass y.cls = some m.cls := findClass_of_methodNamed B.named
  have hlocks := B.notSynchronized
  have hl := lv_entry av (n := nL) hlen
  rw [lg_entry_eq]
  refine h _ ⟨p, e, (headSpec (.code y cc nL ret :: tws) { frames := fr, cells := 0, slots := 0, locals := lo }).room, s, m, _, below, meth, c, 0, 0, _, ⟨hx, hb, hml, hown, fun w hw => hts0 w (List.mem_cons_of_mem _ hw)⟩, hWk, ⟨Nat.le_refl _, Nat.le_refl _, Nat.le_refl _, Nat.le_refl _⟩, ?_, rfl⟩ ?_ _ _ _ hWd va_S.rf ?_
  · intro pc v σ' hR hp H locs ls hW hS
    have hq : ∀ t : State, t.heap = H → s.WarmedH t.vm → Qv G post av.toArray s (.returned v) t := fun t ht _ => ⟨⟨v, σ', rfl, hp, by rw [ht]; exact hW⟩, hS.F ht⟩
    rcases hR with ⟨hrt, hd, x, rfl⟩ | ⟨hrt, hd, hz⟩ | ⟨hrt, hd, rfl⟩ | ⟨hrt, hd, x, rfl⟩ | ⟨hrt, hd, hz⟩
    · exact W.iret hx hb (hr.trans hrt) hq hS.2.2 hd
    · rcases hz with rfl | rfl
      · exact W.zret hx hb (hr.trans hrt) (by decide) hq hS.2.2 hd
      · exact W.zret hx hb (hr.trans hrt) (by decide) hq hS.2.2 hd
    · exact W.vret hx hb (hr.trans hrt) hq hS.2.2 hd
    · exact W.lret hx hb (hr.trans hrt) hq hS.2.2 hd
    · rcases hz with rfl | ⟨a, rfl⟩
      · exact W.aret hx hb (hr.trans hrt) (Or.inl ⟨_, rfl⟩) (Or.inl rfl) hq hS.2.2 hd
      · exact W.aret hx hb (hr.trans hrt) (Or.inl ⟨_, rfl⟩) (Or.inr ⟨a, rfl⟩) hq hS.2.2 hd
  · rw [List.length_append, lenv_len, List.length_replicate]
    omega
  · refine lx.of hl (by rw [List.length_append, lenv_len, List.length_replicate]; omega) (fun i v hi => ?_)
    rw [List.getElem?_append] at hi
    split at hi
    · have := lenv_at av 0 i v hi
      simpa using this
    · rw [List.getElem?_replicate] at hi
      split at hi <;> simp at hi
end
section
theorem hin_X0 : ∀ w ∈ u_ws RX0 TX0 3, w ∈ tws := by
  intro w hw
  refine tws_of ((by decide +kernel : ∀ w ∈ u_ws RX0 TX0 3, w ∈ lw_tbl) w hw) ((by decide +kernel : ∀ w ∈ u_ws RX0 TX0 3, goodWord w = true) w hw)
theorem hin_X1 : ∀ w ∈ u_ws RX1 TX1 6, w ∈ tws := by
  intro w hw
  refine tws_of ((by decide +kernel : ∀ w ∈ u_ws RX1 TX1 6, w ∈ lw_tbl) w hw) ((by decide +kernel : ∀ w ∈ u_ws RX1 TX1 6, goodWord w = true) w hw)
theorem hin_X2 : ∀ w ∈ u_ws RX2 TX2 3, w ∈ tws := by
  intro w hw
  refine tws_of ((by decide +kernel : ∀ w ∈ u_ws RX2 TX2 3, w ∈ lw_tbl) w hw) ((by decide +kernel : ∀ w ∈ u_ws RX2 TX2 3, goodWord w = true) w hw)
theorem hin_X3 : ∀ w ∈ u_ws RX3 TX3 16, w ∈ tws := by
  intro w hw
  refine tws_of ((by decide +kernel : ∀ w ∈ u_ws RX3 TX3 16, w ∈ lw_tbl) w hw) ((by decide +kernel : ∀ w ∈ u_ws RX3 TX3 16, goodWord w = true) w hw)
theorem hin_X4 : ∀ w ∈ u_ws RX4 TX4 5, w ∈ tws := by
  intro w hw
  refine tws_of ((by decide +kernel : ∀ w ∈ u_ws RX4 TX4 5, w ∈ lw_tbl) w hw) ((by decide +kernel : ∀ w ∈ u_ws RX4 TX4 5, goodWord w = true) w hw)
theorem hin_X5 : ∀ w ∈ u_ws RX5 TX5 5, w ∈ tws := by
  intro w hw
  refine tws_of ((by decide +kernel : ∀ w ∈ u_ws RX5 TX5 5, w ∈ lw_tbl) w hw) ((by decide +kernel : ∀ w ∈ u_ws RX5 TX5 5, goodWord w = true) w hw)
theorem hin_X6 : ∀ w ∈ u_ws RX6 TX6 10, w ∈ tws := by
  intro w hw
  refine tws_of ((by decide +kernel : ∀ w ∈ u_ws RX6 TX6 10, w ∈ lw_tbl) w hw) ((by decide +kernel : ∀ w ∈ u_ws RX6 TX6 10, goodWord w = true) w hw)
theorem hin_X7 : ∀ w ∈ u_ws RX7 TX7 26, w ∈ tws := by
  intro w hw
  refine tws_of ((by decide +kernel : ∀ w ∈ u_ws RX7 TX7 26, w ∈ lw_tbl) w hw) ((by decide +kernel : ∀ w ∈ u_ws RX7 TX7 26, goodWord w = true) w hw)
theorem k_X5_25 : Cond.constant RX5 25 (-1000000) ∈ tws := (tws_of (List.mem_of_getElem? (i := 117) (by decide +kernel)) (by decide +kernel))
theorem k_X6_71 : Cond.constant RX6 71 (-1000001) ∈ tws := (tws_of (List.mem_of_getElem? (i := 325) (by decide +kernel)) (by decide +kernel))
theorem k_X6_325 : Cond.constant RX6 325 (-1000010) ∈ tws := (tws_of (List.mem_of_getElem? (i := 330) (by decide +kernel)) (by decide +kernel))
theorem k_X6_114 : Cond.constant RX6 114 (-1000003) ∈ tws := (tws_of (List.mem_of_getElem? (i := 393) (by decide +kernel)) (by decide +kernel))
theorem k_X6_119 : Cond.constant RX6 119 (-1000000) ∈ tws := (tws_of (List.mem_of_getElem? (i := 452) (by decide +kernel)) (by decide +kernel))
theorem k_X6_120 : Cond.constant RX6 120 (-1000100) ∈ tws := (tws_of (List.mem_of_getElem? (i := 453) (by decide +kernel)) (by decide +kernel))
theorem k_X6_137 : Cond.constant RX6 137 (-1000002) ∈ tws := (tws_of (List.mem_of_getElem? (i := 470) (by decide +kernel)) (by decide +kernel))
theorem k_X3_65 : Cond.constant RX3 65 (-1000000) ∈ tws := (tws_of (List.mem_of_getElem? (i := 515) (by decide +kernel)) (by decide +kernel))
theorem k_J6_265 : Cond.constant RJ6 265 (1431655765) ∈ tws := (tws_of (List.mem_of_getElem? (i := 566) (by decide +kernel)) (by decide +kernel))
theorem k_J6_266 : Cond.constant RJ6 266 (858993459) ∈ tws := (tws_of (List.mem_of_getElem? (i := 567) (by decide +kernel)) (by decide +kernel))
theorem k_J6_267 : Cond.constant RJ6 267 (252645135) ∈ tws := (tws_of (List.mem_of_getElem? (i := 568) (by decide +kernel)) (by decide +kernel))
theorem k_X2_40 : Cond.constant RX2 40 (-1000000) ∈ tws := (tws_of (List.mem_of_getElem? (i := 648) (by decide +kernel)) (by decide +kernel))
theorem k_X4_49 : Cond.constant RX4 49 (-1000000) ∈ tws := (tws_of (List.mem_of_getElem? (i := 743) (by decide +kernel)) (by decide +kernel))
theorem k_X6_291 : Cond.constant RX6 291 (999999) ∈ tws := (tws_of (List.mem_of_getElem? (i := 784) (by decide +kernel)) (by decide +kernel))
theorem k_X1_31 : Cond.constant RX1 31 (-1000000) ∈ tws := (tws_of (List.mem_of_getElem? (i := 863) (by decide +kernel)) (by decide +kernel))
theorem k_X7_73 : Cond.constant RX7 73 (-1000001) ∈ tws := (tws_of (List.mem_of_getElem? (i := 975) (by decide +kernel)) (by decide +kernel))
theorem k_X7_60 : Cond.constant RX7 60 (-1000010) ∈ tws := (tws_of (List.mem_of_getElem? (i := 980) (by decide +kernel)) (by decide +kernel))
theorem k_X7_90 : Cond.constant RX7 90 (-1000003) ∈ tws := (tws_of (List.mem_of_getElem? (i := 1005) (by decide +kernel)) (by decide +kernel))
theorem k_X7_146 : Cond.constant RX7 146 (-1000100) ∈ tws := (tws_of (List.mem_of_getElem? (i := 1049) (by decide +kernel)) (by decide +kernel))
theorem k_X7_181 : Cond.constant RX7 181 (-1000002) ∈ tws := (tws_of (List.mem_of_getElem? (i := 1058) (by decide +kernel)) (by decide +kernel))
theorem k_X7_158 : Cond.constant RX7 158 (-1000000) ∈ tws := (tws_of (List.mem_of_getElem? (i := 1091) (by decide +kernel)) (by decide +kernel))
theorem kl_X6_277 : Cond.constantLong RX6 277 (-1000001) ∈ tws := (tws_of (List.mem_of_getElem? (i := 768) (by decide +kernel)) (by decide +kernel))
theorem kl_X2_127 : Cond.constantLong RX2 127 (16807) ∈ tws := (tws_of (List.mem_of_getElem? (i := 789) (by decide +kernel)) (by decide +kernel))
theorem kl_X2_129 : Cond.constantLong RX2 129 (2147483647) ∈ tws := (tws_of (List.mem_of_getElem? (i := 790) (by decide +kernel)) (by decide +kernel))
theorem kl_X2_135 : Cond.constantLong RX2 135 (3) ∈ tws := (tws_of (List.mem_of_getElem? (i := 795) (by decide +kernel)) (by decide +kernel))
theorem kl_X2_137 : Cond.constantLong RX2 137 (5) ∈ tws := (tws_of (List.mem_of_getElem? (i := 796) (by decide +kernel)) (by decide +kernel))
theorem kl_X7_61 : Cond.constantLong RX7 61 (7) ∈ tws := (tws_of (List.mem_of_getElem? (i := 970) (by decide +kernel)) (by decide +kernel))
theorem kl_X7_71 : Cond.constantLong RX7 71 (2) ∈ tws := (tws_of (List.mem_of_getElem? (i := 974) (by decide +kernel)) (by decide +kernel))
theorem kl_X7_85 : Cond.constantLong RX7 85 (255) ∈ tws := (tws_of (List.mem_of_getElem? (i := 1004) (by decide +kernel)) (by decide +kernel))
theorem kl_X7_103 : Cond.constantLong RX7 103 (48) ∈ tws := (tws_of (List.mem_of_getElem? (i := 1018) (by decide +kernel)) (by decide +kernel))
theorem kl_X7_105 : Cond.constantLong RX7 105 (57) ∈ tws := (tws_of (List.mem_of_getElem? (i := 1019) (by decide +kernel)) (by decide +kernel))
theorem kl_X7_107 : Cond.constantLong RX7 107 (97) ∈ tws := (tws_of (List.mem_of_getElem? (i := 1020) (by decide +kernel)) (by decide +kernel))
theorem kl_X7_109 : Cond.constantLong RX7 109 (122) ∈ tws := (tws_of (List.mem_of_getElem? (i := 1021) (by decide +kernel)) (by decide +kernel))
theorem kl_X7_182 : Cond.constantLong RX7 182 (24) ∈ tws := (tws_of (List.mem_of_getElem? (i := 1063) (by decide +kernel)) (by decide +kernel))
theorem kl_X7_206 : Cond.constantLong RX7 206 (3) ∈ tws := (tws_of (List.mem_of_getElem? (i := 1151) (by decide +kernel)) (by decide +kernel))
theorem kl_X7_214 : Cond.constantLong RX7 214 (60) ∈ tws := (tws_of (List.mem_of_getElem? (i := 1160) (by decide +kernel)) (by decide +kernel))
theorem kl_X7_232 : Cond.constantLong RX7 232 (12) ∈ tws := (tws_of (List.mem_of_getElem? (i := 1203) (by decide +kernel)) (by decide +kernel))
theorem kl_X7_234 : Cond.constantLong RX7 234 (-1) ∈ tws := (tws_of (List.mem_of_getElem? (i := 1204) (by decide +kernel)) (by decide +kernel))
theorem kl_X7_245 : Cond.constantLong RX7 245 (999) ∈ tws := (tws_of (List.mem_of_getElem? (i := 1233) (by decide +kernel)) (by decide +kernel))
theorem kl_X7_262 : Cond.constantLong RX7 262 (10) ∈ tws := (tws_of (List.mem_of_getElem? (i := 1266) (by decide +kernel)) (by decide +kernel))
theorem kl_X7_264 : Cond.constantLong RX7 264 (-1000001) ∈ tws := (tws_of (List.mem_of_getElem? (i := 1267) (by decide +kernel)) (by decide +kernel))
theorem kl_X7_266 : Cond.constantLong RX7 266 (999999) ∈ tws := (tws_of (List.mem_of_getElem? (i := 1272) (by decide +kernel)) (by decide +kernel))
theorem kl_X7_268 : Cond.constantLong RX7 268 (16807) ∈ tws := (tws_of (List.mem_of_getElem? (i := 1273) (by decide +kernel)) (by decide +kernel))
theorem kl_X7_270 : Cond.constantLong RX7 270 (2147483647) ∈ tws := (tws_of (List.mem_of_getElem? (i := 1274) (by decide +kernel)) (by decide +kernel))
theorem kl_X7_272 : Cond.constantLong RX7 272 (5) ∈ tws := (tws_of (List.mem_of_getElem? (i := 1275) (by decide +kernel)) (by decide +kernel))
theorem fl_X4_11 : Cond.fieldLink RX4 11 (TX4 0).1 (TX4 0).2.1 (TX4 0).2.2.1 ∈ tws := (tws_of (List.mem_of_getElem? (i := 94) (by decide +kernel)) (by decide +kernel))
theorem fl_X4_15 : Cond.fieldLink RX4 15 (TX4 1).1 (TX4 1).2.1 (TX4 1).2.2.1 ∈ tws := (tws_of (List.mem_of_getElem? (i := 95) (by decide +kernel)) (by decide +kernel))
theorem fl_X4_18 : Cond.fieldLink RX4 18 (TX4 2).1 (TX4 2).2.1 (TX4 2).2.2.1 ∈ tws := (tws_of (List.mem_of_getElem? (i := 96) (by decide +kernel)) (by decide +kernel))
theorem fl_X4_21 : Cond.fieldLink RX4 21 (TX4 3).1 (TX4 3).2.1 (TX4 3).2.2.1 ∈ tws := (tws_of (List.mem_of_getElem? (i := 97) (by decide +kernel)) (by decide +kernel))
theorem fl_X4_25 : Cond.fieldLink RX4 25 (TX4 4).1 (TX4 4).2.1 (TX4 4).2.2.1 ∈ tws := (tws_of (List.mem_of_getElem? (i := 98) (by decide +kernel)) (by decide +kernel))
theorem fl_X5_11 : Cond.fieldLink RX5 11 (TX5 0).1 (TX5 0).2.1 (TX5 0).2.2.1 ∈ tws := (tws_of (List.mem_of_getElem? (i := 118) (by decide +kernel)) (by decide +kernel))
theorem fl_X5_15 : Cond.fieldLink RX5 15 (TX5 1).1 (TX5 1).2.1 (TX5 1).2.2.1 ∈ tws := (tws_of (List.mem_of_getElem? (i := 119) (by decide +kernel)) (by decide +kernel))
theorem fl_X6_111 : Cond.fieldLink RX6 111 (TX5 1).1 (TX5 1).2.1 (TX5 1).2.2.1 ∈ tws := (tws_of (List.mem_of_getElem? (i := 120) (by decide +kernel)) (by decide +kernel))
theorem fl_X5_19 : Cond.fieldLink RX5 19 (TX5 2).1 (TX5 2).2.1 (TX5 2).2.2.1 ∈ tws := (tws_of (List.mem_of_getElem? (i := 121) (by decide +kernel)) (by decide +kernel))
theorem fl_X6_131 : Cond.fieldLink RX6 131 (TX5 2).1 (TX5 2).2.1 (TX5 2).2.2.1 ∈ tws := (tws_of (List.mem_of_getElem? (i := 122) (by decide +kernel)) (by decide +kernel))
theorem fl_X5_22 : Cond.fieldLink RX5 22 (TX5 3).1 (TX5 3).2.1 (TX5 3).2.2.1 ∈ tws := (tws_of (List.mem_of_getElem? (i := 123) (by decide +kernel)) (by decide +kernel))
theorem fl_X5_26 : Cond.fieldLink RX5 26 (TX5 4).1 (TX5 4).2.1 (TX5 4).2.2.1 ∈ tws := (tws_of (List.mem_of_getElem? (i := 124) (by decide +kernel)) (by decide +kernel))
theorem fl_X3_9 : Cond.fieldLink RX3 9 (TX3 0).1 (TX3 0).2.1 (TX3 0).2.2.1 ∈ tws := (tws_of (List.mem_of_getElem? (i := 142) (by decide +kernel)) (by decide +kernel))
theorem fl_X5_65 : Cond.fieldLink RX5 65 (TX3 0).1 (TX3 0).2.1 (TX3 0).2.2.1 ∈ tws := (tws_of (List.mem_of_getElem? (i := 143) (by decide +kernel)) (by decide +kernel))
theorem fl_X2_55 : Cond.fieldLink RX2 55 (TX3 0).1 (TX3 0).2.1 (TX3 0).2.2.1 ∈ tws := (tws_of (List.mem_of_getElem? (i := 144) (by decide +kernel)) (by decide +kernel))
theorem fl_X6_296 : Cond.fieldLink RX6 296 (TX3 0).1 (TX3 0).2.1 (TX3 0).2.2.1 ∈ tws := (tws_of (List.mem_of_getElem? (i := 145) (by decide +kernel)) (by decide +kernel))
theorem fl_X3_15 : Cond.fieldLink RX3 15 (TX3 1).1 (TX3 1).2.1 (TX3 1).2.2.1 ∈ tws := (tws_of (List.mem_of_getElem? (i := 146) (by decide +kernel)) (by decide +kernel))
theorem fl_X5_80 : Cond.fieldLink RX5 80 (TX3 1).1 (TX3 1).2.1 (TX3 1).2.2.1 ∈ tws := (tws_of (List.mem_of_getElem? (i := 147) (by decide +kernel)) (by decide +kernel))
theorem fl_X6_128 : Cond.fieldLink RX6 128 (TX3 1).1 (TX3 1).2.1 (TX3 1).2.2.1 ∈ tws := (tws_of (List.mem_of_getElem? (i := 148) (by decide +kernel)) (by decide +kernel))
theorem fl_X2_93 : Cond.fieldLink RX2 93 (TX3 1).1 (TX3 1).2.1 (TX3 1).2.2.1 ∈ tws := (tws_of (List.mem_of_getElem? (i := 149) (by decide +kernel)) (by decide +kernel))
theorem fl_X3_18 : Cond.fieldLink RX3 18 (TX3 2).1 (TX3 2).2.1 (TX3 2).2.2.1 ∈ tws := (tws_of (List.mem_of_getElem? (i := 150) (by decide +kernel)) (by decide +kernel))
theorem fl_X5_52 : Cond.fieldLink RX5 52 (TX3 2).1 (TX3 2).2.1 (TX3 2).2.2.1 ∈ tws := (tws_of (List.mem_of_getElem? (i := 151) (by decide +kernel)) (by decide +kernel))
theorem fl_X2_112 : Cond.fieldLink RX2 112 (TX3 2).1 (TX3 2).2.1 (TX3 2).2.2.1 ∈ tws := (tws_of (List.mem_of_getElem? (i := 152) (by decide +kernel)) (by decide +kernel))
theorem fl_X6_217 : Cond.fieldLink RX6 217 (TX3 2).1 (TX3 2).2.1 (TX3 2).2.2.1 ∈ tws := (tws_of (List.mem_of_getElem? (i := 153) (by decide +kernel)) (by decide +kernel))
theorem fl_X3_21 : Cond.fieldLink RX3 21 (TX3 3).1 (TX3 3).2.1 (TX3 3).2.2.1 ∈ tws := (tws_of (List.mem_of_getElem? (i := 154) (by decide +kernel)) (by decide +kernel))
theorem fl_X5_55 : Cond.fieldLink RX5 55 (TX3 3).1 (TX3 3).2.1 (TX3 3).2.2.1 ∈ tws := (tws_of (List.mem_of_getElem? (i := 155) (by decide +kernel)) (by decide +kernel))
theorem fl_X2_86 : Cond.fieldLink RX2 86 (TX3 3).1 (TX3 3).2.1 (TX3 3).2.2.1 ∈ tws := (tws_of (List.mem_of_getElem? (i := 156) (by decide +kernel)) (by decide +kernel))
theorem fl_X6_173 : Cond.fieldLink RX6 173 (TX3 3).1 (TX3 3).2.1 (TX3 3).2.2.1 ∈ tws := (tws_of (List.mem_of_getElem? (i := 157) (by decide +kernel)) (by decide +kernel))
theorem fl_X3_24 : Cond.fieldLink RX3 24 (TX3 4).1 (TX3 4).2.1 (TX3 4).2.2.1 ∈ tws := (tws_of (List.mem_of_getElem? (i := 158) (by decide +kernel)) (by decide +kernel))
theorem fl_X6_145 : Cond.fieldLink RX6 145 (TX3 4).1 (TX3 4).2.1 (TX3 4).2.2.1 ∈ tws := (tws_of (List.mem_of_getElem? (i := 159) (by decide +kernel)) (by decide +kernel))
theorem fl_X3_27 : Cond.fieldLink RX3 27 (TX3 5).1 (TX3 5).2.1 (TX3 5).2.2.1 ∈ tws := (tws_of (List.mem_of_getElem? (i := 160) (by decide +kernel)) (by decide +kernel))
theorem fl_X2_72 : Cond.fieldLink RX2 72 (TX3 5).1 (TX3 5).2.1 (TX3 5).2.2.1 ∈ tws := (tws_of (List.mem_of_getElem? (i := 161) (by decide +kernel)) (by decide +kernel))
theorem fl_X6_161 : Cond.fieldLink RX6 161 (TX3 5).1 (TX3 5).2.1 (TX3 5).2.2.1 ∈ tws := (tws_of (List.mem_of_getElem? (i := 162) (by decide +kernel)) (by decide +kernel))
theorem fl_X3_30 : Cond.fieldLink RX3 30 (TX3 6).1 (TX3 6).2.1 (TX3 6).2.2.1 ∈ tws := (tws_of (List.mem_of_getElem? (i := 163) (by decide +kernel)) (by decide +kernel))
theorem fl_X6_176 : Cond.fieldLink RX6 176 (TX3 6).1 (TX3 6).2.1 (TX3 6).2.2.1 ∈ tws := (tws_of (List.mem_of_getElem? (i := 164) (by decide +kernel)) (by decide +kernel))
theorem fl_X3_33 : Cond.fieldLink RX3 33 (TX3 7).1 (TX3 7).2.1 (TX3 7).2.2.1 ∈ tws := (tws_of (List.mem_of_getElem? (i := 165) (by decide +kernel)) (by decide +kernel))
theorem fl_X2_96 : Cond.fieldLink RX2 96 (TX3 7).1 (TX3 7).2.1 (TX3 7).2.2.1 ∈ tws := (tws_of (List.mem_of_getElem? (i := 166) (by decide +kernel)) (by decide +kernel))
theorem fl_X6_196 : Cond.fieldLink RX6 196 (TX3 7).1 (TX3 7).2.1 (TX3 7).2.2.1 ∈ tws := (tws_of (List.mem_of_getElem? (i := 167) (by decide +kernel)) (by decide +kernel))
theorem fl_X3_36 : Cond.fieldLink RX3 36 (TX3 8).1 (TX3 8).2.1 (TX3 8).2.2.1 ∈ tws := (tws_of (List.mem_of_getElem? (i := 168) (by decide +kernel)) (by decide +kernel))
theorem fl_X2_75 : Cond.fieldLink RX2 75 (TX3 8).1 (TX3 8).2.1 (TX3 8).2.2.1 ∈ tws := (tws_of (List.mem_of_getElem? (i := 169) (by decide +kernel)) (by decide +kernel))
theorem fl_X6_199 : Cond.fieldLink RX6 199 (TX3 8).1 (TX3 8).2.1 (TX3 8).2.2.1 ∈ tws := (tws_of (List.mem_of_getElem? (i := 170) (by decide +kernel)) (by decide +kernel))
theorem fl_X3_40 : Cond.fieldLink RX3 40 (TX3 9).1 (TX3 9).2.1 (TX3 9).2.2.1 ∈ tws := (tws_of (List.mem_of_getElem? (i := 171) (by decide +kernel)) (by decide +kernel))
theorem fl_X2_109 : Cond.fieldLink RX2 109 (TX3 9).1 (TX3 9).2.1 (TX3 9).2.2.1 ∈ tws := (tws_of (List.mem_of_getElem? (i := 172) (by decide +kernel)) (by decide +kernel))
theorem fl_X6_202 : Cond.fieldLink RX6 202 (TX3 9).1 (TX3 9).2.1 (TX3 9).2.2.1 ∈ tws := (tws_of (List.mem_of_getElem? (i := 173) (by decide +kernel)) (by decide +kernel))
theorem fl_X3_43 : Cond.fieldLink RX3 43 (TX3 10).1 (TX3 10).2.1 (TX3 10).2.2.1 ∈ tws := (tws_of (List.mem_of_getElem? (i := 174) (by decide +kernel)) (by decide +kernel))
theorem fl_X6_177 : Cond.fieldLink RX6 177 (TX3 10).1 (TX3 10).2.1 (TX3 10).2.2.1 ∈ tws := (tws_of (List.mem_of_getElem? (i := 175) (by decide +kernel)) (by decide +kernel))
theorem fl_X3_46 : Cond.fieldLink RX3 46 (TX3 11).1 (TX3 11).2.1 (TX3 11).2.2.1 ∈ tws := (tws_of (List.mem_of_getElem? (i := 176) (by decide +kernel)) (by decide +kernel))
theorem fl_X3_49 : Cond.fieldLink RX3 49 (TX3 12).1 (TX3 12).2.1 (TX3 12).2.2.1 ∈ tws := (tws_of (List.mem_of_getElem? (i := 177) (by decide +kernel)) (by decide +kernel))
theorem fl_X2_99 : Cond.fieldLink RX2 99 (TX3 12).1 (TX3 12).2.1 (TX3 12).2.2.1 ∈ tws := (tws_of (List.mem_of_getElem? (i := 178) (by decide +kernel)) (by decide +kernel))
theorem fl_X6_299 : Cond.fieldLink RX6 299 (TX3 12).1 (TX3 12).2.1 (TX3 12).2.2.1 ∈ tws := (tws_of (List.mem_of_getElem? (i := 179) (by decide +kernel)) (by decide +kernel))
theorem fl_X3_52 : Cond.fieldLink RX3 52 (TX3 13).1 (TX3 13).2.1 (TX3 13).2.2.1 ∈ tws := (tws_of (List.mem_of_getElem? (i := 180) (by decide +kernel)) (by decide +kernel))
theorem fl_X2_106 : Cond.fieldLink RX2 106 (TX3 13).1 (TX3 13).2.1 (TX3 13).2.2.1 ∈ tws := (tws_of (List.mem_of_getElem? (i := 181) (by decide +kernel)) (by decide +kernel))
theorem fl_X6_190 : Cond.fieldLink RX6 190 (TX3 13).1 (TX3 13).2.1 (TX3 13).2.2.1 ∈ tws := (tws_of (List.mem_of_getElem? (i := 182) (by decide +kernel)) (by decide +kernel))
theorem fl_X3_55 : Cond.fieldLink RX3 55 (TX3 14).1 (TX3 14).2.1 (TX3 14).2.2.1 ∈ tws := (tws_of (List.mem_of_getElem? (i := 183) (by decide +kernel)) (by decide +kernel))
theorem fl_X6_208 : Cond.fieldLink RX6 208 (TX3 14).1 (TX3 14).2.1 (TX3 14).2.2.1 ∈ tws := (tws_of (List.mem_of_getElem? (i := 184) (by decide +kernel)) (by decide +kernel))
theorem fl_X3_58 : Cond.fieldLink RX3 58 (TX3 15).1 (TX3 15).2.1 (TX3 15).2.2.1 ∈ tws := (tws_of (List.mem_of_getElem? (i := 185) (by decide +kernel)) (by decide +kernel))
theorem fl_X6_234 : Cond.fieldLink RX6 234 (TX3 15).1 (TX3 15).2.1 (TX3 15).2.2.1 ∈ tws := (tws_of (List.mem_of_getElem? (i := 186) (by decide +kernel)) (by decide +kernel))
theorem fl_X0_11 : Cond.fieldLink RX0 11 (TX0 0).1 (TX0 0).2.1 (TX0 0).2.2.1 ∈ tws := (tws_of (List.mem_of_getElem? (i := 229) (by decide +kernel)) (by decide +kernel))
theorem fl_X0_17 : Cond.fieldLink RX0 17 (TX0 1).1 (TX0 1).2.1 (TX0 1).2.2.1 ∈ tws := (tws_of (List.mem_of_getElem? (i := 230) (by decide +kernel)) (by decide +kernel))
theorem fl_X0_21 : Cond.fieldLink RX0 21 (TX0 2).1 (TX0 2).2.1 (TX0 2).2.2.1 ∈ tws := (tws_of (List.mem_of_getElem? (i := 231) (by decide +kernel)) (by decide +kernel))
theorem fl_X6_134 : Cond.fieldLink RX6 134 (TX0 2).1 (TX0 2).2.1 (TX0 2).2.2.1 ∈ tws := (tws_of (List.mem_of_getElem? (i := 232) (by decide +kernel)) (by decide +kernel))
theorem fl_X2_12 : Cond.fieldLink RX2 12 (TX2 0).1 (TX2 0).2.1 (TX2 0).2.2.1 ∈ tws := (tws_of (List.mem_of_getElem? (i := 248) (by decide +kernel)) (by decide +kernel))
theorem fl_X2_18 : Cond.fieldLink RX2 18 (TX2 1).1 (TX2 1).2.1 (TX2 1).2.2.1 ∈ tws := (tws_of (List.mem_of_getElem? (i := 249) (by decide +kernel)) (by decide +kernel))
theorem fl_X2_22 : Cond.fieldLink RX2 22 (TX2 2).1 (TX2 2).2.1 (TX2 2).2.2.1 ∈ tws := (tws_of (List.mem_of_getElem? (i := 250) (by decide +kernel)) (by decide +kernel))
theorem fl_X1_11 : Cond.fieldLink RX1 11 (TX1 0).1 (TX1 0).2.1 (TX1 0).2.2.1 ∈ tws := (tws_of (List.mem_of_getElem? (i := 265) (by decide +kernel)) (by decide +kernel))
theorem fl_X1_15 : Cond.fieldLink RX1 15 (TX1 1).1 (TX1 1).2.1 (TX1 1).2.2.1 ∈ tws := (tws_of (List.mem_of_getElem? (i := 266) (by decide +kernel)) (by decide +kernel))
theorem fl_X1_19 : Cond.fieldLink RX1 19 (TX1 2).1 (TX1 2).2.1 (TX1 2).2.2.1 ∈ tws := (tws_of (List.mem_of_getElem? (i := 267) (by decide +kernel)) (by decide +kernel))
theorem fl_X1_22 : Cond.fieldLink RX1 22 (TX1 3).1 (TX1 3).2.1 (TX1 3).2.2.1 ∈ tws := (tws_of (List.mem_of_getElem? (i := 268) (by decide +kernel)) (by decide +kernel))
theorem fl_X1_25 : Cond.fieldLink RX1 25 (TX1 4).1 (TX1 4).2.1 (TX1 4).2.2.1 ∈ tws := (tws_of (List.mem_of_getElem? (i := 269) (by decide +kernel)) (by decide +kernel))
theorem fl_X1_28 : Cond.fieldLink RX1 28 (TX1 5).1 (TX1 5).2.1 (TX1 5).2.2.1 ∈ tws := (tws_of (List.mem_of_getElem? (i := 270) (by decide +kernel)) (by decide +kernel))
theorem fl_X6_10 : Cond.fieldLink RX6 10 (TX6 0).1 (TX6 0).2.1 (TX6 0).2.2.1 ∈ tws := (tws_of (List.mem_of_getElem? (i := 284) (by decide +kernel)) (by decide +kernel))
theorem fl_X6_19 : Cond.fieldLink RX6 19 (TX6 1).1 (TX6 1).2.1 (TX6 1).2.2.1 ∈ tws := (tws_of (List.mem_of_getElem? (i := 285) (by decide +kernel)) (by decide +kernel))
theorem fl_X6_26 : Cond.fieldLink RX6 26 (TX6 2).1 (TX6 2).2.1 (TX6 2).2.2.1 ∈ tws := (tws_of (List.mem_of_getElem? (i := 286) (by decide +kernel)) (by decide +kernel))
theorem fl_X6_30 : Cond.fieldLink RX6 30 (TX6 3).1 (TX6 3).2.1 (TX6 3).2.2.1 ∈ tws := (tws_of (List.mem_of_getElem? (i := 287) (by decide +kernel)) (by decide +kernel))
theorem fl_X6_33 : Cond.fieldLink RX6 33 (TX6 4).1 (TX6 4).2.1 (TX6 4).2.2.1 ∈ tws := (tws_of (List.mem_of_getElem? (i := 288) (by decide +kernel)) (by decide +kernel))
theorem fl_X6_36 : Cond.fieldLink RX6 36 (TX6 5).1 (TX6 5).2.1 (TX6 5).2.2.1 ∈ tws := (tws_of (List.mem_of_getElem? (i := 289) (by decide +kernel)) (by decide +kernel))
theorem fl_X6_42 : Cond.fieldLink RX6 42 (TX6 6).1 (TX6 6).2.1 (TX6 6).2.2.1 ∈ tws := (tws_of (List.mem_of_getElem? (i := 290) (by decide +kernel)) (by decide +kernel))
theorem fl_X6_49 : Cond.fieldLink RX6 49 (TX6 7).1 (TX6 7).2.1 (TX6 7).2.2.1 ∈ tws := (tws_of (List.mem_of_getElem? (i := 291) (by decide +kernel)) (by decide +kernel))
theorem fl_X6_56 : Cond.fieldLink RX6 56 (TX6 8).1 (TX6 8).2.1 (TX6 8).2.2.1 ∈ tws := (tws_of (List.mem_of_getElem? (i := 292) (by decide +kernel)) (by decide +kernel))
theorem fl_X6_60 : Cond.fieldLink RX6 60 (TX6 9).1 (TX6 9).2.1 (TX6 9).2.2.1 ∈ tws := (tws_of (List.mem_of_getElem? (i := 293) (by decide +kernel)) (by decide +kernel))
theorem fl_X6_326 : Cond.fieldLink RX6 326 RX6 "BROADER_KIND" "[I" ∈ tws := (tws_of (List.mem_of_getElem? (i := 816) (by decide +kernel)) (by decide +kernel))
theorem fl_X7_7 : Cond.fieldLink RX7 7 (TX7 0).1 (TX7 0).2.1 (TX7 0).2.2.1 ∈ tws := (tws_of (List.mem_of_getElem? (i := 883) (by decide +kernel)) (by decide +kernel))
theorem fl_X7_13 : Cond.fieldLink RX7 13 (TX7 1).1 (TX7 1).2.1 (TX7 1).2.2.1 ∈ tws := (tws_of (List.mem_of_getElem? (i := 884) (by decide +kernel)) (by decide +kernel))
theorem fl_X7_16 : Cond.fieldLink RX7 16 (TX7 2).1 (TX7 2).2.1 (TX7 2).2.2.1 ∈ tws := (tws_of (List.mem_of_getElem? (i := 885) (by decide +kernel)) (by decide +kernel))
theorem fl_X7_56 : Cond.fieldLink RX7 56 (TX7 3).1 (TX7 3).2.1 (TX7 3).2.2.1 ∈ tws := (tws_of (List.mem_of_getElem? (i := 886) (by decide +kernel)) (by decide +kernel))
theorem fl_X7_147 : Cond.fieldLink RX7 147 (TX7 4).1 (TX7 4).2.1 (TX7 4).2.2.1 ∈ tws := (tws_of (List.mem_of_getElem? (i := 887) (by decide +kernel)) (by decide +kernel))
theorem fl_X7_19 : Cond.fieldLink RX7 19 (TX7 5).1 (TX7 5).2.1 (TX7 5).2.2.1 ∈ tws := (tws_of (List.mem_of_getElem? (i := 888) (by decide +kernel)) (by decide +kernel))
theorem fl_X7_22 : Cond.fieldLink RX7 22 (TX7 6).1 (TX7 6).2.1 (TX7 6).2.2.1 ∈ tws := (tws_of (List.mem_of_getElem? (i := 889) (by decide +kernel)) (by decide +kernel))
theorem fl_X7_25 : Cond.fieldLink RX7 25 (TX7 7).1 (TX7 7).2.1 (TX7 7).2.2.1 ∈ tws := (tws_of (List.mem_of_getElem? (i := 890) (by decide +kernel)) (by decide +kernel))
theorem fl_X7_87 : Cond.fieldLink RX7 87 (TX7 8).1 (TX7 8).2.1 (TX7 8).2.2.1 ∈ tws := (tws_of (List.mem_of_getElem? (i := 891) (by decide +kernel)) (by decide +kernel))
theorem fl_X7_143 : Cond.fieldLink RX7 143 (TX7 9).1 (TX7 9).2.1 (TX7 9).2.2.1 ∈ tws := (tws_of (List.mem_of_getElem? (i := 892) (by decide +kernel)) (by decide +kernel))
theorem fl_X7_91 : Cond.fieldLink RX7 91 (TX7 10).1 (TX7 10).2.1 (TX7 10).2.2.1 ∈ tws := (tws_of (List.mem_of_getElem? (i := 893) (by decide +kernel)) (by decide +kernel))
theorem fl_X7_97 : Cond.fieldLink RX7 97 (TX7 11).1 (TX7 11).2.1 (TX7 11).2.2.1 ∈ tws := (tws_of (List.mem_of_getElem? (i := 894) (by decide +kernel)) (by decide +kernel))
theorem fl_X7_100 : Cond.fieldLink RX7 100 (TX7 12).1 (TX7 12).2.1 (TX7 12).2.2.1 ∈ tws := (tws_of (List.mem_of_getElem? (i := 895) (by decide +kernel)) (by decide +kernel))
theorem fl_X7_94 : Cond.fieldLink RX7 94 (TX7 13).1 (TX7 13).2.1 (TX7 13).2.2.1 ∈ tws := (tws_of (List.mem_of_getElem? (i := 896) (by decide +kernel)) (by decide +kernel))
theorem fl_X7_111 : Cond.fieldLink RX7 111 (TX7 14).1 (TX7 14).2.1 (TX7 14).2.2.1 ∈ tws := (tws_of (List.mem_of_getElem? (i := 897) (by decide +kernel)) (by decide +kernel))
theorem fl_X7_28 : Cond.fieldLink RX7 28 (TX7 15).1 (TX7 15).2.1 (TX7 15).2.2.1 ∈ tws := (tws_of (List.mem_of_getElem? (i := 898) (by decide +kernel)) (by decide +kernel))
theorem fl_X7_31 : Cond.fieldLink RX7 31 (TX7 16).1 (TX7 16).2.1 (TX7 16).2.2.1 ∈ tws := (tws_of (List.mem_of_getElem? (i := 899) (by decide +kernel)) (by decide +kernel))
theorem fl_X7_34 : Cond.fieldLink RX7 34 (TX7 17).1 (TX7 17).2.1 (TX7 17).2.2.1 ∈ tws := (tws_of (List.mem_of_getElem? (i := 900) (by decide +kernel)) (by decide +kernel))
theorem fl_X7_151 : Cond.fieldLink RX7 151 (TX7 18).1 (TX7 18).2.1 (TX7 18).2.2.1 ∈ tws := (tws_of (List.mem_of_getElem? (i := 901) (by decide +kernel)) (by decide +kernel))
theorem fl_X7_37 : Cond.fieldLink RX7 37 (TX7 19).1 (TX7 19).2.1 (TX7 19).2.2.1 ∈ tws := (tws_of (List.mem_of_getElem? (i := 902) (by decide +kernel)) (by decide +kernel))
theorem fl_X7_40 : Cond.fieldLink RX7 40 (TX7 20).1 (TX7 20).2.1 (TX7 20).2.2.1 ∈ tws := (tws_of (List.mem_of_getElem? (i := 903) (by decide +kernel)) (by decide +kernel))
theorem fl_X7_43 : Cond.fieldLink RX7 43 (TX7 21).1 (TX7 21).2.1 (TX7 21).2.2.1 ∈ tws := (tws_of (List.mem_of_getElem? (i := 904) (by decide +kernel)) (by decide +kernel))
theorem fl_X7_46 : Cond.fieldLink RX7 46 (TX7 22).1 (TX7 22).2.1 (TX7 22).2.2.1 ∈ tws := (tws_of (List.mem_of_getElem? (i := 905) (by decide +kernel)) (by decide +kernel))
theorem fl_X7_50 : Cond.fieldLink RX7 50 (TX7 23).1 (TX7 23).2.1 (TX7 23).2.2.1 ∈ tws := (tws_of (List.mem_of_getElem? (i := 906) (by decide +kernel)) (by decide +kernel))
theorem fl_X7_53 : Cond.fieldLink RX7 53 (TX7 24).1 (TX7 24).2.1 (TX7 24).2.2.1 ∈ tws := (tws_of (List.mem_of_getElem? (i := 907) (by decide +kernel)) (by decide +kernel))
theorem fl_X7_277 : Cond.fieldLink RX7 277 (TX7 25).1 (TX7 25).2.1 (TX7 25).2.2.1 ∈ tws := (tws_of (List.mem_of_getElem? (i := 908) (by decide +kernel)) (by decide +kernel))
theorem cd_X6_row : Cond.code yX6_row cX6_row 4 (some .int) ∈ tws := (tws_of (List.mem_of_getElem? (i := 318) (by decide +kernel)) (by decide +kernel))
theorem im_X6_row : Cond.instanceMethod yX6_row ∈ tws := (tws_of (List.mem_of_getElem? (i := 316) (by decide +kernel)) (by decide +kernel))
theorem se_X6_row : Cond.selects RX6 yX6_row yX6_row ∈ tws := (tws_of (List.mem_of_getElem? (i := 317) (by decide +kernel)) (by decide +kernel))
theorem cd_X4_isRow : Cond.code yX4_isRow cX4_isRow 1 (some .boolean) ∈ tws := (tws_of (List.mem_of_getElem? (i := 321) (by decide +kernel)) (by decide +kernel))
theorem sm_X4_isRow : Cond.static yX4_isRow ∈ tws := (tws_of (List.mem_of_getElem? (i := 320) (by decide +kernel)) (by decide +kernel))
theorem cd_X4_isLane : Cond.code yX4_isLane cX4_isLane 1 (some .boolean) ∈ tws := (tws_of (List.mem_of_getElem? (i := 324) (by decide +kernel)) (by decide +kernel))
theorem sm_X4_isLane : Cond.static yX4_isLane ∈ tws := (tws_of (List.mem_of_getElem? (i := 323) (by decide +kernel)) (by decide +kernel))
theorem cd_X6_found : Cond.code yX6_found cX6_found 2 (some .int) ∈ tws := (tws_of (List.mem_of_getElem? (i := 329) (by decide +kernel)) (by decide +kernel))
theorem im_X6_found : Cond.instanceMethod yX6_found ∈ tws := (tws_of (List.mem_of_getElem? (i := 328) (by decide +kernel)) (by decide +kernel))
theorem se_X6_found : Cond.selects RX6 yX6_found yX6_found ∈ tws := (tws_of (List.mem_of_getElem? (i := 0) (by decide +kernel)) (by decide +kernel))
theorem cd_X4_make : Cond.code yX4_make cX4_make 5 none ∈ tws := (tws_of (List.mem_of_getElem? (i := 334) (by decide +kernel)) (by decide +kernel))
theorem im_X4_make : Cond.instanceMethod yX4_make ∈ tws := (tws_of (List.mem_of_getElem? (i := 332) (by decide +kernel)) (by decide +kernel))
theorem se_X4_make : Cond.selects RX4 yX4_make yX4_make ∈ tws := (tws_of (List.mem_of_getElem? (i := 333) (by decide +kernel)) (by decide +kernel))
theorem cd_X6_foundNothing : Cond.code yX6_foundNothing cX6_foundNothing 2 (some .int) ∈ tws := (tws_of (List.mem_of_getElem? (i := 339) (by decide +kernel)) (by decide +kernel))
theorem im_X6_foundNothing : Cond.instanceMethod yX6_foundNothing ∈ tws := (tws_of (List.mem_of_getElem? (i := 338) (by decide +kernel)) (by decide +kernel))
theorem se_X6_foundNothing : Cond.selects RX6 yX6_foundNothing yX6_foundNothing ∈ tws := (tws_of (List.mem_of_getElem? (i := 1) (by decide +kernel)) (by decide +kernel))
theorem cd_X6_set : Cond.code yX6_set cX6_set 5 (some .int) ∈ tws := (tws_of (List.mem_of_getElem? (i := 343) (by decide +kernel)) (by decide +kernel))
theorem im_X6_set : Cond.instanceMethod yX6_set ∈ tws := (tws_of (List.mem_of_getElem? (i := 341) (by decide +kernel)) (by decide +kernel))
theorem se_X6_set : Cond.selects RX6 yX6_set yX6_set ∈ tws := (tws_of (List.mem_of_getElem? (i := 342) (by decide +kernel)) (by decide +kernel))
theorem cd_X4_findingAt : Cond.code yX4_findingAt cX4_findingAt 5 (some .int) ∈ tws := (tws_of (List.mem_of_getElem? (i := 347) (by decide +kernel)) (by decide +kernel))
theorem im_X4_findingAt : Cond.instanceMethod yX4_findingAt ∈ tws := (tws_of (List.mem_of_getElem? (i := 345) (by decide +kernel)) (by decide +kernel))
theorem se_X4_findingAt : Cond.selects RX4 yX4_findingAt yX4_findingAt ∈ tws := (tws_of (List.mem_of_getElem? (i := 346) (by decide +kernel)) (by decide +kernel))
theorem cd_X4_isMissing : Cond.code yX4_isMissing cX4_isMissing 2 (some .boolean) ∈ tws := (tws_of (List.mem_of_getElem? (i := 351) (by decide +kernel)) (by decide +kernel))
theorem im_X4_isMissing : Cond.instanceMethod yX4_isMissing ∈ tws := (tws_of (List.mem_of_getElem? (i := 349) (by decide +kernel)) (by decide +kernel))
theorem se_X4_isMissing : Cond.selects RX4 yX4_isMissing yX4_isMissing ∈ tws := (tws_of (List.mem_of_getElem? (i := 350) (by decide +kernel)) (by decide +kernel))
theorem cd_X4_put : Cond.code yX4_put cX4_put 5 (some .int) ∈ tws := (tws_of (List.mem_of_getElem? (i := 355) (by decide +kernel)) (by decide +kernel))
theorem im_X4_put : Cond.instanceMethod yX4_put ∈ tws := (tws_of (List.mem_of_getElem? (i := 353) (by decide +kernel)) (by decide +kernel))
theorem se_X4_put : Cond.selects RX4 yX4_put yX4_put ∈ tws := (tws_of (List.mem_of_getElem? (i := 354) (by decide +kernel)) (by decide +kernel))
theorem cd_X6_copy : Cond.code yX6_copy cX6_copy 7 (some .int) ∈ tws := (tws_of (List.mem_of_getElem? (i := 360) (by decide +kernel)) (by decide +kernel))
theorem im_X6_copy : Cond.instanceMethod yX6_copy ∈ tws := (tws_of (List.mem_of_getElem? (i := 358) (by decide +kernel)) (by decide +kernel))
theorem se_X6_copy : Cond.selects RX6 yX6_copy yX6_copy ∈ tws := (tws_of (List.mem_of_getElem? (i := 359) (by decide +kernel)) (by decide +kernel))
theorem cd_X4_findingOfCopy : Cond.code yX4_findingOfCopy cX4_findingOfCopy 7 (some .int) ∈ tws := (tws_of (List.mem_of_getElem? (i := 364) (by decide +kernel)) (by decide +kernel))
theorem im_X4_findingOfCopy : Cond.instanceMethod yX4_findingOfCopy ∈ tws := (tws_of (List.mem_of_getElem? (i := 362) (by decide +kernel)) (by decide +kernel))
theorem se_X4_findingOfCopy : Cond.selects RX4 yX4_findingOfCopy yX4_findingOfCopy ∈ tws := (tws_of (List.mem_of_getElem? (i := 363) (by decide +kernel)) (by decide +kernel))
theorem cd_X4_shift : Cond.code yX4_shift cX4_shift 6 none ∈ tws := (tws_of (List.mem_of_getElem? (i := 368) (by decide +kernel)) (by decide +kernel))
theorem im_X4_shift : Cond.instanceMethod yX4_shift ∈ tws := (tws_of (List.mem_of_getElem? (i := 366) (by decide +kernel)) (by decide +kernel))
theorem se_X4_shift : Cond.selects RX4 yX4_shift yX4_shift ∈ tws := (tws_of (List.mem_of_getElem? (i := 367) (by decide +kernel)) (by decide +kernel))
theorem cd_X6_drop : Cond.code yX6_drop cX6_drop 2 (some .int) ∈ tws := (tws_of (List.mem_of_getElem? (i := 376) (by decide +kernel)) (by decide +kernel))
theorem im_X6_drop : Cond.instanceMethod yX6_drop ∈ tws := (tws_of (List.mem_of_getElem? (i := 374) (by decide +kernel)) (by decide +kernel))
theorem se_X6_drop : Cond.selects RX6 yX6_drop yX6_drop ∈ tws := (tws_of (List.mem_of_getElem? (i := 375) (by decide +kernel)) (by decide +kernel))
theorem cd_X4_remove : Cond.code yX4_remove cX4_remove 2 (some .int) ∈ tws := (tws_of (List.mem_of_getElem? (i := 381) (by decide +kernel)) (by decide +kernel))
theorem im_X4_remove : Cond.instanceMethod yX4_remove ∈ tws := (tws_of (List.mem_of_getElem? (i := 379) (by decide +kernel)) (by decide +kernel))
theorem se_X4_remove : Cond.selects RX4 yX4_remove yX4_remove ∈ tws := (tws_of (List.mem_of_getElem? (i := 380) (by decide +kernel)) (by decide +kernel))
theorem cd_X6_feed : Cond.code yX6_feed cX6_feed 2 (some .int) ∈ tws := (tws_of (List.mem_of_getElem? (i := 385) (by decide +kernel)) (by decide +kernel))
theorem im_X6_feed : Cond.instanceMethod yX6_feed ∈ tws := (tws_of (List.mem_of_getElem? (i := 383) (by decide +kernel)) (by decide +kernel))
theorem se_X6_feed : Cond.selects RX6 yX6_feed yX6_feed ∈ tws := (tws_of (List.mem_of_getElem? (i := 384) (by decide +kernel)) (by decide +kernel))
theorem cd_X6_isWithin : Cond.code yX6_isWithin cX6_isWithin 3 (some .boolean) ∈ tws := (tws_of (List.mem_of_getElem? (i := 388) (by decide +kernel)) (by decide +kernel))
theorem sm_X6_isWithin : Cond.static yX6_isWithin ∈ tws := (tws_of (List.mem_of_getElem? (i := 387) (by decide +kernel)) (by decide +kernel))
theorem cd_X5_add : Cond.code yX5_add cX5_add 2 (some .boolean) ∈ tws := (tws_of (List.mem_of_getElem? (i := 392) (by decide +kernel)) (by decide +kernel))
theorem im_X5_add : Cond.instanceMethod yX5_add ∈ tws := (tws_of (List.mem_of_getElem? (i := 390) (by decide +kernel)) (by decide +kernel))
theorem se_X5_add : Cond.selects RX5 yX5_add yX5_add ∈ tws := (tws_of (List.mem_of_getElem? (i := 391) (by decide +kernel)) (by decide +kernel))
theorem cd_X6_library : Cond.code yX6_library cX6_library 2 (some .int) ∈ tws := (tws_of (List.mem_of_getElem? (i := 397) (by decide +kernel)) (by decide +kernel))
theorem im_X6_library : Cond.instanceMethod yX6_library ∈ tws := (tws_of (List.mem_of_getElem? (i := 395) (by decide +kernel)) (by decide +kernel))
theorem se_X6_library : Cond.selects RX6 yX6_library yX6_library ∈ tws := (tws_of (List.mem_of_getElem? (i := 396) (by decide +kernel)) (by decide +kernel))
theorem cd_X5_readInto : Cond.code yX5_readInto cX5_readInto 2 (some .int) ∈ tws := (tws_of (List.mem_of_getElem? (i := 401) (by decide +kernel)) (by decide +kernel))
theorem im_X5_readInto : Cond.instanceMethod yX5_readInto ∈ tws := (tws_of (List.mem_of_getElem? (i := 399) (by decide +kernel)) (by decide +kernel))
theorem se_X5_readInto : Cond.selects RX5 yX5_readInto yX5_readInto ∈ tws := (tws_of (List.mem_of_getElem? (i := 400) (by decide +kernel)) (by decide +kernel))
theorem cd_X3_clear : Cond.code yX3_clear cX3_clear 1 none ∈ tws := (tws_of (List.mem_of_getElem? (i := 405) (by decide +kernel)) (by decide +kernel))
theorem im_X3_clear : Cond.instanceMethod yX3_clear ∈ tws := (tws_of (List.mem_of_getElem? (i := 403) (by decide +kernel)) (by decide +kernel))
theorem se_X3_clear : Cond.selects RX3 yX3_clear yX3_clear ∈ tws := (tws_of (List.mem_of_getElem? (i := 404) (by decide +kernel)) (by decide +kernel))
theorem cd_X5_readLaw : Cond.code yX5_readLaw cX5_readLaw 2 none ∈ tws := (tws_of (List.mem_of_getElem? (i := 409) (by decide +kernel)) (by decide +kernel))
theorem im_X5_readLaw : Cond.instanceMethod yX5_readLaw ∈ tws := (tws_of (List.mem_of_getElem? (i := 408) (by decide +kernel)) (by decide +kernel))
theorem se_X5_readLaw : Cond.selects RX5 yX5_readLaw yX5_readLaw ∈ tws := (tws_of (List.mem_of_getElem? (i := 2) (by decide +kernel)) (by decide +kernel))
theorem cd_X5_pass : Cond.code yX5_pass cX5_pass 2 none ∈ tws := (tws_of (List.mem_of_getElem? (i := 413) (by decide +kernel)) (by decide +kernel))
theorem im_X5_pass : Cond.instanceMethod yX5_pass ∈ tws := (tws_of (List.mem_of_getElem? (i := 412) (by decide +kernel)) (by decide +kernel))
theorem se_X5_pass : Cond.selects RX5 yX5_pass yX5_pass ∈ tws := (tws_of (List.mem_of_getElem? (i := 3) (by decide +kernel)) (by decide +kernel))
theorem cd_X5_next : Cond.code yX5_next cX5_next 1 (some .int) ∈ tws := (tws_of (List.mem_of_getElem? (i := 417) (by decide +kernel)) (by decide +kernel))
theorem im_X5_next : Cond.instanceMethod yX5_next ∈ tws := (tws_of (List.mem_of_getElem? (i := 416) (by decide +kernel)) (by decide +kernel))
theorem se_X5_next : Cond.selects RX5 yX5_next yX5_next ∈ tws := (tws_of (List.mem_of_getElem? (i := 4) (by decide +kernel)) (by decide +kernel))
theorem cd_X5_isFine : Cond.code yX5_isFine cX5_isFine 1 (some .boolean) ∈ tws := (tws_of (List.mem_of_getElem? (i := 421) (by decide +kernel)) (by decide +kernel))
theorem im_X5_isFine : Cond.instanceMethod yX5_isFine ∈ tws := (tws_of (List.mem_of_getElem? (i := 420) (by decide +kernel)) (by decide +kernel))
theorem se_X5_isFine : Cond.selects RX5 yX5_isFine yX5_isFine ∈ tws := (tws_of (List.mem_of_getElem? (i := 5) (by decide +kernel)) (by decide +kernel))
theorem cd_X5_fail : Cond.code yX5_fail cX5_fail 2 none ∈ tws := (tws_of (List.mem_of_getElem? (i := 425) (by decide +kernel)) (by decide +kernel))
theorem im_X5_fail : Cond.instanceMethod yX5_fail ∈ tws := (tws_of (List.mem_of_getElem? (i := 424) (by decide +kernel)) (by decide +kernel))
theorem se_X5_fail : Cond.selects RX5 yX5_fail yX5_fail ∈ tws := (tws_of (List.mem_of_getElem? (i := 6) (by decide +kernel)) (by decide +kernel))
theorem cd_X5_number : Cond.code yX5_number cX5_number 7 (some .int) ∈ tws := (tws_of (List.mem_of_getElem? (i := 429) (by decide +kernel)) (by decide +kernel))
theorem im_X5_number : Cond.instanceMethod yX5_number ∈ tws := (tws_of (List.mem_of_getElem? (i := 428) (by decide +kernel)) (by decide +kernel))
theorem se_X5_number : Cond.selects RX5 yX5_number yX5_number ∈ tws := (tws_of (List.mem_of_getElem? (i := 7) (by decide +kernel)) (by decide +kernel))
theorem cd_X5_isFigure : Cond.code yX5_isFigure cX5_isFigure 1 (some .boolean) ∈ tws := (tws_of (List.mem_of_getElem? (i := 432) (by decide +kernel)) (by decide +kernel))
theorem sm_X5_isFigure : Cond.static yX5_isFigure ∈ tws := (tws_of (List.mem_of_getElem? (i := 431) (by decide +kernel)) (by decide +kernel))
theorem cd_X5_readBooks : Cond.code yX5_readBooks cX5_readBooks 5 none ∈ tws := (tws_of (List.mem_of_getElem? (i := 436) (by decide +kernel)) (by decide +kernel))
theorem im_X5_readBooks : Cond.instanceMethod yX5_readBooks ∈ tws := (tws_of (List.mem_of_getElem? (i := 435) (by decide +kernel)) (by decide +kernel))
theorem se_X5_readBooks : Cond.selects RX5 yX5_readBooks yX5_readBooks ∈ tws := (tws_of (List.mem_of_getElem? (i := 8) (by decide +kernel)) (by decide +kernel))
theorem cd_X3_addBook : Cond.code yX3_addBook cX3_addBook 3 none ∈ tws := (tws_of (List.mem_of_getElem? (i := 440) (by decide +kernel)) (by decide +kernel))
theorem im_X3_addBook : Cond.instanceMethod yX3_addBook ∈ tws := (tws_of (List.mem_of_getElem? (i := 438) (by decide +kernel)) (by decide +kernel))
theorem se_X3_addBook : Cond.selects RX3 yX3_addBook yX3_addBook ∈ tws := (tws_of (List.mem_of_getElem? (i := 439) (by decide +kernel)) (by decide +kernel))
theorem cd_X5_readFish : Cond.code yX5_readFish cX5_readFish 5 none ∈ tws := (tws_of (List.mem_of_getElem? (i := 444) (by decide +kernel)) (by decide +kernel))
theorem im_X5_readFish : Cond.instanceMethod yX5_readFish ∈ tws := (tws_of (List.mem_of_getElem? (i := 443) (by decide +kernel)) (by decide +kernel))
theorem se_X5_readFish : Cond.selects RX5 yX5_readFish yX5_readFish ∈ tws := (tws_of (List.mem_of_getElem? (i := 9) (by decide +kernel)) (by decide +kernel))
theorem cd_X5_kindOfSort : Cond.code yX5_kindOfSort cX5_kindOfSort 1 (some .int) ∈ tws := (tws_of (List.mem_of_getElem? (i := 447) (by decide +kernel)) (by decide +kernel))
theorem sm_X5_kindOfSort : Cond.static yX5_kindOfSort ∈ tws := (tws_of (List.mem_of_getElem? (i := 446) (by decide +kernel)) (by decide +kernel))
theorem cd_X3_addFish : Cond.code yX3_addFish cX3_addFish 3 none ∈ tws := (tws_of (List.mem_of_getElem? (i := 451) (by decide +kernel)) (by decide +kernel))
theorem im_X3_addFish : Cond.instanceMethod yX3_addFish ∈ tws := (tws_of (List.mem_of_getElem? (i := 449) (by decide +kernel)) (by decide +kernel))
theorem se_X3_addFish : Cond.selects RX3 yX3_addFish yX3_addFish ∈ tws := (tws_of (List.mem_of_getElem? (i := 450) (by decide +kernel)) (by decide +kernel))
theorem cd_X3_take : Cond.code yX3_take cX3_take 3 none ∈ tws := (tws_of (List.mem_of_getElem? (i := 457) (by decide +kernel)) (by decide +kernel))
theorem im_X3_take : Cond.instanceMethod yX3_take ∈ tws := (tws_of (List.mem_of_getElem? (i := 455) (by decide +kernel)) (by decide +kernel))
theorem se_X3_take : Cond.selects RX3 yX3_take yX3_take ∈ tws := (tws_of (List.mem_of_getElem? (i := 456) (by decide +kernel)) (by decide +kernel))
theorem cd_X0_forget : Cond.code yX0_forget cX0_forget 1 none ∈ tws := (tws_of (List.mem_of_getElem? (i := 461) (by decide +kernel)) (by decide +kernel))
theorem im_X0_forget : Cond.instanceMethod yX0_forget ∈ tws := (tws_of (List.mem_of_getElem? (i := 459) (by decide +kernel)) (by decide +kernel))
theorem se_X0_forget : Cond.selects RX0 yX0_forget yX0_forget ∈ tws := (tws_of (List.mem_of_getElem? (i := 460) (by decide +kernel)) (by decide +kernel))
theorem cd_X6_fault : Cond.code yX6_fault cX6_fault 1 (some .int) ∈ tws := (tws_of (List.mem_of_getElem? (i := 465) (by decide +kernel)) (by decide +kernel))
theorem im_X6_fault : Cond.instanceMethod yX6_fault ∈ tws := (tws_of (List.mem_of_getElem? (i := 463) (by decide +kernel)) (by decide +kernel))
theorem se_X6_fault : Cond.selects RX6 yX6_fault yX6_fault ∈ tws := (tws_of (List.mem_of_getElem? (i := 464) (by decide +kernel)) (by decide +kernel))
theorem cd_X6_undo : Cond.code yX6_undo cX6_undo 1 (some .int) ∈ tws := (tws_of (List.mem_of_getElem? (i := 469) (by decide +kernel)) (by decide +kernel))
theorem im_X6_undo : Cond.instanceMethod yX6_undo ∈ tws := (tws_of (List.mem_of_getElem? (i := 467) (by decide +kernel)) (by decide +kernel))
theorem se_X6_undo : Cond.selects RX6 yX6_undo yX6_undo ∈ tws := (tws_of (List.mem_of_getElem? (i := 468) (by decide +kernel)) (by decide +kernel))
theorem cd_X0_bringBack : Cond.code yX0_bringBack cX0_bringBack 4 none ∈ tws := (tws_of (List.mem_of_getElem? (i := 474) (by decide +kernel)) (by decide +kernel))
theorem im_X0_bringBack : Cond.instanceMethod yX0_bringBack ∈ tws := (tws_of (List.mem_of_getElem? (i := 472) (by decide +kernel)) (by decide +kernel))
theorem se_X0_bringBack : Cond.selects RX0 yX0_bringBack yX0_bringBack ∈ tws := (tws_of (List.mem_of_getElem? (i := 473) (by decide +kernel)) (by decide +kernel))
theorem cd_X0_slotAt : Cond.code yX0_slotAt cX0_slotAt 2 (some (.object RX3)) ∈ tws := (tws_of (List.mem_of_getElem? (i := 478) (by decide +kernel)) (by decide +kernel))
theorem im_X0_slotAt : Cond.instanceMethod yX0_slotAt ∈ tws := (tws_of (List.mem_of_getElem? (i := 477) (by decide +kernel)) (by decide +kernel))
theorem se_X0_slotAt : Cond.selects RX0 yX0_slotAt yX0_slotAt ∈ tws := (tws_of (List.mem_of_getElem? (i := 10) (by decide +kernel)) (by decide +kernel))
theorem cd_X6_nights : Cond.code yX6_nights cX6_nights 3 (some .int) ∈ tws := (tws_of (List.mem_of_getElem? (i := 483) (by decide +kernel)) (by decide +kernel))
theorem im_X6_nights : Cond.instanceMethod yX6_nights ∈ tws := (tws_of (List.mem_of_getElem? (i := 481) (by decide +kernel)) (by decide +kernel))
theorem se_X6_nights : Cond.selects RX6 yX6_nights yX6_nights ∈ tws := (tws_of (List.mem_of_getElem? (i := 482) (by decide +kernel)) (by decide +kernel))
theorem cd_X3_isTold : Cond.code yX3_isTold cX3_isTold 1 (some .boolean) ∈ tws := (tws_of (List.mem_of_getElem? (i := 487) (by decide +kernel)) (by decide +kernel))
theorem im_X3_isTold : Cond.instanceMethod yX3_isTold ∈ tws := (tws_of (List.mem_of_getElem? (i := 485) (by decide +kernel)) (by decide +kernel))
theorem se_X3_isTold : Cond.selects RX3 yX3_isTold yX3_isTold ∈ tws := (tws_of (List.mem_of_getElem? (i := 486) (by decide +kernel)) (by decide +kernel))
theorem cd_X0_remember : Cond.code yX0_remember cX0_remember 3 none ∈ tws := (tws_of (List.mem_of_getElem? (i := 491) (by decide +kernel)) (by decide +kernel))
theorem im_X0_remember : Cond.instanceMethod yX0_remember ∈ tws := (tws_of (List.mem_of_getElem? (i := 489) (by decide +kernel)) (by decide +kernel))
theorem se_X0_remember : Cond.selects RX0 yX0_remember yX0_remember ∈ tws := (tws_of (List.mem_of_getElem? (i := 490) (by decide +kernel)) (by decide +kernel))
theorem cd_J9_min_7cf53 : Cond.code yJ9_min_7cf53 cJ9_min_7cf53 2 (some .int) ∈ tws := (tws_of (List.mem_of_getElem? (i := 494) (by decide +kernel)) (by decide +kernel))
theorem sm_J9_min_7cf53 : Cond.static yJ9_min_7cf53 ∈ tws := (tws_of (List.mem_of_getElem? (i := 493) (by decide +kernel)) (by decide +kernel))
theorem cd_X3_passNight : Cond.code yX3_passNight cX3_passNight 2 none ∈ tws := (tws_of (List.mem_of_getElem? (i := 498) (by decide +kernel)) (by decide +kernel))
theorem im_X3_passNight : Cond.instanceMethod yX3_passNight ∈ tws := (tws_of (List.mem_of_getElem? (i := 496) (by decide +kernel)) (by decide +kernel))
theorem se_X3_passNight : Cond.selects RX3 yX3_passNight yX3_passNight ∈ tws := (tws_of (List.mem_of_getElem? (i := 497) (by decide +kernel)) (by decide +kernel))
theorem cd_X3_isCaught : Cond.code yX3_isCaught cX3_isCaught 2 (some .boolean) ∈ tws := (tws_of (List.mem_of_getElem? (i := 502) (by decide +kernel)) (by decide +kernel))
theorem im_X3_isCaught : Cond.instanceMethod yX3_isCaught ∈ tws := (tws_of (List.mem_of_getElem? (i := 500) (by decide +kernel)) (by decide +kernel))
theorem se_X3_isCaught : Cond.selects RX3 yX3_isCaught yX3_isCaught ∈ tws := (tws_of (List.mem_of_getElem? (i := 501) (by decide +kernel)) (by decide +kernel))
theorem cd_X3_nextPlace : Cond.code yX3_nextPlace cX3_nextPlace 5 (some .int) ∈ tws := (tws_of (List.mem_of_getElem? (i := 506) (by decide +kernel)) (by decide +kernel))
theorem im_X3_nextPlace : Cond.instanceMethod yX3_nextPlace ∈ tws := (tws_of (List.mem_of_getElem? (i := 505) (by decide +kernel)) (by decide +kernel))
theorem se_X3_nextPlace : Cond.selects RX3 yX3_nextPlace yX3_nextPlace ∈ tws := (tws_of (List.mem_of_getElem? (i := 11) (by decide +kernel)) (by decide +kernel))
theorem cd_X3_bookIn : Cond.code yX3_bookIn cX3_bookIn 2 (some .int) ∈ tws := (tws_of (List.mem_of_getElem? (i := 510) (by decide +kernel)) (by decide +kernel))
theorem im_X3_bookIn : Cond.instanceMethod yX3_bookIn ∈ tws := (tws_of (List.mem_of_getElem? (i := 508) (by decide +kernel)) (by decide +kernel))
theorem se_X3_bookIn : Cond.selects RX3 yX3_bookIn yX3_bookIn ∈ tws := (tws_of (List.mem_of_getElem? (i := 509) (by decide +kernel)) (by decide +kernel))
theorem cd_X3_isBook : Cond.code yX3_isBook cX3_isBook 2 (some .boolean) ∈ tws := (tws_of (List.mem_of_getElem? (i := 514) (by decide +kernel)) (by decide +kernel))
theorem im_X3_isBook : Cond.instanceMethod yX3_isBook ∈ tws := (tws_of (List.mem_of_getElem? (i := 512) (by decide +kernel)) (by decide +kernel))
theorem se_X3_isBook : Cond.selects RX3 yX3_isBook yX3_isBook ∈ tws := (tws_of (List.mem_of_getElem? (i := 513) (by decide +kernel)) (by decide +kernel))
theorem cd_X3_upFrom : Cond.code yX3_upFrom cX3_upFrom 3 (some .int) ∈ tws := (tws_of (List.mem_of_getElem? (i := 519) (by decide +kernel)) (by decide +kernel))
theorem im_X3_upFrom : Cond.instanceMethod yX3_upFrom ∈ tws := (tws_of (List.mem_of_getElem? (i := 518) (by decide +kernel)) (by decide +kernel))
theorem se_X3_upFrom : Cond.selects RX3 yX3_upFrom yX3_upFrom ∈ tws := (tws_of (List.mem_of_getElem? (i := 12) (by decide +kernel)) (by decide +kernel))
theorem cd_X3_isClosed : Cond.code yX3_isClosed cX3_isClosed 2 (some .boolean) ∈ tws := (tws_of (List.mem_of_getElem? (i := 523) (by decide +kernel)) (by decide +kernel))
theorem im_X3_isClosed : Cond.instanceMethod yX3_isClosed ∈ tws := (tws_of (List.mem_of_getElem? (i := 522) (by decide +kernel)) (by decide +kernel))
theorem se_X3_isClosed : Cond.selects RX3 yX3_isClosed yX3_isClosed ∈ tws := (tws_of (List.mem_of_getElem? (i := 13) (by decide +kernel)) (by decide +kernel))
theorem cd_X3_likedPlace : Cond.code yX3_likedPlace cX3_likedPlace 9 (some .int) ∈ tws := (tws_of (List.mem_of_getElem? (i := 527) (by decide +kernel)) (by decide +kernel))
theorem im_X3_likedPlace : Cond.instanceMethod yX3_likedPlace ∈ tws := (tws_of (List.mem_of_getElem? (i := 525) (by decide +kernel)) (by decide +kernel))
theorem se_X3_likedPlace : Cond.selects RX3 yX3_likedPlace yX3_likedPlace ∈ tws := (tws_of (List.mem_of_getElem? (i := 526) (by decide +kernel)) (by decide +kernel))
theorem cd_J9_abs_0f7a4 : Cond.code yJ9_abs_0f7a4 cJ9_abs_0f7a4 1 (some .int) ∈ tws := (tws_of (List.mem_of_getElem? (i := 530) (by decide +kernel)) (by decide +kernel))
theorem sm_J9_abs_0f7a4 : Cond.static yJ9_abs_0f7a4 ∈ tws := (tws_of (List.mem_of_getElem? (i := 529) (by decide +kernel)) (by decide +kernel))
theorem cd_X3_towards : Cond.code yX3_towards cX3_towards 2 (some .int) ∈ tws := (tws_of (List.mem_of_getElem? (i := 533) (by decide +kernel)) (by decide +kernel))
theorem sm_X3_towards : Cond.static yX3_towards ∈ tws := (tws_of (List.mem_of_getElem? (i := 532) (by decide +kernel)) (by decide +kernel))
theorem cd_X3_eat : Cond.code yX3_eat cX3_eat 4 none ∈ tws := (tws_of (List.mem_of_getElem? (i := 537) (by decide +kernel)) (by decide +kernel))
theorem im_X3_eat : Cond.instanceMethod yX3_eat ∈ tws := (tws_of (List.mem_of_getElem? (i := 536) (by decide +kernel)) (by decide +kernel))
theorem se_X3_eat : Cond.selects RX3 yX3_eat yX3_eat ∈ tws := (tws_of (List.mem_of_getElem? (i := 14) (by decide +kernel)) (by decide +kernel))
theorem cd_X3_dampen : Cond.code yX3_dampen cX3_dampen 2 none ∈ tws := (tws_of (List.mem_of_getElem? (i := 542) (by decide +kernel)) (by decide +kernel))
theorem im_X3_dampen : Cond.instanceMethod yX3_dampen ∈ tws := (tws_of (List.mem_of_getElem? (i := 541) (by decide +kernel)) (by decide +kernel))
theorem se_X3_dampen : Cond.selects RX3 yX3_dampen yX3_dampen ∈ tws := (tws_of (List.mem_of_getElem? (i := 15) (by decide +kernel)) (by decide +kernel))
theorem cd_X3_pagesOfAll : Cond.code yX3_pagesOfAll cX3_pagesOfAll 1 (some .int) ∈ tws := (tws_of (List.mem_of_getElem? (i := 546) (by decide +kernel)) (by decide +kernel))
theorem im_X3_pagesOfAll : Cond.instanceMethod yX3_pagesOfAll ∈ tws := (tws_of (List.mem_of_getElem? (i := 544) (by decide +kernel)) (by decide +kernel))
theorem se_X3_pagesOfAll : Cond.selects RX3 yX3_pagesOfAll yX3_pagesOfAll ∈ tws := (tws_of (List.mem_of_getElem? (i := 545) (by decide +kernel)) (by decide +kernel))
theorem cd_X3_allBooks : Cond.code yX3_allBooks cX3_allBooks 1 (some .int) ∈ tws := (tws_of (List.mem_of_getElem? (i := 550) (by decide +kernel)) (by decide +kernel))
theorem im_X3_allBooks : Cond.instanceMethod yX3_allBooks ∈ tws := (tws_of (List.mem_of_getElem? (i := 548) (by decide +kernel)) (by decide +kernel))
theorem se_X3_allBooks : Cond.selects RX3 yX3_allBooks yX3_allBooks ∈ tws := (tws_of (List.mem_of_getElem? (i := 549) (by decide +kernel)) (by decide +kernel))
theorem cd_X3_pagesOf : Cond.code yX3_pagesOf cX3_pagesOf 4 (some .int) ∈ tws := (tws_of (List.mem_of_getElem? (i := 554) (by decide +kernel)) (by decide +kernel))
theorem im_X3_pagesOf : Cond.instanceMethod yX3_pagesOf ∈ tws := (tws_of (List.mem_of_getElem? (i := 552) (by decide +kernel)) (by decide +kernel))
theorem se_X3_pagesOf : Cond.selects RX3 yX3_pagesOf yX3_pagesOf ∈ tws := (tws_of (List.mem_of_getElem? (i := 553) (by decide +kernel)) (by decide +kernel))
theorem cd_X6_light : Cond.code yX6_light cX6_light 3 (some .int) ∈ tws := (tws_of (List.mem_of_getElem? (i := 558) (by decide +kernel)) (by decide +kernel))
theorem im_X6_light : Cond.instanceMethod yX6_light ∈ tws := (tws_of (List.mem_of_getElem? (i := 556) (by decide +kernel)) (by decide +kernel))
theorem se_X6_light : Cond.selects RX6 yX6_light yX6_light ∈ tws := (tws_of (List.mem_of_getElem? (i := 557) (by decide +kernel)) (by decide +kernel))
theorem cd_X6_bitOf : Cond.code yX6_bitOf cX6_bitOf 2 (some .int) ∈ tws := (tws_of (List.mem_of_getElem? (i := 562) (by decide +kernel)) (by decide +kernel))
theorem sm_X6_bitOf : Cond.static yX6_bitOf ∈ tws := (tws_of (List.mem_of_getElem? (i := 561) (by decide +kernel)) (by decide +kernel))
theorem cd_J6_bitCount_0f7a4 : Cond.code yJ6_bitCount_0f7a4 cJ6_bitCount_0f7a4 1 (some .int) ∈ tws := (tws_of (List.mem_of_getElem? (i := 565) (by decide +kernel)) (by decide +kernel))
theorem sm_J6_bitCount_0f7a4 : Cond.static yJ6_bitCount_0f7a4 ∈ tws := (tws_of (List.mem_of_getElem? (i := 564) (by decide +kernel)) (by decide +kernel))
theorem cd_X6_keepIt : Cond.code yX6_keepIt cX6_keepIt 3 (some .int) ∈ tws := (tws_of (List.mem_of_getElem? (i := 572) (by decide +kernel)) (by decide +kernel))
theorem im_X6_keepIt : Cond.instanceMethod yX6_keepIt ∈ tws := (tws_of (List.mem_of_getElem? (i := 570) (by decide +kernel)) (by decide +kernel))
theorem se_X6_keepIt : Cond.selects RX6 yX6_keepIt yX6_keepIt ∈ tws := (tws_of (List.mem_of_getElem? (i := 571) (by decide +kernel)) (by decide +kernel))
theorem cd_X6_change : Cond.code yX6_change cX6_change 5 (some .int) ∈ tws := (tws_of (List.mem_of_getElem? (i := 576) (by decide +kernel)) (by decide +kernel))
theorem im_X6_change : Cond.instanceMethod yX6_change ∈ tws := (tws_of (List.mem_of_getElem? (i := 574) (by decide +kernel)) (by decide +kernel))
theorem se_X6_change : Cond.selects RX6 yX6_change yX6_change ∈ tws := (tws_of (List.mem_of_getElem? (i := 575) (by decide +kernel)) (by decide +kernel))
theorem cd_X3_put : Cond.code yX3_put cX3_put 3 none ∈ tws := (tws_of (List.mem_of_getElem? (i := 580) (by decide +kernel)) (by decide +kernel))
theorem im_X3_put : Cond.instanceMethod yX3_put ∈ tws := (tws_of (List.mem_of_getElem? (i := 578) (by decide +kernel)) (by decide +kernel))
theorem se_X3_put : Cond.selects RX3 yX3_put yX3_put ∈ tws := (tws_of (List.mem_of_getElem? (i := 579) (by decide +kernel)) (by decide +kernel))
theorem cd_X3_isPlace : Cond.code yX3_isPlace cX3_isPlace 2 (some .boolean) ∈ tws := (tws_of (List.mem_of_getElem? (i := 584) (by decide +kernel)) (by decide +kernel))
theorem im_X3_isPlace : Cond.instanceMethod yX3_isPlace ∈ tws := (tws_of (List.mem_of_getElem? (i := 582) (by decide +kernel)) (by decide +kernel))
theorem se_X3_isPlace : Cond.selects RX3 yX3_isPlace yX3_isPlace ∈ tws := (tws_of (List.mem_of_getElem? (i := 583) (by decide +kernel)) (by decide +kernel))
theorem cd_X6_move : Cond.code yX6_move cX6_move 4 (some .int) ∈ tws := (tws_of (List.mem_of_getElem? (i := 588) (by decide +kernel)) (by decide +kernel))
theorem im_X6_move : Cond.instanceMethod yX6_move ∈ tws := (tws_of (List.mem_of_getElem? (i := 586) (by decide +kernel)) (by decide +kernel))
theorem se_X6_move : Cond.selects RX6 yX6_move yX6_move ∈ tws := (tws_of (List.mem_of_getElem? (i := 587) (by decide +kernel)) (by decide +kernel))
theorem cd_X3_isFish : Cond.code yX3_isFish cX3_isFish 2 (some .boolean) ∈ tws := (tws_of (List.mem_of_getElem? (i := 592) (by decide +kernel)) (by decide +kernel))
theorem im_X3_isFish : Cond.instanceMethod yX3_isFish ∈ tws := (tws_of (List.mem_of_getElem? (i := 590) (by decide +kernel)) (by decide +kernel))
theorem se_X3_isFish : Cond.selects RX3 yX3_isFish yX3_isFish ∈ tws := (tws_of (List.mem_of_getElem? (i := 591) (by decide +kernel)) (by decide +kernel))
theorem cd_X6_catchIt : Cond.code yX6_catchIt cX6_catchIt 2 (some .int) ∈ tws := (tws_of (List.mem_of_getElem? (i := 598) (by decide +kernel)) (by decide +kernel))
theorem im_X6_catchIt : Cond.instanceMethod yX6_catchIt ∈ tws := (tws_of (List.mem_of_getElem? (i := 596) (by decide +kernel)) (by decide +kernel))
theorem se_X6_catchIt : Cond.selects RX6 yX6_catchIt yX6_catchIt ∈ tws := (tws_of (List.mem_of_getElem? (i := 597) (by decide +kernel)) (by decide +kernel))
theorem cd_X6_book : Cond.code yX6_book cX6_book 3 (some .int) ∈ tws := (tws_of (List.mem_of_getElem? (i := 602) (by decide +kernel)) (by decide +kernel))
theorem im_X6_book : Cond.instanceMethod yX6_book ∈ tws := (tws_of (List.mem_of_getElem? (i := 600) (by decide +kernel)) (by decide +kernel))
theorem se_X6_book : Cond.selects RX6 yX6_book yX6_book ∈ tws := (tws_of (List.mem_of_getElem? (i := 601) (by decide +kernel)) (by decide +kernel))
theorem cd_X3_fishIn : Cond.code yX3_fishIn cX3_fishIn 4 (some .int) ∈ tws := (tws_of (List.mem_of_getElem? (i := 606) (by decide +kernel)) (by decide +kernel))
theorem im_X3_fishIn : Cond.instanceMethod yX3_fishIn ∈ tws := (tws_of (List.mem_of_getElem? (i := 604) (by decide +kernel)) (by decide +kernel))
theorem se_X3_fishIn : Cond.selects RX3 yX3_fishIn yX3_fishIn ∈ tws := (tws_of (List.mem_of_getElem? (i := 605) (by decide +kernel)) (by decide +kernel))
theorem cd_X6_fish : Cond.code yX6_fish cX6_fish 4 (some .int) ∈ tws := (tws_of (List.mem_of_getElem? (i := 610) (by decide +kernel)) (by decide +kernel))
theorem im_X6_fish : Cond.instanceMethod yX6_fish ∈ tws := (tws_of (List.mem_of_getElem? (i := 608) (by decide +kernel)) (by decide +kernel))
theorem se_X6_fish : Cond.selects RX6 yX6_fish yX6_fish ∈ tws := (tws_of (List.mem_of_getElem? (i := 609) (by decide +kernel)) (by decide +kernel))
theorem cd_X6_stand : Cond.code yX6_stand cX6_stand 2 (some .int) ∈ tws := (tws_of (List.mem_of_getElem? (i := 616) (by decide +kernel)) (by decide +kernel))
theorem im_X6_stand : Cond.instanceMethod yX6_stand ∈ tws := (tws_of (List.mem_of_getElem? (i := 614) (by decide +kernel)) (by decide +kernel))
theorem se_X6_stand : Cond.selects RX6 yX6_stand yX6_stand ∈ tws := (tws_of (List.mem_of_getElem? (i := 615) (by decide +kernel)) (by decide +kernel))
theorem cd_X6_ahead : Cond.code yX6_ahead cX6_ahead 5 (some .int) ∈ tws := (tws_of (List.mem_of_getElem? (i := 620) (by decide +kernel)) (by decide +kernel))
theorem im_X6_ahead : Cond.instanceMethod yX6_ahead ∈ tws := (tws_of (List.mem_of_getElem? (i := 618) (by decide +kernel)) (by decide +kernel))
theorem se_X6_ahead : Cond.selects RX6 yX6_ahead yX6_ahead ∈ tws := (tws_of (List.mem_of_getElem? (i := 619) (by decide +kernel)) (by decide +kernel))
theorem cd_X2_behind : Cond.code yX2_behind cX2_behind 3 (some (.object RX3)) ∈ tws := (tws_of (List.mem_of_getElem? (i := 624) (by decide +kernel)) (by decide +kernel))
theorem im_X2_behind : Cond.instanceMethod yX2_behind ∈ tws := (tws_of (List.mem_of_getElem? (i := 622) (by decide +kernel)) (by decide +kernel))
theorem se_X2_behind : Cond.selects RX2 yX2_behind yX2_behind ∈ tws := (tws_of (List.mem_of_getElem? (i := 623) (by decide +kernel)) (by decide +kernel))
theorem cd_X3_passNights : Cond.code yX3_passNights cX3_passNights 3 none ∈ tws := (tws_of (List.mem_of_getElem? (i := 629) (by decide +kernel)) (by decide +kernel))
theorem im_X3_passNights : Cond.instanceMethod yX3_passNights ∈ tws := (tws_of (List.mem_of_getElem? (i := 627) (by decide +kernel)) (by decide +kernel))
theorem se_X3_passNights : Cond.selects RX3 yX3_passNights yX3_passNights ∈ tws := (tws_of (List.mem_of_getElem? (i := 628) (by decide +kernel)) (by decide +kernel))
theorem cd_X6_later : Cond.code yX6_later cX6_later 5 (some .int) ∈ tws := (tws_of (List.mem_of_getElem? (i := 634) (by decide +kernel)) (by decide +kernel))
theorem im_X6_later : Cond.instanceMethod yX6_later ∈ tws := (tws_of (List.mem_of_getElem? (i := 632) (by decide +kernel)) (by decide +kernel))
theorem se_X6_later : Cond.selects RX6 yX6_later yX6_later ∈ tws := (tws_of (List.mem_of_getElem? (i := 633) (by decide +kernel)) (by decide +kernel))
theorem cd_X6_when : Cond.code yX6_when cX6_when 2 (some .int) ∈ tws := (tws_of (List.mem_of_getElem? (i := 638) (by decide +kernel)) (by decide +kernel))
theorem im_X6_when : Cond.instanceMethod yX6_when ∈ tws := (tws_of (List.mem_of_getElem? (i := 636) (by decide +kernel)) (by decide +kernel))
theorem se_X6_when : Cond.selects RX6 yX6_when yX6_when ∈ tws := (tws_of (List.mem_of_getElem? (i := 637) (by decide +kernel)) (by decide +kernel))
theorem cd_X2_nightsTillEmpty : Cond.code yX2_nightsTillEmpty cX2_nightsTillEmpty 4 (some .int) ∈ tws := (tws_of (List.mem_of_getElem? (i := 642) (by decide +kernel)) (by decide +kernel))
theorem im_X2_nightsTillEmpty : Cond.instanceMethod yX2_nightsTillEmpty ∈ tws := (tws_of (List.mem_of_getElem? (i := 640) (by decide +kernel)) (by decide +kernel))
theorem se_X2_nightsTillEmpty : Cond.selects RX2 yX2_nightsTillEmpty yX2_nightsTillEmpty ∈ tws := (tws_of (List.mem_of_getElem? (i := 641) (by decide +kernel)) (by decide +kernel))
theorem cd_X3_booksWithPages : Cond.code yX3_booksWithPages cX3_booksWithPages 3 (some .int) ∈ tws := (tws_of (List.mem_of_getElem? (i := 646) (by decide +kernel)) (by decide +kernel))
theorem im_X3_booksWithPages : Cond.instanceMethod yX3_booksWithPages ∈ tws := (tws_of (List.mem_of_getElem? (i := 644) (by decide +kernel)) (by decide +kernel))
theorem se_X3_booksWithPages : Cond.selects RX3 yX3_booksWithPages yX3_booksWithPages ∈ tws := (tws_of (List.mem_of_getElem? (i := 645) (by decide +kernel)) (by decide +kernel))
theorem cd_X6_first : Cond.code yX6_first cX6_first 4 (some .int) ∈ tws := (tws_of (List.mem_of_getElem? (i := 652) (by decide +kernel)) (by decide +kernel))
theorem im_X6_first : Cond.instanceMethod yX6_first ∈ tws := (tws_of (List.mem_of_getElem? (i := 650) (by decide +kernel)) (by decide +kernel))
theorem se_X6_first : Cond.selects RX6 yX6_first yX6_first ∈ tws := (tws_of (List.mem_of_getElem? (i := 651) (by decide +kernel)) (by decide +kernel))
theorem cd_X2_emptyOneOf : Cond.code yX2_emptyOneOf cX2_emptyOneOf 4 (some .int) ∈ tws := (tws_of (List.mem_of_getElem? (i := 657) (by decide +kernel)) (by decide +kernel))
theorem im_X2_emptyOneOf : Cond.instanceMethod yX2_emptyOneOf ∈ tws := (tws_of (List.mem_of_getElem? (i := 655) (by decide +kernel)) (by decide +kernel))
theorem se_X2_emptyOneOf : Cond.selects RX2 yX2_emptyOneOf yX2_emptyOneOf ∈ tws := (tws_of (List.mem_of_getElem? (i := 656) (by decide +kernel)) (by decide +kernel))
theorem cd_X6_hole : Cond.code yX6_hole cX6_hole 3 (some .int) ∈ tws := (tws_of (List.mem_of_getElem? (i := 661) (by decide +kernel)) (by decide +kernel))
theorem im_X6_hole : Cond.instanceMethod yX6_hole ∈ tws := (tws_of (List.mem_of_getElem? (i := 659) (by decide +kernel)) (by decide +kernel))
theorem se_X6_hole : Cond.selects RX6 yX6_hole yX6_hole ∈ tws := (tws_of (List.mem_of_getElem? (i := 660) (by decide +kernel)) (by decide +kernel))
theorem cd_X6_order : Cond.code yX6_order cX6_order 5 (some .int) ∈ tws := (tws_of (List.mem_of_getElem? (i := 665) (by decide +kernel)) (by decide +kernel))
theorem im_X6_order : Cond.instanceMethod yX6_order ∈ tws := (tws_of (List.mem_of_getElem? (i := 663) (by decide +kernel)) (by decide +kernel))
theorem se_X6_order : Cond.selects RX6 yX6_order yX6_order ∈ tws := (tws_of (List.mem_of_getElem? (i := 664) (by decide +kernel)) (by decide +kernel))
theorem cd_X2_bestOrder : Cond.code yX2_bestOrder cX2_bestOrder 7 (some .int) ∈ tws := (tws_of (List.mem_of_getElem? (i := 670) (by decide +kernel)) (by decide +kernel))
theorem im_X2_bestOrder : Cond.instanceMethod yX2_bestOrder ∈ tws := (tws_of (List.mem_of_getElem? (i := 668) (by decide +kernel)) (by decide +kernel))
theorem se_X2_bestOrder : Cond.selects RX2 yX2_bestOrder yX2_bestOrder ∈ tws := (tws_of (List.mem_of_getElem? (i := 669) (by decide +kernel)) (by decide +kernel))
theorem cd_X2_nextOrder : Cond.code yX2_nextOrder cX2_nextOrder 6 (some .boolean) ∈ tws := (tws_of (List.mem_of_getElem? (i := 678) (by decide +kernel)) (by decide +kernel))
theorem im_X2_nextOrder : Cond.instanceMethod yX2_nextOrder ∈ tws := (tws_of (List.mem_of_getElem? (i := 677) (by decide +kernel)) (by decide +kernel))
theorem se_X2_nextOrder : Cond.selects RX2 yX2_nextOrder yX2_nextOrder ∈ tws := (tws_of (List.mem_of_getElem? (i := 16) (by decide +kernel)) (by decide +kernel))
theorem cd_X2_swap : Cond.code yX2_swap cX2_swap 4 none ∈ tws := (tws_of (List.mem_of_getElem? (i := 682) (by decide +kernel)) (by decide +kernel))
theorem im_X2_swap : Cond.instanceMethod yX2_swap ∈ tws := (tws_of (List.mem_of_getElem? (i := 681) (by decide +kernel)) (by decide +kernel))
theorem se_X2_swap : Cond.selects RX2 yX2_swap yX2_swap ∈ tws := (tws_of (List.mem_of_getElem? (i := 17) (by decide +kernel)) (by decide +kernel))
theorem cd_X6_lamp : Cond.code yX6_lamp cX6_lamp 5 (some .int) ∈ tws := (tws_of (List.mem_of_getElem? (i := 686) (by decide +kernel)) (by decide +kernel))
theorem im_X6_lamp : Cond.instanceMethod yX6_lamp ∈ tws := (tws_of (List.mem_of_getElem? (i := 684) (by decide +kernel)) (by decide +kernel))
theorem se_X6_lamp : Cond.selects RX6 yX6_lamp yX6_lamp ∈ tws := (tws_of (List.mem_of_getElem? (i := 685) (by decide +kernel)) (by decide +kernel))
theorem cd_X2_bestLamps : Cond.code yX2_bestLamps cX2_bestLamps 9 (some .int) ∈ tws := (tws_of (List.mem_of_getElem? (i := 690) (by decide +kernel)) (by decide +kernel))
theorem im_X2_bestLamps : Cond.instanceMethod yX2_bestLamps ∈ tws := (tws_of (List.mem_of_getElem? (i := 688) (by decide +kernel)) (by decide +kernel))
theorem se_X2_bestLamps : Cond.selects RX2 yX2_bestLamps yX2_bestLamps ∈ tws := (tws_of (List.mem_of_getElem? (i := 689) (by decide +kernel)) (by decide +kernel))
theorem cd_X2_pagesIfLit : Cond.code yX2_pagesIfLit cX2_pagesIfLit 5 (some .int) ∈ tws := (tws_of (List.mem_of_getElem? (i := 696) (by decide +kernel)) (by decide +kernel))
theorem im_X2_pagesIfLit : Cond.instanceMethod yX2_pagesIfLit ∈ tws := (tws_of (List.mem_of_getElem? (i := 694) (by decide +kernel)) (by decide +kernel))
theorem se_X2_pagesIfLit : Cond.selects RX2 yX2_pagesIfLit yX2_pagesIfLit ∈ tws := (tws_of (List.mem_of_getElem? (i := 695) (by decide +kernel)) (by decide +kernel))
theorem cd_X6_caught : Cond.code yX6_caught cX6_caught 5 (some .int) ∈ tws := (tws_of (List.mem_of_getElem? (i := 701) (by decide +kernel)) (by decide +kernel))
theorem im_X6_caught : Cond.instanceMethod yX6_caught ∈ tws := (tws_of (List.mem_of_getElem? (i := 699) (by decide +kernel)) (by decide +kernel))
theorem se_X6_caught : Cond.selects RX6 yX6_caught yX6_caught ∈ tws := (tws_of (List.mem_of_getElem? (i := 700) (by decide +kernel)) (by decide +kernel))
theorem cd_X2_fewestCaught : Cond.code yX2_fewestCaught cX2_fewestCaught 7 (some .int) ∈ tws := (tws_of (List.mem_of_getElem? (i := 705) (by decide +kernel)) (by decide +kernel))
theorem im_X2_fewestCaught : Cond.instanceMethod yX2_fewestCaught ∈ tws := (tws_of (List.mem_of_getElem? (i := 703) (by decide +kernel)) (by decide +kernel))
theorem se_X2_fewestCaught : Cond.selects RX2 yX2_fewestCaught yX2_fewestCaught ∈ tws := (tws_of (List.mem_of_getElem? (i := 704) (by decide +kernel)) (by decide +kernel))
theorem cd_X6_grams : Cond.code yX6_grams cX6_grams 3 (some .int) ∈ tws := (tws_of (List.mem_of_getElem? (i := 709) (by decide +kernel)) (by decide +kernel))
theorem im_X6_grams : Cond.instanceMethod yX6_grams ∈ tws := (tws_of (List.mem_of_getElem? (i := 707) (by decide +kernel)) (by decide +kernel))
theorem se_X6_grams : Cond.selects RX6 yX6_grams yX6_grams ∈ tws := (tws_of (List.mem_of_getElem? (i := 708) (by decide +kernel)) (by decide +kernel))
theorem cd_X3_gramsOf : Cond.code yX3_gramsOf cX3_gramsOf 7 (some .int) ∈ tws := (tws_of (List.mem_of_getElem? (i := 713) (by decide +kernel)) (by decide +kernel))
theorem im_X3_gramsOf : Cond.instanceMethod yX3_gramsOf ∈ tws := (tws_of (List.mem_of_getElem? (i := 711) (by decide +kernel)) (by decide +kernel))
theorem se_X3_gramsOf : Cond.selects RX3 yX3_gramsOf yX3_gramsOf ∈ tws := (tws_of (List.mem_of_getElem? (i := 712) (by decide +kernel)) (by decide +kernel))
theorem cd_X3_dustOf : Cond.code yX3_dustOf cX3_dustOf 4 (some .int) ∈ tws := (tws_of (List.mem_of_getElem? (i := 717) (by decide +kernel)) (by decide +kernel))
theorem im_X3_dustOf : Cond.instanceMethod yX3_dustOf ∈ tws := (tws_of (List.mem_of_getElem? (i := 715) (by decide +kernel)) (by decide +kernel))
theorem se_X3_dustOf : Cond.selects RX3 yX3_dustOf yX3_dustOf ∈ tws := (tws_of (List.mem_of_getElem? (i := 716) (by decide +kernel)) (by decide +kernel))
theorem cd_X6_who : Cond.code yX6_who cX6_who 8 (some .int) ∈ tws := (tws_of (List.mem_of_getElem? (i := 722) (by decide +kernel)) (by decide +kernel))
theorem im_X6_who : Cond.instanceMethod yX6_who ∈ tws := (tws_of (List.mem_of_getElem? (i := 720) (by decide +kernel)) (by decide +kernel))
theorem se_X6_who : Cond.selects RX6 yX6_who yX6_who ∈ tws := (tws_of (List.mem_of_getElem? (i := 721) (by decide +kernel)) (by decide +kernel))
theorem cd_X4_pick : Cond.code yX4_pick cX4_pick 5 none ∈ tws := (tws_of (List.mem_of_getElem? (i := 726) (by decide +kernel)) (by decide +kernel))
theorem im_X4_pick : Cond.instanceMethod yX4_pick ∈ tws := (tws_of (List.mem_of_getElem? (i := 724) (by decide +kernel)) (by decide +kernel))
theorem se_X4_pick : Cond.selects RX4 yX4_pick yX4_pick ∈ tws := (tws_of (List.mem_of_getElem? (i := 725) (by decide +kernel)) (by decide +kernel))
theorem cd_X2_kindsThatFit : Cond.code yX2_kindsThatFit cX2_kindsThatFit 7 (some .int) ∈ tws := (tws_of (List.mem_of_getElem? (i := 730) (by decide +kernel)) (by decide +kernel))
theorem im_X2_kindsThatFit : Cond.instanceMethod yX2_kindsThatFit ∈ tws := (tws_of (List.mem_of_getElem? (i := 728) (by decide +kernel)) (by decide +kernel))
theorem se_X2_kindsThatFit : Cond.selects RX2 yX2_kindsThatFit yX2_kindsThatFit ∈ tws := (tws_of (List.mem_of_getElem? (i := 729) (by decide +kernel)) (by decide +kernel))
theorem cd_X2_fits : Cond.code yX2_fits cX2_fits 4 (some .boolean) ∈ tws := (tws_of (List.mem_of_getElem? (i := 734) (by decide +kernel)) (by decide +kernel))
theorem im_X2_fits : Cond.instanceMethod yX2_fits ∈ tws := (tws_of (List.mem_of_getElem? (i := 733) (by decide +kernel)) (by decide +kernel))
theorem se_X2_fits : Cond.selects RX2 yX2_fits yX2_fits ∈ tws := (tws_of (List.mem_of_getElem? (i := 18) (by decide +kernel)) (by decide +kernel))
theorem cd_X4_howManyTold : Cond.code yX4_howManyTold cX4_howManyTold 1 (some .int) ∈ tws := (tws_of (List.mem_of_getElem? (i := 738) (by decide +kernel)) (by decide +kernel))
theorem im_X4_howManyTold : Cond.instanceMethod yX4_howManyTold ∈ tws := (tws_of (List.mem_of_getElem? (i := 736) (by decide +kernel)) (by decide +kernel))
theorem se_X4_howManyTold : Cond.selects RX4 yX4_howManyTold yX4_howManyTold ∈ tws := (tws_of (List.mem_of_getElem? (i := 737) (by decide +kernel)) (by decide +kernel))
theorem cd_X4_told : Cond.code yX4_told cX4_told 2 (some .int) ∈ tws := (tws_of (List.mem_of_getElem? (i := 742) (by decide +kernel)) (by decide +kernel))
theorem im_X4_told : Cond.instanceMethod yX4_told ∈ tws := (tws_of (List.mem_of_getElem? (i := 740) (by decide +kernel)) (by decide +kernel))
theorem se_X4_told : Cond.selects RX4 yX4_told yX4_told ∈ tws := (tws_of (List.mem_of_getElem? (i := 741) (by decide +kernel)) (by decide +kernel))
theorem cd_X2_placesThatFit : Cond.code yX2_placesThatFit cX2_placesThatFit 7 (some .int) ∈ tws := (tws_of (List.mem_of_getElem? (i := 747) (by decide +kernel)) (by decide +kernel))
theorem im_X2_placesThatFit : Cond.instanceMethod yX2_placesThatFit ∈ tws := (tws_of (List.mem_of_getElem? (i := 745) (by decide +kernel)) (by decide +kernel))
theorem se_X2_placesThatFit : Cond.selects RX2 yX2_placesThatFit yX2_placesThatFit ∈ tws := (tws_of (List.mem_of_getElem? (i := 746) (by decide +kernel)) (by decide +kernel))
theorem cd_X6_paste : Cond.code yX6_paste cX6_paste 7 (some .int) ∈ tws := (tws_of (List.mem_of_getElem? (i := 751) (by decide +kernel)) (by decide +kernel))
theorem im_X6_paste : Cond.instanceMethod yX6_paste ∈ tws := (tws_of (List.mem_of_getElem? (i := 749) (by decide +kernel)) (by decide +kernel))
theorem se_X6_paste : Cond.selects RX6 yX6_paste yX6_paste ∈ tws := (tws_of (List.mem_of_getElem? (i := 750) (by decide +kernel)) (by decide +kernel))
theorem cd_X2_pastesThatFit : Cond.code yX2_pastesThatFit cX2_pastesThatFit 7 (some .int) ∈ tws := (tws_of (List.mem_of_getElem? (i := 755) (by decide +kernel)) (by decide +kernel))
theorem im_X2_pastesThatFit : Cond.instanceMethod yX2_pastesThatFit ∈ tws := (tws_of (List.mem_of_getElem? (i := 753) (by decide +kernel)) (by decide +kernel))
theorem se_X2_pastesThatFit : Cond.selects RX2 yX2_pastesThatFit yX2_pastesThatFit ∈ tws := (tws_of (List.mem_of_getElem? (i := 754) (by decide +kernel)) (by decide +kernel))
theorem cd_X6_hungers : Cond.code yX6_hungers cX6_hungers 6 (some .int) ∈ tws := (tws_of (List.mem_of_getElem? (i := 759) (by decide +kernel)) (by decide +kernel))
theorem im_X6_hungers : Cond.instanceMethod yX6_hungers ∈ tws := (tws_of (List.mem_of_getElem? (i := 757) (by decide +kernel)) (by decide +kernel))
theorem se_X6_hungers : Cond.selects RX6 yX6_hungers yX6_hungers ∈ tws := (tws_of (List.mem_of_getElem? (i := 758) (by decide +kernel)) (by decide +kernel))
theorem cd_X2_hungersThatFit : Cond.code yX2_hungersThatFit cX2_hungersThatFit 6 (some .int) ∈ tws := (tws_of (List.mem_of_getElem? (i := 763) (by decide +kernel)) (by decide +kernel))
theorem im_X2_hungersThatFit : Cond.instanceMethod yX2_hungersThatFit ∈ tws := (tws_of (List.mem_of_getElem? (i := 761) (by decide +kernel)) (by decide +kernel))
theorem se_X2_hungersThatFit : Cond.selects RX2 yX2_hungersThatFit yX2_hungersThatFit ∈ tws := (tws_of (List.mem_of_getElem? (i := 762) (by decide +kernel)) (by decide +kernel))
theorem cd_X6_dark : Cond.code yX6_dark cX6_dark 11 (some .long) ∈ tws := (tws_of (List.mem_of_getElem? (i := 767) (by decide +kernel)) (by decide +kernel))
theorem im_X6_dark : Cond.instanceMethod yX6_dark ∈ tws := (tws_of (List.mem_of_getElem? (i := 765) (by decide +kernel)) (by decide +kernel))
theorem se_X6_dark : Cond.selects RX6 yX6_dark yX6_dark ∈ tws := (tws_of (List.mem_of_getElem? (i := 766) (by decide +kernel)) (by decide +kernel))
theorem cd_X2_casesWithPages : Cond.code yX2_casesWithPages cX2_casesWithPages 9 (some .long) ∈ tws := (tws_of (List.mem_of_getElem? (i := 772) (by decide +kernel)) (by decide +kernel))
theorem im_X2_casesWithPages : Cond.instanceMethod yX2_casesWithPages ∈ tws := (tws_of (List.mem_of_getElem? (i := 770) (by decide +kernel)) (by decide +kernel))
theorem se_X2_casesWithPages : Cond.selects RX2 yX2_casesWithPages yX2_casesWithPages ∈ tws := (tws_of (List.mem_of_getElem? (i := 771) (by decide +kernel)) (by decide +kernel))
theorem cd_X6_power : Cond.code yX6_power cX6_power 5 (some .long) ∈ tws := (tws_of (List.mem_of_getElem? (i := 775) (by decide +kernel)) (by decide +kernel))
theorem sm_X6_power : Cond.static yX6_power ∈ tws := (tws_of (List.mem_of_getElem? (i := 774) (by decide +kernel)) (by decide +kernel))
theorem cd_X6_commonDivisor : Cond.code yX6_commonDivisor cX6_commonDivisor 11 (some .long) ∈ tws := (tws_of (List.mem_of_getElem? (i := 779) (by decide +kernel)) (by decide +kernel))
theorem sm_X6_commonDivisor : Cond.static yX6_commonDivisor ∈ tws := (tws_of (List.mem_of_getElem? (i := 778) (by decide +kernel)) (by decide +kernel))
theorem cd_X6_drawn : Cond.code yX6_drawn cX6_drawn 5 (some .int) ∈ tws := (tws_of (List.mem_of_getElem? (i := 783) (by decide +kernel)) (by decide +kernel))
theorem im_X6_drawn : Cond.instanceMethod yX6_drawn ∈ tws := (tws_of (List.mem_of_getElem? (i := 781) (by decide +kernel)) (by decide +kernel))
theorem se_X6_drawn : Cond.selects RX6 yX6_drawn yX6_drawn ∈ tws := (tws_of (List.mem_of_getElem? (i := 782) (by decide +kernel)) (by decide +kernel))
theorem cd_X2_behindCenturies : Cond.code yX2_behindCenturies cX2_behindCenturies 7 (some (.object RX3)) ∈ tws := (tws_of (List.mem_of_getElem? (i := 788) (by decide +kernel)) (by decide +kernel))
theorem im_X2_behindCenturies : Cond.instanceMethod yX2_behindCenturies ∈ tws := (tws_of (List.mem_of_getElem? (i := 786) (by decide +kernel)) (by decide +kernel))
theorem se_X2_behindCenturies : Cond.selects RX2 yX2_behindCenturies yX2_behindCenturies ∈ tws := (tws_of (List.mem_of_getElem? (i := 787) (by decide +kernel)) (by decide +kernel))
theorem cd_X2_drawLamp : Cond.code yX2_drawLamp cX2_drawLamp 5 none ∈ tws := (tws_of (List.mem_of_getElem? (i := 794) (by decide +kernel)) (by decide +kernel))
theorem im_X2_drawLamp : Cond.instanceMethod yX2_drawLamp ∈ tws := (tws_of (List.mem_of_getElem? (i := 793) (by decide +kernel)) (by decide +kernel))
theorem se_X2_drawLamp : Cond.selects RX2 yX2_drawLamp yX2_drawLamp ∈ tws := (tws_of (List.mem_of_getElem? (i := 19) (by decide +kernel)) (by decide +kernel))
theorem cd_X6_image : Cond.code yX6_image cX6_image 2 (some .int) ∈ tws := (tws_of (List.mem_of_getElem? (i := 800) (by decide +kernel)) (by decide +kernel))
theorem im_X6_image : Cond.instanceMethod yX6_image ∈ tws := (tws_of (List.mem_of_getElem? (i := 798) (by decide +kernel)) (by decide +kernel))
theorem se_X6_image : Cond.selects RX6 yX6_image yX6_image ∈ tws := (tws_of (List.mem_of_getElem? (i := 799) (by decide +kernel)) (by decide +kernel))
theorem cd_X6_restore : Cond.code yX6_restore cX6_restore 3 (some .int) ∈ tws := (tws_of (List.mem_of_getElem? (i := 804) (by decide +kernel)) (by decide +kernel))
theorem im_X6_restore : Cond.instanceMethod yX6_restore ∈ tws := (tws_of (List.mem_of_getElem? (i := 802) (by decide +kernel)) (by decide +kernel))
theorem se_X6_restore : Cond.selects RX6 yX6_restore yX6_restore ∈ tws := (tws_of (List.mem_of_getElem? (i := 803) (by decide +kernel)) (by decide +kernel))
theorem cd_X6_kind : Cond.code yX6_kind cX6_kind 2 (some .int) ∈ tws := (tws_of (List.mem_of_getElem? (i := 808) (by decide +kernel)) (by decide +kernel))
theorem im_X6_kind : Cond.instanceMethod yX6_kind ∈ tws := (tws_of (List.mem_of_getElem? (i := 806) (by decide +kernel)) (by decide +kernel))
theorem se_X6_kind : Cond.selects RX6 yX6_kind yX6_kind ∈ tws := (tws_of (List.mem_of_getElem? (i := 807) (by decide +kernel)) (by decide +kernel))
theorem cd_X6_as : Cond.code yX6_as cX6_as 3 (some .int) ∈ tws := (tws_of (List.mem_of_getElem? (i := 812) (by decide +kernel)) (by decide +kernel))
theorem im_X6_as : Cond.instanceMethod yX6_as ∈ tws := (tws_of (List.mem_of_getElem? (i := 810) (by decide +kernel)) (by decide +kernel))
theorem se_X6_as : Cond.selects RX6 yX6_as yX6_as ∈ tws := (tws_of (List.mem_of_getElem? (i := 811) (by decide +kernel)) (by decide +kernel))
theorem cd_X6_isKind : Cond.code yX6_isKind cX6_isKind 4 (some .boolean) ∈ tws := (tws_of (List.mem_of_getElem? (i := 815) (by decide +kernel)) (by decide +kernel))
theorem sm_X6_isKind : Cond.static yX6_isKind ∈ tws := (tws_of (List.mem_of_getElem? (i := 814) (by decide +kernel)) (by decide +kernel))
theorem cd_X6_ask : Cond.code yX6_ask cX6_ask 3 (some .int) ∈ tws := (tws_of (List.mem_of_getElem? (i := 821) (by decide +kernel)) (by decide +kernel))
theorem im_X6_ask : Cond.instanceMethod yX6_ask ∈ tws := (tws_of (List.mem_of_getElem? (i := 819) (by decide +kernel)) (by decide +kernel))
theorem se_X6_ask : Cond.selects RX6 yX6_ask yX6_ask ∈ tws := (tws_of (List.mem_of_getElem? (i := 820) (by decide +kernel)) (by decide +kernel))
theorem cd_X1_begin : Cond.code yX1_begin cX1_begin 5 none ∈ tws := (tws_of (List.mem_of_getElem? (i := 825) (by decide +kernel)) (by decide +kernel))
theorem im_X1_begin : Cond.instanceMethod yX1_begin ∈ tws := (tws_of (List.mem_of_getElem? (i := 823) (by decide +kernel)) (by decide +kernel))
theorem se_X1_begin : Cond.selects RX1 yX1_begin yX1_begin ∈ tws := (tws_of (List.mem_of_getElem? (i := 824) (by decide +kernel)) (by decide +kernel))
theorem cd_X1_sizeAsked : Cond.code yX1_sizeAsked cX1_sizeAsked 1 (some .int) ∈ tws := (tws_of (List.mem_of_getElem? (i := 829) (by decide +kernel)) (by decide +kernel))
theorem im_X1_sizeAsked : Cond.instanceMethod yX1_sizeAsked ∈ tws := (tws_of (List.mem_of_getElem? (i := 827) (by decide +kernel)) (by decide +kernel))
theorem se_X1_sizeAsked : Cond.selects RX1 yX1_sizeAsked yX1_sizeAsked ∈ tws := (tws_of (List.mem_of_getElem? (i := 828) (by decide +kernel)) (by decide +kernel))
theorem cd_X1_sizeOfWanderer : Cond.code yX1_sizeOfWanderer cX1_sizeOfWanderer 3 (some .int) ∈ tws := (tws_of (List.mem_of_getElem? (i := 834) (by decide +kernel)) (by decide +kernel))
theorem im_X1_sizeOfWanderer : Cond.instanceMethod yX1_sizeOfWanderer ∈ tws := (tws_of (List.mem_of_getElem? (i := 833) (by decide +kernel)) (by decide +kernel))
theorem se_X1_sizeOfWanderer : Cond.selects RX1 yX1_sizeOfWanderer yX1_sizeOfWanderer ∈ tws := (tws_of (List.mem_of_getElem? (i := 20) (by decide +kernel)) (by decide +kernel))
theorem cd_X1_leave : Cond.code yX1_leave cX1_leave 2 none ∈ tws := (tws_of (List.mem_of_getElem? (i := 838) (by decide +kernel)) (by decide +kernel))
theorem im_X1_leave : Cond.instanceMethod yX1_leave ∈ tws := (tws_of (List.mem_of_getElem? (i := 837) (by decide +kernel)) (by decide +kernel))
theorem se_X1_leave : Cond.selects RX1 yX1_leave yX1_leave ∈ tws := (tws_of (List.mem_of_getElem? (i := 21) (by decide +kernel)) (by decide +kernel))
theorem cd_X1_sizeOfReader : Cond.code yX1_sizeOfReader cX1_sizeOfReader 3 (some .int) ∈ tws := (tws_of (List.mem_of_getElem? (i := 842) (by decide +kernel)) (by decide +kernel))
theorem im_X1_sizeOfReader : Cond.instanceMethod yX1_sizeOfReader ∈ tws := (tws_of (List.mem_of_getElem? (i := 841) (by decide +kernel)) (by decide +kernel))
theorem se_X1_sizeOfReader : Cond.selects RX1 yX1_sizeOfReader yX1_sizeOfReader ∈ tws := (tws_of (List.mem_of_getElem? (i := 22) (by decide +kernel)) (by decide +kernel))
theorem cd_X1_markOfReader : Cond.code yX1_markOfReader cX1_markOfReader 4 (some .int) ∈ tws := (tws_of (List.mem_of_getElem? (i := 846) (by decide +kernel)) (by decide +kernel))
theorem im_X1_markOfReader : Cond.instanceMethod yX1_markOfReader ∈ tws := (tws_of (List.mem_of_getElem? (i := 845) (by decide +kernel)) (by decide +kernel))
theorem se_X1_markOfReader : Cond.selects RX1 yX1_markOfReader yX1_markOfReader ∈ tws := (tws_of (List.mem_of_getElem? (i := 23) (by decide +kernel)) (by decide +kernel))
theorem cd_X1_markAsked : Cond.code yX1_markAsked cX1_markAsked 1 (some .int) ∈ tws := (tws_of (List.mem_of_getElem? (i := 850) (by decide +kernel)) (by decide +kernel))
theorem im_X1_markAsked : Cond.instanceMethod yX1_markAsked ∈ tws := (tws_of (List.mem_of_getElem? (i := 848) (by decide +kernel)) (by decide +kernel))
theorem se_X1_markAsked : Cond.selects RX1 yX1_markAsked yX1_markAsked ∈ tws := (tws_of (List.mem_of_getElem? (i := 849) (by decide +kernel)) (by decide +kernel))
theorem cd_X1_markOfWanderer : Cond.code yX1_markOfWanderer cX1_markOfWanderer 1 (some .int) ∈ tws := (tws_of (List.mem_of_getElem? (i := 854) (by decide +kernel)) (by decide +kernel))
theorem im_X1_markOfWanderer : Cond.instanceMethod yX1_markOfWanderer ∈ tws := (tws_of (List.mem_of_getElem? (i := 853) (by decide +kernel)) (by decide +kernel))
theorem se_X1_markOfWanderer : Cond.selects RX1 yX1_markOfWanderer yX1_markOfWanderer ∈ tws := (tws_of (List.mem_of_getElem? (i := 24) (by decide +kernel)) (by decide +kernel))
theorem cd_X6_trace : Cond.code yX6_trace cX6_trace 2 (some .int) ∈ tws := (tws_of (List.mem_of_getElem? (i := 858) (by decide +kernel)) (by decide +kernel))
theorem im_X6_trace : Cond.instanceMethod yX6_trace ∈ tws := (tws_of (List.mem_of_getElem? (i := 856) (by decide +kernel)) (by decide +kernel))
theorem se_X6_trace : Cond.selects RX6 yX6_trace yX6_trace ∈ tws := (tws_of (List.mem_of_getElem? (i := 857) (by decide +kernel)) (by decide +kernel))
theorem cd_X1_left : Cond.code yX1_left cX1_left 2 (some .int) ∈ tws := (tws_of (List.mem_of_getElem? (i := 862) (by decide +kernel)) (by decide +kernel))
theorem im_X1_left : Cond.instanceMethod yX1_left ∈ tws := (tws_of (List.mem_of_getElem? (i := 860) (by decide +kernel)) (by decide +kernel))
theorem se_X1_left : Cond.selects RX1 yX1_left yX1_left ∈ tws := (tws_of (List.mem_of_getElem? (i := 861) (by decide +kernel)) (by decide +kernel))
theorem cd_X6_count : Cond.code yX6_count cX6_count 2 (some .int) ∈ tws := (tws_of (List.mem_of_getElem? (i := 867) (by decide +kernel)) (by decide +kernel))
theorem im_X6_count : Cond.instanceMethod yX6_count ∈ tws := (tws_of (List.mem_of_getElem? (i := 865) (by decide +kernel)) (by decide +kernel))
theorem se_X6_count : Cond.selects RX6 yX6_count yX6_count ∈ tws := (tws_of (List.mem_of_getElem? (i := 866) (by decide +kernel)) (by decide +kernel))
theorem cd_X4_standing : Cond.code yX4_standing cX4_standing 3 (some .int) ∈ tws := (tws_of (List.mem_of_getElem? (i := 871) (by decide +kernel)) (by decide +kernel))
theorem im_X4_standing : Cond.instanceMethod yX4_standing ∈ tws := (tws_of (List.mem_of_getElem? (i := 869) (by decide +kernel)) (by decide +kernel))
theorem se_X4_standing : Cond.selects RX4 yX4_standing yX4_standing ∈ tws := (tws_of (List.mem_of_getElem? (i := 870) (by decide +kernel)) (by decide +kernel))
end
section
theorem cd_X6_status : Cond.code yX6_status cX6_status 1 (some .int) ∈ tws := (tws_of (List.mem_of_getElem? (i := 876) (by decide +kernel)) (by decide +kernel))
theorem im_X6_status : Cond.instanceMethod yX6_status ∈ tws := (tws_of (List.mem_of_getElem? (i := 874) (by decide +kernel)) (by decide +kernel))
theorem se_X6_status : Cond.selects RX6 yX6_status yX6_status ∈ tws := (tws_of (List.mem_of_getElem? (i := 875) (by decide +kernel)) (by decide +kernel))
theorem cd_X7_row : Cond.code yX7_row cX7_row 5 (some .int) ∈ tws := (tws_of (List.mem_of_getElem? (i := 966) (by decide +kernel)) (by decide +kernel))
theorem im_X7_row : Cond.instanceMethod yX7_row ∈ tws := (tws_of (List.mem_of_getElem? (i := 964) (by decide +kernel)) (by decide +kernel))
theorem se_X7_row : Cond.selects RX7 yX7_row yX7_row ∈ tws := (tws_of (List.mem_of_getElem? (i := 965) (by decide +kernel)) (by decide +kernel))
theorem cd_X7_isRow : Cond.code yX7_isRow cX7_isRow 1 (some .boolean) ∈ tws := (tws_of (List.mem_of_getElem? (i := 969) (by decide +kernel)) (by decide +kernel))
theorem sm_X7_isRow : Cond.static yX7_isRow ∈ tws := (tws_of (List.mem_of_getElem? (i := 968) (by decide +kernel)) (by decide +kernel))
theorem cd_X7_in : Cond.code yX7_in cX7_in 6 (some .boolean) ∈ tws := (tws_of (List.mem_of_getElem? (i := 973) (by decide +kernel)) (by decide +kernel))
theorem sm_X7_in : Cond.static yX7_in ∈ tws := (tws_of (List.mem_of_getElem? (i := 972) (by decide +kernel)) (by decide +kernel))
theorem cd_X7_find : Cond.code yX7_find cX7_find 2 (some .int) ∈ tws := (tws_of (List.mem_of_getElem? (i := 979) (by decide +kernel)) (by decide +kernel))
theorem im_X7_find : Cond.instanceMethod yX7_find ∈ tws := (tws_of (List.mem_of_getElem? (i := 978) (by decide +kernel)) (by decide +kernel))
theorem se_X7_find : Cond.selects RX7 yX7_find yX7_find ∈ tws := (tws_of (List.mem_of_getElem? (i := 25) (by decide +kernel)) (by decide +kernel))
theorem cd_X7_well : Cond.code yX7_well cX7_well 2 (some .int) ∈ tws := (tws_of (List.mem_of_getElem? (i := 984) (by decide +kernel)) (by decide +kernel))
theorem im_X7_well : Cond.instanceMethod yX7_well ∈ tws := (tws_of (List.mem_of_getElem? (i := 983) (by decide +kernel)) (by decide +kernel))
theorem se_X7_well : Cond.selects RX7 yX7_well yX7_well ∈ tws := (tws_of (List.mem_of_getElem? (i := 26) (by decide +kernel)) (by decide +kernel))
theorem cd_X7_set : Cond.code yX7_set cX7_set 4 (some .int) ∈ tws := (tws_of (List.mem_of_getElem? (i := 988) (by decide +kernel)) (by decide +kernel))
theorem im_X7_set : Cond.instanceMethod yX7_set ∈ tws := (tws_of (List.mem_of_getElem? (i := 986) (by decide +kernel)) (by decide +kernel))
theorem se_X7_set : Cond.selects RX7 yX7_set yX7_set ∈ tws := (tws_of (List.mem_of_getElem? (i := 987) (by decide +kernel)) (by decide +kernel))
theorem cd_X7_asLane : Cond.code yX7_asLane cX7_asLane 2 (some .int) ∈ tws := (tws_of (List.mem_of_getElem? (i := 991) (by decide +kernel)) (by decide +kernel))
theorem sm_X7_asLane : Cond.static yX7_asLane ∈ tws := (tws_of (List.mem_of_getElem? (i := 990) (by decide +kernel)) (by decide +kernel))
theorem cd_X7_copy : Cond.code yX7_copy cX7_copy 7 (some .int) ∈ tws := (tws_of (List.mem_of_getElem? (i := 995) (by decide +kernel)) (by decide +kernel))
theorem im_X7_copy : Cond.instanceMethod yX7_copy ∈ tws := (tws_of (List.mem_of_getElem? (i := 993) (by decide +kernel)) (by decide +kernel))
theorem se_X7_copy : Cond.selects RX7 yX7_copy yX7_copy ∈ tws := (tws_of (List.mem_of_getElem? (i := 994) (by decide +kernel)) (by decide +kernel))
theorem cd_X7_drop : Cond.code yX7_drop cX7_drop 3 (some .int) ∈ tws := (tws_of (List.mem_of_getElem? (i := 999) (by decide +kernel)) (by decide +kernel))
theorem im_X7_drop : Cond.instanceMethod yX7_drop ∈ tws := (tws_of (List.mem_of_getElem? (i := 997) (by decide +kernel)) (by decide +kernel))
theorem se_X7_drop : Cond.selects RX7 yX7_drop yX7_drop ∈ tws := (tws_of (List.mem_of_getElem? (i := 998) (by decide +kernel)) (by decide +kernel))
theorem cd_X7_feed : Cond.code yX7_feed cX7_feed 2 (some .int) ∈ tws := (tws_of (List.mem_of_getElem? (i := 1003) (by decide +kernel)) (by decide +kernel))
theorem im_X7_feed : Cond.instanceMethod yX7_feed ∈ tws := (tws_of (List.mem_of_getElem? (i := 1001) (by decide +kernel)) (by decide +kernel))
theorem se_X7_feed : Cond.selects RX7 yX7_feed yX7_feed ∈ tws := (tws_of (List.mem_of_getElem? (i := 1002) (by decide +kernel)) (by decide +kernel))
theorem cd_X7_library : Cond.code yX7_library cX7_library 3 (some .int) ∈ tws := (tws_of (List.mem_of_getElem? (i := 1009) (by decide +kernel)) (by decide +kernel))
theorem im_X7_library : Cond.instanceMethod yX7_library ∈ tws := (tws_of (List.mem_of_getElem? (i := 1007) (by decide +kernel)) (by decide +kernel))
theorem se_X7_library : Cond.selects RX7 yX7_library yX7_library ∈ tws := (tws_of (List.mem_of_getElem? (i := 1008) (by decide +kernel)) (by decide +kernel))
theorem cd_X7_readLibrary : Cond.code yX7_readLibrary cX7_readLibrary 3 (some .boolean) ∈ tws := (tws_of (List.mem_of_getElem? (i := 1013) (by decide +kernel)) (by decide +kernel))
theorem im_X7_readLibrary : Cond.instanceMethod yX7_readLibrary ∈ tws := (tws_of (List.mem_of_getElem? (i := 1012) (by decide +kernel)) (by decide +kernel))
theorem se_X7_readLibrary : Cond.selects RX7 yX7_readLibrary yX7_readLibrary ∈ tws := (tws_of (List.mem_of_getElem? (i := 27) (by decide +kernel)) (by decide +kernel))
theorem cd_X7_nextToken : Cond.code yX7_nextToken cX7_nextToken 1 none ∈ tws := (tws_of (List.mem_of_getElem? (i := 1017) (by decide +kernel)) (by decide +kernel))
theorem im_X7_nextToken : Cond.instanceMethod yX7_nextToken ∈ tws := (tws_of (List.mem_of_getElem? (i := 1016) (by decide +kernel)) (by decide +kernel))
theorem se_X7_nextToken : Cond.selects RX7 yX7_nextToken yX7_nextToken ∈ tws := (tws_of (List.mem_of_getElem? (i := 28) (by decide +kernel)) (by decide +kernel))
theorem cd_X7_takes : Cond.code yX7_takes cX7_takes 2 (some .boolean) ∈ tws := (tws_of (List.mem_of_getElem? (i := 1025) (by decide +kernel)) (by decide +kernel))
theorem im_X7_takes : Cond.instanceMethod yX7_takes ∈ tws := (tws_of (List.mem_of_getElem? (i := 1024) (by decide +kernel)) (by decide +kernel))
theorem se_X7_takes : Cond.selects RX7 yX7_takes yX7_takes ∈ tws := (tws_of (List.mem_of_getElem? (i := 29) (by decide +kernel)) (by decide +kernel))
theorem cd_X7_isLetter : Cond.code yX7_isLetter cX7_isLetter 2 (some .boolean) ∈ tws := (tws_of (List.mem_of_getElem? (i := 1029) (by decide +kernel)) (by decide +kernel))
theorem im_X7_isLetter : Cond.instanceMethod yX7_isLetter ∈ tws := (tws_of (List.mem_of_getElem? (i := 1028) (by decide +kernel)) (by decide +kernel))
theorem se_X7_isLetter : Cond.selects RX7 yX7_isLetter yX7_isLetter ∈ tws := (tws_of (List.mem_of_getElem? (i := 30) (by decide +kernel)) (by decide +kernel))
theorem cd_X7_faults : Cond.code yX7_faults cX7_faults 2 (some .boolean) ∈ tws := (tws_of (List.mem_of_getElem? (i := 1033) (by decide +kernel)) (by decide +kernel))
theorem im_X7_faults : Cond.instanceMethod yX7_faults ∈ tws := (tws_of (List.mem_of_getElem? (i := 1032) (by decide +kernel)) (by decide +kernel))
theorem se_X7_faults : Cond.selects RX7 yX7_faults yX7_faults ∈ tws := (tws_of (List.mem_of_getElem? (i := 31) (by decide +kernel)) (by decide +kernel))
theorem cd_X7_takesNumber : Cond.code yX7_takesNumber cX7_takesNumber 5 (some .boolean) ∈ tws := (tws_of (List.mem_of_getElem? (i := 1037) (by decide +kernel)) (by decide +kernel))
theorem im_X7_takesNumber : Cond.instanceMethod yX7_takesNumber ∈ tws := (tws_of (List.mem_of_getElem? (i := 1036) (by decide +kernel)) (by decide +kernel))
theorem se_X7_takesNumber : Cond.selects RX7 yX7_takesNumber yX7_takesNumber ∈ tws := (tws_of (List.mem_of_getElem? (i := 32) (by decide +kernel)) (by decide +kernel))
theorem cd_X7_kindBy : Cond.code yX7_kindBy cX7_kindBy 1 (some .int) ∈ tws := (tws_of (List.mem_of_getElem? (i := 1040) (by decide +kernel)) (by decide +kernel))
theorem sm_X7_kindBy : Cond.static yX7_kindBy ∈ tws := (tws_of (List.mem_of_getElem? (i := 1039) (by decide +kernel)) (by decide +kernel))
theorem cd_X7_readFish : Cond.code yX7_readFish cX7_readFish 3 (some .boolean) ∈ tws := (tws_of (List.mem_of_getElem? (i := 1044) (by decide +kernel)) (by decide +kernel))
theorem im_X7_readFish : Cond.instanceMethod yX7_readFish ∈ tws := (tws_of (List.mem_of_getElem? (i := 1043) (by decide +kernel)) (by decide +kernel))
theorem se_X7_readFish : Cond.selects RX7 yX7_readFish yX7_readFish ∈ tws := (tws_of (List.mem_of_getElem? (i := 33) (by decide +kernel)) (by decide +kernel))
theorem cd_X7_readBook : Cond.code yX7_readBook cX7_readBook 2 (some .boolean) ∈ tws := (tws_of (List.mem_of_getElem? (i := 1048) (by decide +kernel)) (by decide +kernel))
theorem im_X7_readBook : Cond.instanceMethod yX7_readBook ∈ tws := (tws_of (List.mem_of_getElem? (i := 1047) (by decide +kernel)) (by decide +kernel))
theorem se_X7_readBook : Cond.selects RX7 yX7_readBook yX7_readBook ∈ tws := (tws_of (List.mem_of_getElem? (i := 34) (by decide +kernel)) (by decide +kernel))
theorem cd_X7_fault : Cond.code yX7_fault cX7_fault 1 (some .int) ∈ tws := (tws_of (List.mem_of_getElem? (i := 1053) (by decide +kernel)) (by decide +kernel))
theorem im_X7_fault : Cond.instanceMethod yX7_fault ∈ tws := (tws_of (List.mem_of_getElem? (i := 1051) (by decide +kernel)) (by decide +kernel))
theorem se_X7_fault : Cond.selects RX7 yX7_fault yX7_fault ∈ tws := (tws_of (List.mem_of_getElem? (i := 1052) (by decide +kernel)) (by decide +kernel))
theorem cd_X7_undo : Cond.code yX7_undo cX7_undo 2 (some .int) ∈ tws := (tws_of (List.mem_of_getElem? (i := 1057) (by decide +kernel)) (by decide +kernel))
theorem im_X7_undo : Cond.instanceMethod yX7_undo ∈ tws := (tws_of (List.mem_of_getElem? (i := 1055) (by decide +kernel)) (by decide +kernel))
theorem se_X7_undo : Cond.selects RX7 yX7_undo yX7_undo ∈ tws := (tws_of (List.mem_of_getElem? (i := 1056) (by decide +kernel)) (by decide +kernel))
theorem cd_X7_nights : Cond.code yX7_nights cX7_nights 3 (some .int) ∈ tws := (tws_of (List.mem_of_getElem? (i := 1062) (by decide +kernel)) (by decide +kernel))
theorem im_X7_nights : Cond.instanceMethod yX7_nights ∈ tws := (tws_of (List.mem_of_getElem? (i := 1060) (by decide +kernel)) (by decide +kernel))
theorem se_X7_nights : Cond.selects RX7 yX7_nights yX7_nights ∈ tws := (tws_of (List.mem_of_getElem? (i := 1061) (by decide +kernel)) (by decide +kernel))
theorem cd_X7_note : Cond.code yX7_note cX7_note 2 none ∈ tws := (tws_of (List.mem_of_getElem? (i := 1067) (by decide +kernel)) (by decide +kernel))
theorem im_X7_note : Cond.instanceMethod yX7_note ∈ tws := (tws_of (List.mem_of_getElem? (i := 1066) (by decide +kernel)) (by decide +kernel))
theorem se_X7_note : Cond.selects RX7 yX7_note yX7_note ∈ tws := (tws_of (List.mem_of_getElem? (i := 35) (by decide +kernel)) (by decide +kernel))
theorem cd_X7_oneNight : Cond.code yX7_oneNight cX7_oneNight 2 none ∈ tws := (tws_of (List.mem_of_getElem? (i := 1071) (by decide +kernel)) (by decide +kernel))
theorem im_X7_oneNight : Cond.instanceMethod yX7_oneNight ∈ tws := (tws_of (List.mem_of_getElem? (i := 1070) (by decide +kernel)) (by decide +kernel))
theorem se_X7_oneNight : Cond.selects RX7 yX7_oneNight yX7_oneNight ∈ tws := (tws_of (List.mem_of_getElem? (i := 36) (by decide +kernel)) (by decide +kernel))
theorem cd_X7_isCaught : Cond.code yX7_isCaught cX7_isCaught 2 (some .boolean) ∈ tws := (tws_of (List.mem_of_getElem? (i := 1075) (by decide +kernel)) (by decide +kernel))
theorem im_X7_isCaught : Cond.instanceMethod yX7_isCaught ∈ tws := (tws_of (List.mem_of_getElem? (i := 1074) (by decide +kernel)) (by decide +kernel))
theorem se_X7_isCaught : Cond.selects RX7 yX7_isCaught yX7_isCaught ∈ tws := (tws_of (List.mem_of_getElem? (i := 37) (by decide +kernel)) (by decide +kernel))
theorem cd_X7_has : Cond.code yX7_has cX7_has 2 (some .boolean) ∈ tws := (tws_of (List.mem_of_getElem? (i := 1078) (by decide +kernel)) (by decide +kernel))
theorem sm_X7_has : Cond.static yX7_has ∈ tws := (tws_of (List.mem_of_getElem? (i := 1077) (by decide +kernel)) (by decide +kernel))
theorem cd_X7_goesTo : Cond.code yX7_goesTo cX7_goesTo 6 (some .int) ∈ tws := (tws_of (List.mem_of_getElem? (i := 1082) (by decide +kernel)) (by decide +kernel))
theorem im_X7_goesTo : Cond.instanceMethod yX7_goesTo ∈ tws := (tws_of (List.mem_of_getElem? (i := 1081) (by decide +kernel)) (by decide +kernel))
theorem se_X7_goesTo : Cond.selects RX7 yX7_goesTo yX7_goesTo ∈ tws := (tws_of (List.mem_of_getElem? (i := 38) (by decide +kernel)) (by decide +kernel))
theorem cd_X7_bookAt : Cond.code yX7_bookAt cX7_bookAt 3 (some .int) ∈ tws := (tws_of (List.mem_of_getElem? (i := 1086) (by decide +kernel)) (by decide +kernel))
theorem im_X7_bookAt : Cond.instanceMethod yX7_bookAt ∈ tws := (tws_of (List.mem_of_getElem? (i := 1085) (by decide +kernel)) (by decide +kernel))
theorem se_X7_bookAt : Cond.selects RX7 yX7_bookAt yX7_bookAt ∈ tws := (tws_of (List.mem_of_getElem? (i := 39) (by decide +kernel)) (by decide +kernel))
theorem cd_X7_likedBy : Cond.code yX7_likedBy cX7_likedBy 7 (some .int) ∈ tws := (tws_of (List.mem_of_getElem? (i := 1090) (by decide +kernel)) (by decide +kernel))
theorem im_X7_likedBy : Cond.instanceMethod yX7_likedBy ∈ tws := (tws_of (List.mem_of_getElem? (i := 1089) (by decide +kernel)) (by decide +kernel))
theorem se_X7_likedBy : Cond.selects RX7 yX7_likedBy yX7_likedBy ∈ tws := (tws_of (List.mem_of_getElem? (i := 40) (by decide +kernel)) (by decide +kernel))
theorem cd_X7_likes : Cond.code yX7_likes cX7_likes 5 (some .int) ∈ tws := (tws_of (List.mem_of_getElem? (i := 1095) (by decide +kernel)) (by decide +kernel))
theorem im_X7_likes : Cond.instanceMethod yX7_likes ∈ tws := (tws_of (List.mem_of_getElem? (i := 1094) (by decide +kernel)) (by decide +kernel))
theorem se_X7_likes : Cond.selects RX7 yX7_likes yX7_likes ∈ tws := (tws_of (List.mem_of_getElem? (i := 41) (by decide +kernel)) (by decide +kernel))
theorem cd_X7_isShut : Cond.code yX7_isShut cX7_isShut 2 (some .boolean) ∈ tws := (tws_of (List.mem_of_getElem? (i := 1099) (by decide +kernel)) (by decide +kernel))
theorem im_X7_isShut : Cond.instanceMethod yX7_isShut ∈ tws := (tws_of (List.mem_of_getElem? (i := 1098) (by decide +kernel)) (by decide +kernel))
theorem se_X7_isShut : Cond.selects RX7 yX7_isShut yX7_isShut ∈ tws := (tws_of (List.mem_of_getElem? (i := 42) (by decide +kernel)) (by decide +kernel))
theorem cd_X7_eats : Cond.code yX7_eats cX7_eats 4 none ∈ tws := (tws_of (List.mem_of_getElem? (i := 1103) (by decide +kernel)) (by decide +kernel))
theorem im_X7_eats : Cond.instanceMethod yX7_eats ∈ tws := (tws_of (List.mem_of_getElem? (i := 1102) (by decide +kernel)) (by decide +kernel))
theorem se_X7_eats : Cond.selects RX7 yX7_eats yX7_eats ∈ tws := (tws_of (List.mem_of_getElem? (i := 43) (by decide +kernel)) (by decide +kernel))
theorem cd_X7_allPages : Cond.code yX7_allPages cX7_allPages 3 (some .int) ∈ tws := (tws_of (List.mem_of_getElem? (i := 1107) (by decide +kernel)) (by decide +kernel))
theorem im_X7_allPages : Cond.instanceMethod yX7_allPages ∈ tws := (tws_of (List.mem_of_getElem? (i := 1106) (by decide +kernel)) (by decide +kernel))
theorem se_X7_allPages : Cond.selects RX7 yX7_allPages yX7_allPages ∈ tws := (tws_of (List.mem_of_getElem? (i := 44) (by decide +kernel)) (by decide +kernel))
theorem cd_X7_light : Cond.code yX7_light cX7_light 3 (some .int) ∈ tws := (tws_of (List.mem_of_getElem? (i := 1111) (by decide +kernel)) (by decide +kernel))
theorem im_X7_light : Cond.instanceMethod yX7_light ∈ tws := (tws_of (List.mem_of_getElem? (i := 1109) (by decide +kernel)) (by decide +kernel))
theorem se_X7_light : Cond.selects RX7 yX7_light yX7_light ∈ tws := (tws_of (List.mem_of_getElem? (i := 1110) (by decide +kernel)) (by decide +kernel))
theorem cd_X7_isBook : Cond.code yX7_isBook cX7_isBook 2 (some .boolean) ∈ tws := (tws_of (List.mem_of_getElem? (i := 1115) (by decide +kernel)) (by decide +kernel))
theorem im_X7_isBook : Cond.instanceMethod yX7_isBook ∈ tws := (tws_of (List.mem_of_getElem? (i := 1114) (by decide +kernel)) (by decide +kernel))
theorem se_X7_isBook : Cond.selects RX7 yX7_isBook yX7_isBook ∈ tws := (tws_of (List.mem_of_getElem? (i := 45) (by decide +kernel)) (by decide +kernel))
theorem cd_X7_ones : Cond.code yX7_ones cX7_ones 3 (some .int) ∈ tws := (tws_of (List.mem_of_getElem? (i := 1118) (by decide +kernel)) (by decide +kernel))
theorem sm_X7_ones : Cond.static yX7_ones ∈ tws := (tws_of (List.mem_of_getElem? (i := 1117) (by decide +kernel)) (by decide +kernel))
theorem cd_X7_keepIt : Cond.code yX7_keepIt cX7_keepIt 3 (some .int) ∈ tws := (tws_of (List.mem_of_getElem? (i := 1122) (by decide +kernel)) (by decide +kernel))
theorem im_X7_keepIt : Cond.instanceMethod yX7_keepIt ∈ tws := (tws_of (List.mem_of_getElem? (i := 1120) (by decide +kernel)) (by decide +kernel))
theorem se_X7_keepIt : Cond.selects RX7 yX7_keepIt yX7_keepIt ∈ tws := (tws_of (List.mem_of_getElem? (i := 1121) (by decide +kernel)) (by decide +kernel))
theorem cd_X7_change : Cond.code yX7_change cX7_change 4 (some .int) ∈ tws := (tws_of (List.mem_of_getElem? (i := 1126) (by decide +kernel)) (by decide +kernel))
theorem im_X7_change : Cond.instanceMethod yX7_change ∈ tws := (tws_of (List.mem_of_getElem? (i := 1124) (by decide +kernel)) (by decide +kernel))
theorem se_X7_change : Cond.selects RX7 yX7_change yX7_change ∈ tws := (tws_of (List.mem_of_getElem? (i := 1125) (by decide +kernel)) (by decide +kernel))
theorem cd_X7_move : Cond.code yX7_move cX7_move 4 (some .int) ∈ tws := (tws_of (List.mem_of_getElem? (i := 1130) (by decide +kernel)) (by decide +kernel))
theorem im_X7_move : Cond.instanceMethod yX7_move ∈ tws := (tws_of (List.mem_of_getElem? (i := 1128) (by decide +kernel)) (by decide +kernel))
theorem se_X7_move : Cond.selects RX7 yX7_move yX7_move ∈ tws := (tws_of (List.mem_of_getElem? (i := 1129) (by decide +kernel)) (by decide +kernel))
theorem cd_X7_isFish : Cond.code yX7_isFish cX7_isFish 2 (some .boolean) ∈ tws := (tws_of (List.mem_of_getElem? (i := 1134) (by decide +kernel)) (by decide +kernel))
theorem im_X7_isFish : Cond.instanceMethod yX7_isFish ∈ tws := (tws_of (List.mem_of_getElem? (i := 1133) (by decide +kernel)) (by decide +kernel))
theorem se_X7_isFish : Cond.selects RX7 yX7_isFish yX7_isFish ∈ tws := (tws_of (List.mem_of_getElem? (i := 46) (by decide +kernel)) (by decide +kernel))
theorem cd_X7_catchIt : Cond.code yX7_catchIt cX7_catchIt 2 (some .int) ∈ tws := (tws_of (List.mem_of_getElem? (i := 1138) (by decide +kernel)) (by decide +kernel))
theorem im_X7_catchIt : Cond.instanceMethod yX7_catchIt ∈ tws := (tws_of (List.mem_of_getElem? (i := 1136) (by decide +kernel)) (by decide +kernel))
theorem se_X7_catchIt : Cond.selects RX7 yX7_catchIt yX7_catchIt ∈ tws := (tws_of (List.mem_of_getElem? (i := 1137) (by decide +kernel)) (by decide +kernel))
theorem cd_X7_book : Cond.code yX7_book cX7_book 3 (some .int) ∈ tws := (tws_of (List.mem_of_getElem? (i := 1142) (by decide +kernel)) (by decide +kernel))
theorem im_X7_book : Cond.instanceMethod yX7_book ∈ tws := (tws_of (List.mem_of_getElem? (i := 1140) (by decide +kernel)) (by decide +kernel))
theorem se_X7_book : Cond.selects RX7 yX7_book yX7_book ∈ tws := (tws_of (List.mem_of_getElem? (i := 1141) (by decide +kernel)) (by decide +kernel))
theorem cd_X7_fishAt : Cond.code yX7_fishAt cX7_fishAt 4 (some .int) ∈ tws := (tws_of (List.mem_of_getElem? (i := 1146) (by decide +kernel)) (by decide +kernel))
theorem im_X7_fishAt : Cond.instanceMethod yX7_fishAt ∈ tws := (tws_of (List.mem_of_getElem? (i := 1145) (by decide +kernel)) (by decide +kernel))
theorem se_X7_fishAt : Cond.selects RX7 yX7_fishAt yX7_fishAt ∈ tws := (tws_of (List.mem_of_getElem? (i := 47) (by decide +kernel)) (by decide +kernel))
theorem cd_X7_fish : Cond.code yX7_fish cX7_fish 3 (some .int) ∈ tws := (tws_of (List.mem_of_getElem? (i := 1150) (by decide +kernel)) (by decide +kernel))
theorem im_X7_fish : Cond.instanceMethod yX7_fish ∈ tws := (tws_of (List.mem_of_getElem? (i := 1148) (by decide +kernel)) (by decide +kernel))
theorem se_X7_fish : Cond.selects RX7 yX7_fish yX7_fish ∈ tws := (tws_of (List.mem_of_getElem? (i := 1149) (by decide +kernel)) (by decide +kernel))
theorem cd_X7_stand : Cond.code yX7_stand cX7_stand 2 (some .int) ∈ tws := (tws_of (List.mem_of_getElem? (i := 1155) (by decide +kernel)) (by decide +kernel))
theorem im_X7_stand : Cond.instanceMethod yX7_stand ∈ tws := (tws_of (List.mem_of_getElem? (i := 1153) (by decide +kernel)) (by decide +kernel))
theorem se_X7_stand : Cond.selects RX7 yX7_stand yX7_stand ∈ tws := (tws_of (List.mem_of_getElem? (i := 1154) (by decide +kernel)) (by decide +kernel))
theorem cd_X7_ahead : Cond.code yX7_ahead cX7_ahead 5 (some .int) ∈ tws := (tws_of (List.mem_of_getElem? (i := 1159) (by decide +kernel)) (by decide +kernel))
theorem im_X7_ahead : Cond.instanceMethod yX7_ahead ∈ tws := (tws_of (List.mem_of_getElem? (i := 1157) (by decide +kernel)) (by decide +kernel))
theorem se_X7_ahead : Cond.selects RX7 yX7_ahead yX7_ahead ∈ tws := (tws_of (List.mem_of_getElem? (i := 1158) (by decide +kernel)) (by decide +kernel))
theorem cd_X7_isWhat : Cond.code yX7_isWhat cX7_isWhat 1 (some .boolean) ∈ tws := (tws_of (List.mem_of_getElem? (i := 1163) (by decide +kernel)) (by decide +kernel))
theorem sm_X7_isWhat : Cond.static yX7_isWhat ∈ tws := (tws_of (List.mem_of_getElem? (i := 1162) (by decide +kernel)) (by decide +kernel))
theorem cd_X7_putAside : Cond.code yX7_putAside cX7_putAside 2 none ∈ tws := (tws_of (List.mem_of_getElem? (i := 1167) (by decide +kernel)) (by decide +kernel))
theorem im_X7_putAside : Cond.instanceMethod yX7_putAside ∈ tws := (tws_of (List.mem_of_getElem? (i := 1166) (by decide +kernel)) (by decide +kernel))
theorem se_X7_putAside : Cond.selects RX7 yX7_putAside yX7_putAside ∈ tws := (tws_of (List.mem_of_getElem? (i := 48) (by decide +kernel)) (by decide +kernel))
theorem cd_X7_goOn : Cond.code yX7_goOn cX7_goOn 3 none ∈ tws := (tws_of (List.mem_of_getElem? (i := 1171) (by decide +kernel)) (by decide +kernel))
theorem im_X7_goOn : Cond.instanceMethod yX7_goOn ∈ tws := (tws_of (List.mem_of_getElem? (i := 1170) (by decide +kernel)) (by decide +kernel))
theorem se_X7_goOn : Cond.selects RX7 yX7_goOn yX7_goOn ∈ tws := (tws_of (List.mem_of_getElem? (i := 49) (by decide +kernel)) (by decide +kernel))
theorem cd_X7_takeBack : Cond.code yX7_takeBack cX7_takeBack 2 none ∈ tws := (tws_of (List.mem_of_getElem? (i := 1175) (by decide +kernel)) (by decide +kernel))
theorem im_X7_takeBack : Cond.instanceMethod yX7_takeBack ∈ tws := (tws_of (List.mem_of_getElem? (i := 1174) (by decide +kernel)) (by decide +kernel))
theorem se_X7_takeBack : Cond.selects RX7 yX7_takeBack yX7_takeBack ∈ tws := (tws_of (List.mem_of_getElem? (i := 50) (by decide +kernel)) (by decide +kernel))
theorem cd_X7_later : Cond.code yX7_later cX7_later 5 (some .int) ∈ tws := (tws_of (List.mem_of_getElem? (i := 1179) (by decide +kernel)) (by decide +kernel))
theorem im_X7_later : Cond.instanceMethod yX7_later ∈ tws := (tws_of (List.mem_of_getElem? (i := 1177) (by decide +kernel)) (by decide +kernel))
theorem se_X7_later : Cond.selects RX7 yX7_later yX7_later ∈ tws := (tws_of (List.mem_of_getElem? (i := 1178) (by decide +kernel)) (by decide +kernel))
theorem cd_X7_when : Cond.code yX7_when cX7_when 4 (some .int) ∈ tws := (tws_of (List.mem_of_getElem? (i := 1183) (by decide +kernel)) (by decide +kernel))
theorem im_X7_when : Cond.instanceMethod yX7_when ∈ tws := (tws_of (List.mem_of_getElem? (i := 1181) (by decide +kernel)) (by decide +kernel))
theorem se_X7_when : Cond.selects RX7 yX7_when yX7_when ∈ tws := (tws_of (List.mem_of_getElem? (i := 1182) (by decide +kernel)) (by decide +kernel))
theorem cd_X7_first : Cond.code yX7_first cX7_first 5 (some .int) ∈ tws := (tws_of (List.mem_of_getElem? (i := 1187) (by decide +kernel)) (by decide +kernel))
theorem im_X7_first : Cond.instanceMethod yX7_first ∈ tws := (tws_of (List.mem_of_getElem? (i := 1185) (by decide +kernel)) (by decide +kernel))
theorem se_X7_first : Cond.selects RX7 yX7_first yX7_first ∈ tws := (tws_of (List.mem_of_getElem? (i := 1186) (by decide +kernel)) (by decide +kernel))
theorem cd_X7_emptySet : Cond.code yX7_emptySet cX7_emptySet 3 (some .int) ∈ tws := (tws_of (List.mem_of_getElem? (i := 1191) (by decide +kernel)) (by decide +kernel))
theorem im_X7_emptySet : Cond.instanceMethod yX7_emptySet ∈ tws := (tws_of (List.mem_of_getElem? (i := 1190) (by decide +kernel)) (by decide +kernel))
theorem se_X7_emptySet : Cond.selects RX7 yX7_emptySet yX7_emptySet ∈ tws := (tws_of (List.mem_of_getElem? (i := 51) (by decide +kernel)) (by decide +kernel))
theorem cd_X7_least : Cond.code yX7_least cX7_least 2 (some .int) ∈ tws := (tws_of (List.mem_of_getElem? (i := 1194) (by decide +kernel)) (by decide +kernel))
theorem sm_X7_least : Cond.static yX7_least ∈ tws := (tws_of (List.mem_of_getElem? (i := 1193) (by decide +kernel)) (by decide +kernel))
theorem cd_X7_hole : Cond.code yX7_hole cX7_hole 3 (some .int) ∈ tws := (tws_of (List.mem_of_getElem? (i := 1198) (by decide +kernel)) (by decide +kernel))
theorem im_X7_hole : Cond.instanceMethod yX7_hole ∈ tws := (tws_of (List.mem_of_getElem? (i := 1196) (by decide +kernel)) (by decide +kernel))
theorem se_X7_hole : Cond.selects RX7 yX7_hole yX7_hole ∈ tws := (tws_of (List.mem_of_getElem? (i := 1197) (by decide +kernel)) (by decide +kernel))
theorem cd_X7_order : Cond.code yX7_order cX7_order 8 (some .int) ∈ tws := (tws_of (List.mem_of_getElem? (i := 1202) (by decide +kernel)) (by decide +kernel))
theorem im_X7_order : Cond.instanceMethod yX7_order ∈ tws := (tws_of (List.mem_of_getElem? (i := 1200) (by decide +kernel)) (by decide +kernel))
theorem se_X7_order : Cond.selects RX7 yX7_order yX7_order ∈ tws := (tws_of (List.mem_of_getElem? (i := 1201) (by decide +kernel)) (by decide +kernel))
theorem cd_X7_pagesOf : Cond.code yX7_pagesOf cX7_pagesOf 4 (some .int) ∈ tws := (tws_of (List.mem_of_getElem? (i := 1208) (by decide +kernel)) (by decide +kernel))
theorem im_X7_pagesOf : Cond.instanceMethod yX7_pagesOf ∈ tws := (tws_of (List.mem_of_getElem? (i := 1207) (by decide +kernel)) (by decide +kernel))
theorem se_X7_pagesOf : Cond.selects RX7 yX7_pagesOf yX7_pagesOf ∈ tws := (tws_of (List.mem_of_getElem? (i := 52) (by decide +kernel)) (by decide +kernel))
theorem cd_X7_isNext : Cond.code yX7_isNext cX7_isNext 6 (some .boolean) ∈ tws := (tws_of (List.mem_of_getElem? (i := 1212) (by decide +kernel)) (by decide +kernel))
theorem im_X7_isNext : Cond.instanceMethod yX7_isNext ∈ tws := (tws_of (List.mem_of_getElem? (i := 1211) (by decide +kernel)) (by decide +kernel))
theorem se_X7_isNext : Cond.selects RX7 yX7_isNext yX7_isNext ∈ tws := (tws_of (List.mem_of_getElem? (i := 53) (by decide +kernel)) (by decide +kernel))
theorem cd_X7_exchange : Cond.code yX7_exchange cX7_exchange 4 none ∈ tws := (tws_of (List.mem_of_getElem? (i := 1216) (by decide +kernel)) (by decide +kernel))
theorem im_X7_exchange : Cond.instanceMethod yX7_exchange ∈ tws := (tws_of (List.mem_of_getElem? (i := 1215) (by decide +kernel)) (by decide +kernel))
theorem se_X7_exchange : Cond.selects RX7 yX7_exchange yX7_exchange ∈ tws := (tws_of (List.mem_of_getElem? (i := 54) (by decide +kernel)) (by decide +kernel))
theorem cd_X7_lamp : Cond.code yX7_lamp cX7_lamp 8 (some .int) ∈ tws := (tws_of (List.mem_of_getElem? (i := 1220) (by decide +kernel)) (by decide +kernel))
theorem im_X7_lamp : Cond.instanceMethod yX7_lamp ∈ tws := (tws_of (List.mem_of_getElem? (i := 1218) (by decide +kernel)) (by decide +kernel))
theorem se_X7_lamp : Cond.selects RX7 yX7_lamp yX7_lamp ∈ tws := (tws_of (List.mem_of_getElem? (i := 1219) (by decide +kernel)) (by decide +kernel))
theorem cd_X7_pagesBehind : Cond.code yX7_pagesBehind cX7_pagesBehind 4 (some .int) ∈ tws := (tws_of (List.mem_of_getElem? (i := 1224) (by decide +kernel)) (by decide +kernel))
theorem im_X7_pagesBehind : Cond.instanceMethod yX7_pagesBehind ∈ tws := (tws_of (List.mem_of_getElem? (i := 1223) (by decide +kernel)) (by decide +kernel))
theorem se_X7_pagesBehind : Cond.selects RX7 yX7_pagesBehind yX7_pagesBehind ∈ tws := (tws_of (List.mem_of_getElem? (i := 55) (by decide +kernel)) (by decide +kernel))
theorem cd_X7_caught : Cond.code yX7_caught cX7_caught 6 (some .int) ∈ tws := (tws_of (List.mem_of_getElem? (i := 1228) (by decide +kernel)) (by decide +kernel))
theorem im_X7_caught : Cond.instanceMethod yX7_caught ∈ tws := (tws_of (List.mem_of_getElem? (i := 1226) (by decide +kernel)) (by decide +kernel))
theorem se_X7_caught : Cond.selects RX7 yX7_caught yX7_caught ∈ tws := (tws_of (List.mem_of_getElem? (i := 1227) (by decide +kernel)) (by decide +kernel))
theorem cd_X7_grams : Cond.code yX7_grams cX7_grams 7 (some .int) ∈ tws := (tws_of (List.mem_of_getElem? (i := 1232) (by decide +kernel)) (by decide +kernel))
theorem im_X7_grams : Cond.instanceMethod yX7_grams ∈ tws := (tws_of (List.mem_of_getElem? (i := 1230) (by decide +kernel)) (by decide +kernel))
theorem se_X7_grams : Cond.selects RX7 yX7_grams yX7_grams ∈ tws := (tws_of (List.mem_of_getElem? (i := 1231) (by decide +kernel)) (by decide +kernel))
theorem cd_X7_dustOf : Cond.code yX7_dustOf cX7_dustOf 2 (some .int) ∈ tws := (tws_of (List.mem_of_getElem? (i := 1237) (by decide +kernel)) (by decide +kernel))
theorem im_X7_dustOf : Cond.instanceMethod yX7_dustOf ∈ tws := (tws_of (List.mem_of_getElem? (i := 1236) (by decide +kernel)) (by decide +kernel))
theorem se_X7_dustOf : Cond.selects RX7 yX7_dustOf yX7_dustOf ∈ tws := (tws_of (List.mem_of_getElem? (i := 56) (by decide +kernel)) (by decide +kernel))
theorem cd_X7_who : Cond.code yX7_who cX7_who 8 (some .int) ∈ tws := (tws_of (List.mem_of_getElem? (i := 1241) (by decide +kernel)) (by decide +kernel))
theorem im_X7_who : Cond.instanceMethod yX7_who ∈ tws := (tws_of (List.mem_of_getElem? (i := 1239) (by decide +kernel)) (by decide +kernel))
theorem se_X7_who : Cond.selects RX7 yX7_who yX7_who ∈ tws := (tws_of (List.mem_of_getElem? (i := 1240) (by decide +kernel)) (by decide +kernel))
theorem cd_X7_lacks : Cond.code yX7_lacks cX7_lacks 4 (some .int) ∈ tws := (tws_of (List.mem_of_getElem? (i := 1245) (by decide +kernel)) (by decide +kernel))
theorem im_X7_lacks : Cond.instanceMethod yX7_lacks ∈ tws := (tws_of (List.mem_of_getElem? (i := 1244) (by decide +kernel)) (by decide +kernel))
theorem se_X7_lacks : Cond.selects RX7 yX7_lacks yX7_lacks ∈ tws := (tws_of (List.mem_of_getElem? (i := 57) (by decide +kernel)) (by decide +kernel))
theorem cd_X7_fits : Cond.code yX7_fits cX7_fits 9 (some .int) ∈ tws := (tws_of (List.mem_of_getElem? (i := 1249) (by decide +kernel)) (by decide +kernel))
theorem im_X7_fits : Cond.instanceMethod yX7_fits ∈ tws := (tws_of (List.mem_of_getElem? (i := 1248) (by decide +kernel)) (by decide +kernel))
theorem se_X7_fits : Cond.selects RX7 yX7_fits yX7_fits ∈ tws := (tws_of (List.mem_of_getElem? (i := 58) (by decide +kernel)) (by decide +kernel))
theorem cd_X7_isSo : Cond.code yX7_isSo cX7_isSo 6 (some .boolean) ∈ tws := (tws_of (List.mem_of_getElem? (i := 1253) (by decide +kernel)) (by decide +kernel))
theorem im_X7_isSo : Cond.instanceMethod yX7_isSo ∈ tws := (tws_of (List.mem_of_getElem? (i := 1252) (by decide +kernel)) (by decide +kernel))
theorem se_X7_isSo : Cond.selects RX7 yX7_isSo yX7_isSo ∈ tws := (tws_of (List.mem_of_getElem? (i := 59) (by decide +kernel)) (by decide +kernel))
theorem cd_X7_paste : Cond.code yX7_paste cX7_paste 7 (some .int) ∈ tws := (tws_of (List.mem_of_getElem? (i := 1257) (by decide +kernel)) (by decide +kernel))
theorem im_X7_paste : Cond.instanceMethod yX7_paste ∈ tws := (tws_of (List.mem_of_getElem? (i := 1255) (by decide +kernel)) (by decide +kernel))
theorem se_X7_paste : Cond.selects RX7 yX7_paste yX7_paste ∈ tws := (tws_of (List.mem_of_getElem? (i := 1256) (by decide +kernel)) (by decide +kernel))
theorem cd_X7_hungers : Cond.code yX7_hungers cX7_hungers 6 (some .int) ∈ tws := (tws_of (List.mem_of_getElem? (i := 1261) (by decide +kernel)) (by decide +kernel))
theorem im_X7_hungers : Cond.instanceMethod yX7_hungers ∈ tws := (tws_of (List.mem_of_getElem? (i := 1259) (by decide +kernel)) (by decide +kernel))
theorem se_X7_hungers : Cond.selects RX7 yX7_hungers yX7_hungers ∈ tws := (tws_of (List.mem_of_getElem? (i := 1260) (by decide +kernel)) (by decide +kernel))
theorem cd_X7_dark : Cond.code yX7_dark cX7_dark 16 (some .long) ∈ tws := (tws_of (List.mem_of_getElem? (i := 1265) (by decide +kernel)) (by decide +kernel))
theorem im_X7_dark : Cond.instanceMethod yX7_dark ∈ tws := (tws_of (List.mem_of_getElem? (i := 1263) (by decide +kernel)) (by decide +kernel))
theorem se_X7_dark : Cond.selects RX7 yX7_dark yX7_dark ∈ tws := (tws_of (List.mem_of_getElem? (i := 1264) (by decide +kernel)) (by decide +kernel))
theorem cd_X7_drawn : Cond.code yX7_drawn cX7_drawn 8 (some .int) ∈ tws := (tws_of (List.mem_of_getElem? (i := 1271) (by decide +kernel)) (by decide +kernel))
theorem im_X7_drawn : Cond.instanceMethod yX7_drawn ∈ tws := (tws_of (List.mem_of_getElem? (i := 1269) (by decide +kernel)) (by decide +kernel))
theorem se_X7_drawn : Cond.selects RX7 yX7_drawn yX7_drawn ∈ tws := (tws_of (List.mem_of_getElem? (i := 1270) (by decide +kernel)) (by decide +kernel))
theorem cd_X7_image : Cond.code yX7_image cX7_image 3 (some .int) ∈ tws := (tws_of (List.mem_of_getElem? (i := 1279) (by decide +kernel)) (by decide +kernel))
theorem im_X7_image : Cond.instanceMethod yX7_image ∈ tws := (tws_of (List.mem_of_getElem? (i := 1277) (by decide +kernel)) (by decide +kernel))
theorem se_X7_image : Cond.selects RX7 yX7_image yX7_image ∈ tws := (tws_of (List.mem_of_getElem? (i := 1278) (by decide +kernel)) (by decide +kernel))
theorem cd_X7_restore : Cond.code yX7_restore cX7_restore 3 (some .int) ∈ tws := (tws_of (List.mem_of_getElem? (i := 1283) (by decide +kernel)) (by decide +kernel))
theorem im_X7_restore : Cond.instanceMethod yX7_restore ∈ tws := (tws_of (List.mem_of_getElem? (i := 1281) (by decide +kernel)) (by decide +kernel))
theorem se_X7_restore : Cond.selects RX7 yX7_restore yX7_restore ∈ tws := (tws_of (List.mem_of_getElem? (i := 1282) (by decide +kernel)) (by decide +kernel))
theorem cd_X7_kind : Cond.code yX7_kind cX7_kind 2 (some .int) ∈ tws := (tws_of (List.mem_of_getElem? (i := 1287) (by decide +kernel)) (by decide +kernel))
theorem im_X7_kind : Cond.instanceMethod yX7_kind ∈ tws := (tws_of (List.mem_of_getElem? (i := 1285) (by decide +kernel)) (by decide +kernel))
theorem se_X7_kind : Cond.selects RX7 yX7_kind yX7_kind ∈ tws := (tws_of (List.mem_of_getElem? (i := 1286) (by decide +kernel)) (by decide +kernel))
theorem cd_X7_as : Cond.code yX7_as cX7_as 3 (some .int) ∈ tws := (tws_of (List.mem_of_getElem? (i := 1291) (by decide +kernel)) (by decide +kernel))
theorem im_X7_as : Cond.instanceMethod yX7_as ∈ tws := (tws_of (List.mem_of_getElem? (i := 1289) (by decide +kernel)) (by decide +kernel))
theorem se_X7_as : Cond.selects RX7 yX7_as yX7_as ∈ tws := (tws_of (List.mem_of_getElem? (i := 1290) (by decide +kernel)) (by decide +kernel))
theorem cd_X7_isKind : Cond.code yX7_isKind cX7_isKind 2 (some .boolean) ∈ tws := (tws_of (List.mem_of_getElem? (i := 1294) (by decide +kernel)) (by decide +kernel))
theorem sm_X7_isKind : Cond.static yX7_isKind ∈ tws := (tws_of (List.mem_of_getElem? (i := 1293) (by decide +kernel)) (by decide +kernel))
theorem cd_X7_ask : Cond.code yX7_ask cX7_ask 3 (some .int) ∈ tws := (tws_of (List.mem_of_getElem? (i := 1298) (by decide +kernel)) (by decide +kernel))
theorem im_X7_ask : Cond.instanceMethod yX7_ask ∈ tws := (tws_of (List.mem_of_getElem? (i := 1296) (by decide +kernel)) (by decide +kernel))
theorem se_X7_ask : Cond.selects RX7 yX7_ask yX7_ask ∈ tws := (tws_of (List.mem_of_getElem? (i := 1297) (by decide +kernel)) (by decide +kernel))
theorem cd_X7_sizeOf : Cond.code yX7_sizeOf cX7_sizeOf 3 (some .int) ∈ tws := (tws_of (List.mem_of_getElem? (i := 1302) (by decide +kernel)) (by decide +kernel))
theorem im_X7_sizeOf : Cond.instanceMethod yX7_sizeOf ∈ tws := (tws_of (List.mem_of_getElem? (i := 1301) (by decide +kernel)) (by decide +kernel))
theorem se_X7_sizeOf : Cond.selects RX7 yX7_sizeOf yX7_sizeOf ∈ tws := (tws_of (List.mem_of_getElem? (i := 60) (by decide +kernel)) (by decide +kernel))
theorem cd_X7_begin : Cond.code yX7_begin cX7_begin 2 none ∈ tws := (tws_of (List.mem_of_getElem? (i := 1306) (by decide +kernel)) (by decide +kernel))
theorem im_X7_begin : Cond.instanceMethod yX7_begin ∈ tws := (tws_of (List.mem_of_getElem? (i := 1305) (by decide +kernel)) (by decide +kernel))
theorem se_X7_begin : Cond.selects RX7 yX7_begin yX7_begin ∈ tws := (tws_of (List.mem_of_getElem? (i := 61) (by decide +kernel)) (by decide +kernel))
theorem cd_X7_readerSize : Cond.code yX7_readerSize cX7_readerSize 3 (some .int) ∈ tws := (tws_of (List.mem_of_getElem? (i := 1310) (by decide +kernel)) (by decide +kernel))
theorem im_X7_readerSize : Cond.instanceMethod yX7_readerSize ∈ tws := (tws_of (List.mem_of_getElem? (i := 1309) (by decide +kernel)) (by decide +kernel))
theorem se_X7_readerSize : Cond.selects RX7 yX7_readerSize yX7_readerSize ∈ tws := (tws_of (List.mem_of_getElem? (i := 62) (by decide +kernel)) (by decide +kernel))
theorem cd_X7_lent : Cond.code yX7_lent cX7_lent 3 (some .int) ∈ tws := (tws_of (List.mem_of_getElem? (i := 1314) (by decide +kernel)) (by decide +kernel))
theorem im_X7_lent : Cond.instanceMethod yX7_lent ∈ tws := (tws_of (List.mem_of_getElem? (i := 1313) (by decide +kernel)) (by decide +kernel))
theorem se_X7_lent : Cond.selects RX7 yX7_lent yX7_lent ∈ tws := (tws_of (List.mem_of_getElem? (i := 63) (by decide +kernel)) (by decide +kernel))
theorem cd_X7_markOf : Cond.code yX7_markOf cX7_markOf 4 (some .int) ∈ tws := (tws_of (List.mem_of_getElem? (i := 1318) (by decide +kernel)) (by decide +kernel))
theorem im_X7_markOf : Cond.instanceMethod yX7_markOf ∈ tws := (tws_of (List.mem_of_getElem? (i := 1317) (by decide +kernel)) (by decide +kernel))
theorem se_X7_markOf : Cond.selects RX7 yX7_markOf yX7_markOf ∈ tws := (tws_of (List.mem_of_getElem? (i := 64) (by decide +kernel)) (by decide +kernel))
theorem cd_X7_readerMark : Cond.code yX7_readerMark cX7_readerMark 2 (some .int) ∈ tws := (tws_of (List.mem_of_getElem? (i := 1322) (by decide +kernel)) (by decide +kernel))
theorem im_X7_readerMark : Cond.instanceMethod yX7_readerMark ∈ tws := (tws_of (List.mem_of_getElem? (i := 1321) (by decide +kernel)) (by decide +kernel))
theorem se_X7_readerMark : Cond.selects RX7 yX7_readerMark yX7_readerMark ∈ tws := (tws_of (List.mem_of_getElem? (i := 65) (by decide +kernel)) (by decide +kernel))
theorem cd_X7_sizeOfWanderer : Cond.code yX7_sizeOfWanderer cX7_sizeOfWanderer 2 (some .int) ∈ tws := (tws_of (List.mem_of_getElem? (i := 1326) (by decide +kernel)) (by decide +kernel))
theorem im_X7_sizeOfWanderer : Cond.instanceMethod yX7_sizeOfWanderer ∈ tws := (tws_of (List.mem_of_getElem? (i := 1325) (by decide +kernel)) (by decide +kernel))
theorem se_X7_sizeOfWanderer : Cond.selects RX7 yX7_sizeOfWanderer yX7_sizeOfWanderer ∈ tws := (tws_of (List.mem_of_getElem? (i := 66) (by decide +kernel)) (by decide +kernel))
theorem cd_X7_wandererSize : Cond.code yX7_wandererSize cX7_wandererSize 2 (some .int) ∈ tws := (tws_of (List.mem_of_getElem? (i := 1330) (by decide +kernel)) (by decide +kernel))
theorem im_X7_wandererSize : Cond.instanceMethod yX7_wandererSize ∈ tws := (tws_of (List.mem_of_getElem? (i := 1329) (by decide +kernel)) (by decide +kernel))
theorem se_X7_wandererSize : Cond.selects RX7 yX7_wandererSize yX7_wandererSize ∈ tws := (tws_of (List.mem_of_getElem? (i := 67) (by decide +kernel)) (by decide +kernel))
theorem cd_X7_trace : Cond.code yX7_trace cX7_trace 2 (some .int) ∈ tws := (tws_of (List.mem_of_getElem? (i := 1334) (by decide +kernel)) (by decide +kernel))
theorem im_X7_trace : Cond.instanceMethod yX7_trace ∈ tws := (tws_of (List.mem_of_getElem? (i := 1332) (by decide +kernel)) (by decide +kernel))
theorem se_X7_trace : Cond.selects RX7 yX7_trace yX7_trace ∈ tws := (tws_of (List.mem_of_getElem? (i := 1333) (by decide +kernel)) (by decide +kernel))
theorem cd_X7_count : Cond.code yX7_count cX7_count 5 (some .int) ∈ tws := (tws_of (List.mem_of_getElem? (i := 1338) (by decide +kernel)) (by decide +kernel))
theorem im_X7_count : Cond.instanceMethod yX7_count ∈ tws := (tws_of (List.mem_of_getElem? (i := 1336) (by decide +kernel)) (by decide +kernel))
theorem se_X7_count : Cond.selects RX7 yX7_count yX7_count ∈ tws := (tws_of (List.mem_of_getElem? (i := 1337) (by decide +kernel)) (by decide +kernel))
theorem cd_X7_status : Cond.code yX7_status cX7_status 1 (some .int) ∈ tws := (tws_of (List.mem_of_getElem? (i := 1342) (by decide +kernel)) (by decide +kernel))
theorem im_X7_status : Cond.instanceMethod yX7_status ∈ tws := (tws_of (List.mem_of_getElem? (i := 1340) (by decide +kernel)) (by decide +kernel))
theorem se_X7_status : Cond.selects RX7 yX7_status yX7_status ∈ tws := (tws_of (List.mem_of_getElem? (i := 1341) (by decide +kernel)) (by decide +kernel))
theorem in_X0 : Cond.initialized "FishReaders$Acts" ∈ tws := (tws_of (List.mem_of_getElem? (i := 73) (by decide +kernel)) (by decide +kernel))
theorem in_X1 : Cond.initialized "FishReaders$Bodies" ∈ tws := (tws_of (List.mem_of_getElem? (i := 75) (by decide +kernel)) (by decide +kernel))
theorem in_X2 : Cond.initialized "FishReaders$Foretold" ∈ tws := (tws_of (List.mem_of_getElem? (i := 74) (by decide +kernel)) (by decide +kernel))
theorem in_X3 : Cond.initialized "FishReaders$Library" ∈ tws := (tws_of (List.mem_of_getElem? (i := 72) (by decide +kernel)) (by decide +kernel))
theorem in_X4 : Cond.initialized "FishReaders$Rows" ∈ tws := (tws_of (List.mem_of_getElem? (i := 70) (by decide +kernel)) (by decide +kernel))
theorem in_X5 : Cond.initialized "FishReaders$Tape" ∈ tws := (tws_of (List.mem_of_getElem? (i := 71) (by decide +kernel)) (by decide +kernel))
theorem in_X6 : Cond.initialized "FishReaders" ∈ tws := (tws_of (List.mem_of_getElem? (i := 69) (by decide +kernel)) (by decide +kernel))
theorem in_X7 : Cond.initialized "FishReadersModel" ∈ tws := (tws_of (List.mem_of_getElem? (i := 76) (by decide +kernel)) (by decide +kernel))
theorem in_J6 : Cond.initialized "java/lang/Integer" ∈ tws := (tws_of (List.mem_of_getElem? (i := 79) (by decide +kernel)) (by decide +kernel))
theorem in_J9 : Cond.initialized "java/lang/Math" ∈ tws := (tws_of (List.mem_of_getElem? (i := 78) (by decide +kernel)) (by decide +kernel))
theorem in_J10 : Cond.initialized "java/lang/System" ∈ tws := (tws_of (List.mem_of_getElem? (i := 77) (by decide +kernel)) (by decide +kernel))
theorem in_L : Cond.initialized "FishReadersLaw" ∈ tws := (tws_of (List.mem_of_getElem? (i := 68) (by decide +kernel)) (by decide +kernel))
theorem ml_L_13 : Cond.methodLink RL 13 yX6_row ∈ tws := (tws_of (List.mem_of_getElem? (i := 315) (by decide +kernel)) (by decide +kernel))
theorem ml_X6_64 : Cond.methodLink RX6 64 yX4_isRow ∈ tws := (tws_of (List.mem_of_getElem? (i := 319) (by decide +kernel)) (by decide +kernel))
theorem ml_X6_68 : Cond.methodLink RX6 68 yX4_isLane ∈ tws := (tws_of (List.mem_of_getElem? (i := 322) (by decide +kernel)) (by decide +kernel))
theorem ml_X6_72 : Cond.methodLink RX6 72 yX6_found ∈ tws := (tws_of (List.mem_of_getElem? (i := 326) (by decide +kernel)) (by decide +kernel))
theorem ml_X6_76 : Cond.methodLink RX6 76 yX4_make ∈ tws := (tws_of (List.mem_of_getElem? (i := 331) (by decide +kernel)) (by decide +kernel))
theorem ml_X4_28 : Cond.methodLink RX4 28 yX4_isRow ∈ tws := (tws_of (List.mem_of_getElem? (i := 335) (by decide +kernel)) (by decide +kernel))
theorem ml_X6_80 : Cond.methodLink RX6 80 yX6_foundNothing ∈ tws := (tws_of (List.mem_of_getElem? (i := 336) (by decide +kernel)) (by decide +kernel))
theorem ml_L_18 : Cond.methodLink RL 18 yX6_set ∈ tws := (tws_of (List.mem_of_getElem? (i := 340) (by decide +kernel)) (by decide +kernel))
theorem ml_X6_83 : Cond.methodLink RX6 83 yX4_findingAt ∈ tws := (tws_of (List.mem_of_getElem? (i := 344) (by decide +kernel)) (by decide +kernel))
theorem ml_X4_32 : Cond.methodLink RX4 32 yX4_isMissing ∈ tws := (tws_of (List.mem_of_getElem? (i := 348) (by decide +kernel)) (by decide +kernel))
theorem ml_X6_87 : Cond.methodLink RX6 87 yX4_put ∈ tws := (tws_of (List.mem_of_getElem? (i := 352) (by decide +kernel)) (by decide +kernel))
theorem ml_X4_35 : Cond.methodLink RX4 35 yX4_findingAt ∈ tws := (tws_of (List.mem_of_getElem? (i := 356) (by decide +kernel)) (by decide +kernel))
theorem ml_L_22 : Cond.methodLink RL 22 yX6_copy ∈ tws := (tws_of (List.mem_of_getElem? (i := 357) (by decide +kernel)) (by decide +kernel))
theorem ml_X6_90 : Cond.methodLink RX6 90 yX4_findingOfCopy ∈ tws := (tws_of (List.mem_of_getElem? (i := 361) (by decide +kernel)) (by decide +kernel))
theorem ml_X6_94 : Cond.methodLink RX6 94 yX4_shift ∈ tws := (tws_of (List.mem_of_getElem? (i := 365) (by decide +kernel)) (by decide +kernel))
theorem ml_X4_39 : Cond.methodLink RX4 39 yX4_findingOfCopy ∈ tws := (tws_of (List.mem_of_getElem? (i := 369) (by decide +kernel)) (by decide +kernel))
theorem ml_L_27 : Cond.methodLink RL 27 yX6_drop ∈ tws := (tws_of (List.mem_of_getElem? (i := 373) (by decide +kernel)) (by decide +kernel))
theorem ml_X6_98 : Cond.methodLink RX6 98 yX4_isMissing ∈ tws := (tws_of (List.mem_of_getElem? (i := 377) (by decide +kernel)) (by decide +kernel))
theorem ml_X6_101 : Cond.methodLink RX6 101 yX4_remove ∈ tws := (tws_of (List.mem_of_getElem? (i := 378) (by decide +kernel)) (by decide +kernel))
theorem ml_L_32 : Cond.methodLink RL 32 yX6_feed ∈ tws := (tws_of (List.mem_of_getElem? (i := 382) (by decide +kernel)) (by decide +kernel))
theorem ml_X6_104 : Cond.methodLink RX6 104 yX6_isWithin ∈ tws := (tws_of (List.mem_of_getElem? (i := 386) (by decide +kernel)) (by decide +kernel))
theorem ml_X6_108 : Cond.methodLink RX6 108 yX5_add ∈ tws := (tws_of (List.mem_of_getElem? (i := 389) (by decide +kernel)) (by decide +kernel))
theorem ml_L_36 : Cond.methodLink RL 36 yX6_library ∈ tws := (tws_of (List.mem_of_getElem? (i := 394) (by decide +kernel)) (by decide +kernel))
theorem ml_X6_115 : Cond.methodLink RX6 115 yX5_readInto ∈ tws := (tws_of (List.mem_of_getElem? (i := 398) (by decide +kernel)) (by decide +kernel))
theorem ml_X5_29 : Cond.methodLink RX5 29 yX3_clear ∈ tws := (tws_of (List.mem_of_getElem? (i := 402) (by decide +kernel)) (by decide +kernel))
theorem ml_X5_34 : Cond.methodLink RX5 34 yX5_readLaw ∈ tws := (tws_of (List.mem_of_getElem? (i := 406) (by decide +kernel)) (by decide +kernel))
theorem ml_X5_44 : Cond.methodLink RX5 44 yX5_pass ∈ tws := (tws_of (List.mem_of_getElem? (i := 410) (by decide +kernel)) (by decide +kernel))
theorem ml_X5_58 : Cond.methodLink RX5 58 yX5_next ∈ tws := (tws_of (List.mem_of_getElem? (i := 414) (by decide +kernel)) (by decide +kernel))
theorem ml_X5_68 : Cond.methodLink RX5 68 yX5_isFine ∈ tws := (tws_of (List.mem_of_getElem? (i := 418) (by decide +kernel)) (by decide +kernel))
theorem ml_X5_62 : Cond.methodLink RX5 62 yX5_fail ∈ tws := (tws_of (List.mem_of_getElem? (i := 422) (by decide +kernel)) (by decide +kernel))
theorem ml_X5_48 : Cond.methodLink RX5 48 yX5_number ∈ tws := (tws_of (List.mem_of_getElem? (i := 426) (by decide +kernel)) (by decide +kernel))
theorem ml_X5_86 : Cond.methodLink RX5 86 yX5_isFigure ∈ tws := (tws_of (List.mem_of_getElem? (i := 430) (by decide +kernel)) (by decide +kernel))
theorem ml_X5_38 : Cond.methodLink RX5 38 yX5_readBooks ∈ tws := (tws_of (List.mem_of_getElem? (i := 433) (by decide +kernel)) (by decide +kernel))
theorem ml_X5_72 : Cond.methodLink RX5 72 yX3_addBook ∈ tws := (tws_of (List.mem_of_getElem? (i := 437) (by decide +kernel)) (by decide +kernel))
theorem ml_X5_41 : Cond.methodLink RX5 41 yX5_readFish ∈ tws := (tws_of (List.mem_of_getElem? (i := 441) (by decide +kernel)) (by decide +kernel))
theorem ml_X5_76 : Cond.methodLink RX5 76 yX5_kindOfSort ∈ tws := (tws_of (List.mem_of_getElem? (i := 445) (by decide +kernel)) (by decide +kernel))
theorem ml_X5_83 : Cond.methodLink RX5 83 yX3_addFish ∈ tws := (tws_of (List.mem_of_getElem? (i := 448) (by decide +kernel)) (by decide +kernel))
theorem ml_X6_121 : Cond.methodLink RX6 121 yX3_take ∈ tws := (tws_of (List.mem_of_getElem? (i := 454) (by decide +kernel)) (by decide +kernel))
theorem ml_X6_125 : Cond.methodLink RX6 125 yX0_forget ∈ tws := (tws_of (List.mem_of_getElem? (i := 458) (by decide +kernel)) (by decide +kernel))
theorem ml_L_41 : Cond.methodLink RL 41 yX6_fault ∈ tws := (tws_of (List.mem_of_getElem? (i := 462) (by decide +kernel)) (by decide +kernel))
theorem ml_L_45 : Cond.methodLink RL 45 yX6_undo ∈ tws := (tws_of (List.mem_of_getElem? (i := 466) (by decide +kernel)) (by decide +kernel))
theorem ml_X6_138 : Cond.methodLink RX6 138 yX0_bringBack ∈ tws := (tws_of (List.mem_of_getElem? (i := 471) (by decide +kernel)) (by decide +kernel))
theorem ml_X0_25 : Cond.methodLink RX0 25 yX0_slotAt ∈ tws := (tws_of (List.mem_of_getElem? (i := 475) (by decide +kernel)) (by decide +kernel))
theorem ml_X0_29 : Cond.methodLink RX0 29 yX3_take ∈ tws := (tws_of (List.mem_of_getElem? (i := 479) (by decide +kernel)) (by decide +kernel))
theorem ml_L_49 : Cond.methodLink RL 49 yX6_nights ∈ tws := (tws_of (List.mem_of_getElem? (i := 480) (by decide +kernel)) (by decide +kernel))
theorem ml_X6_141 : Cond.methodLink RX6 141 yX3_isTold ∈ tws := (tws_of (List.mem_of_getElem? (i := 484) (by decide +kernel)) (by decide +kernel))
theorem ml_X6_148 : Cond.methodLink RX6 148 yX0_remember ∈ tws := (tws_of (List.mem_of_getElem? (i := 488) (by decide +kernel)) (by decide +kernel))
theorem ml_X0_33 : Cond.methodLink RX0 33 yJ9_min_7cf53 ∈ tws := (tws_of (List.mem_of_getElem? (i := 492) (by decide +kernel)) (by decide +kernel))
theorem ml_X6_151 : Cond.methodLink RX6 151 yX3_passNight ∈ tws := (tws_of (List.mem_of_getElem? (i := 495) (by decide +kernel)) (by decide +kernel))
theorem ml_X3_69 : Cond.methodLink RX3 69 yX3_isCaught ∈ tws := (tws_of (List.mem_of_getElem? (i := 499) (by decide +kernel)) (by decide +kernel))
theorem ml_X3_89 : Cond.methodLink RX3 89 yX3_nextPlace ∈ tws := (tws_of (List.mem_of_getElem? (i := 503) (by decide +kernel)) (by decide +kernel))
theorem ml_X3_99 : Cond.methodLink RX3 99 yX3_bookIn ∈ tws := (tws_of (List.mem_of_getElem? (i := 507) (by decide +kernel)) (by decide +kernel))
theorem ml_X3_61 : Cond.methodLink RX3 61 yX3_isBook ∈ tws := (tws_of (List.mem_of_getElem? (i := 511) (by decide +kernel)) (by decide +kernel))
theorem ml_X3_111 : Cond.methodLink RX3 111 yX3_upFrom ∈ tws := (tws_of (List.mem_of_getElem? (i := 516) (by decide +kernel)) (by decide +kernel))
theorem ml_X3_102 : Cond.methodLink RX3 102 yX3_isClosed ∈ tws := (tws_of (List.mem_of_getElem? (i := 520) (by decide +kernel)) (by decide +kernel))
theorem ml_X3_114 : Cond.methodLink RX3 114 yX3_likedPlace ∈ tws := (tws_of (List.mem_of_getElem? (i := 524) (by decide +kernel)) (by decide +kernel))
theorem ml_X3_120 : Cond.methodLink RX3 120 yJ9_abs_0f7a4 ∈ tws := (tws_of (List.mem_of_getElem? (i := 528) (by decide +kernel)) (by decide +kernel))
theorem ml_X3_117 : Cond.methodLink RX3 117 yX3_towards ∈ tws := (tws_of (List.mem_of_getElem? (i := 531) (by decide +kernel)) (by decide +kernel))
theorem ml_X3_92 : Cond.methodLink RX3 92 yX3_eat ∈ tws := (tws_of (List.mem_of_getElem? (i := 534) (by decide +kernel)) (by decide +kernel))
theorem ml_X3_105 : Cond.methodLink RX3 105 yJ9_min_7cf53 ∈ tws := (tws_of (List.mem_of_getElem? (i := 538) (by decide +kernel)) (by decide +kernel))
theorem ml_X3_96 : Cond.methodLink RX3 96 yX3_dampen ∈ tws := (tws_of (List.mem_of_getElem? (i := 539) (by decide +kernel)) (by decide +kernel))
theorem ml_X6_154 : Cond.methodLink RX6 154 yX3_pagesOfAll ∈ tws := (tws_of (List.mem_of_getElem? (i := 543) (by decide +kernel)) (by decide +kernel))
theorem ml_X3_72 : Cond.methodLink RX3 72 yX3_allBooks ∈ tws := (tws_of (List.mem_of_getElem? (i := 547) (by decide +kernel)) (by decide +kernel))
theorem ml_X3_76 : Cond.methodLink RX3 76 yX3_pagesOf ∈ tws := (tws_of (List.mem_of_getElem? (i := 551) (by decide +kernel)) (by decide +kernel))
theorem ml_L_53 : Cond.methodLink RL 53 yX6_light ∈ tws := (tws_of (List.mem_of_getElem? (i := 555) (by decide +kernel)) (by decide +kernel))
theorem ml_X6_158 : Cond.methodLink RX6 158 yX3_isBook ∈ tws := (tws_of (List.mem_of_getElem? (i := 559) (by decide +kernel)) (by decide +kernel))
theorem ml_X6_164 : Cond.methodLink RX6 164 yX6_bitOf ∈ tws := (tws_of (List.mem_of_getElem? (i := 560) (by decide +kernel)) (by decide +kernel))
theorem ml_X6_168 : Cond.methodLink RX6 168 yJ6_bitCount_0f7a4 ∈ tws := (tws_of (List.mem_of_getElem? (i := 563) (by decide +kernel)) (by decide +kernel))
theorem ml_L_58 : Cond.methodLink RL 58 yX6_keepIt ∈ tws := (tws_of (List.mem_of_getElem? (i := 569) (by decide +kernel)) (by decide +kernel))
theorem ml_L_62 : Cond.methodLink RL 62 yX6_change ∈ tws := (tws_of (List.mem_of_getElem? (i := 573) (by decide +kernel)) (by decide +kernel))
theorem ml_X6_181 : Cond.methodLink RX6 181 yX3_put ∈ tws := (tws_of (List.mem_of_getElem? (i := 577) (by decide +kernel)) (by decide +kernel))
theorem ml_X3_66 : Cond.methodLink RX3 66 yX3_isPlace ∈ tws := (tws_of (List.mem_of_getElem? (i := 581) (by decide +kernel)) (by decide +kernel))
theorem ml_L_66 : Cond.methodLink RL 66 yX6_move ∈ tws := (tws_of (List.mem_of_getElem? (i := 585) (by decide +kernel)) (by decide +kernel))
theorem ml_X6_184 : Cond.methodLink RX6 184 yX3_isFish ∈ tws := (tws_of (List.mem_of_getElem? (i := 589) (by decide +kernel)) (by decide +kernel))
theorem ml_X6_187 : Cond.methodLink RX6 187 yX3_isPlace ∈ tws := (tws_of (List.mem_of_getElem? (i := 593) (by decide +kernel)) (by decide +kernel))
theorem ml_X6_193 : Cond.methodLink RX6 193 yX3_isCaught ∈ tws := (tws_of (List.mem_of_getElem? (i := 594) (by decide +kernel)) (by decide +kernel))
theorem ml_L_70 : Cond.methodLink RL 70 yX6_catchIt ∈ tws := (tws_of (List.mem_of_getElem? (i := 595) (by decide +kernel)) (by decide +kernel))
theorem ml_L_74 : Cond.methodLink RL 74 yX6_book ∈ tws := (tws_of (List.mem_of_getElem? (i := 599) (by decide +kernel)) (by decide +kernel))
theorem ml_X6_205 : Cond.methodLink RX6 205 yX3_fishIn ∈ tws := (tws_of (List.mem_of_getElem? (i := 603) (by decide +kernel)) (by decide +kernel))
theorem ml_L_78 : Cond.methodLink RL 78 yX6_fish ∈ tws := (tws_of (List.mem_of_getElem? (i := 607) (by decide +kernel)) (by decide +kernel))
theorem ml_X6_211 : Cond.methodLink RX6 211 yX3_likedPlace ∈ tws := (tws_of (List.mem_of_getElem? (i := 611) (by decide +kernel)) (by decide +kernel))
theorem ml_X6_214 : Cond.methodLink RX6 214 yX3_bookIn ∈ tws := (tws_of (List.mem_of_getElem? (i := 612) (by decide +kernel)) (by decide +kernel))
theorem ml_L_82 : Cond.methodLink RL 82 yX6_stand ∈ tws := (tws_of (List.mem_of_getElem? (i := 613) (by decide +kernel)) (by decide +kernel))
theorem ml_L_86 : Cond.methodLink RL 86 yX6_ahead ∈ tws := (tws_of (List.mem_of_getElem? (i := 617) (by decide +kernel)) (by decide +kernel))
theorem ml_X6_220 : Cond.methodLink RX6 220 yX2_behind ∈ tws := (tws_of (List.mem_of_getElem? (i := 621) (by decide +kernel)) (by decide +kernel))
theorem ml_X2_25 : Cond.methodLink RX2 25 yX3_take ∈ tws := (tws_of (List.mem_of_getElem? (i := 625) (by decide +kernel)) (by decide +kernel))
theorem ml_X2_29 : Cond.methodLink RX2 29 yX3_passNights ∈ tws := (tws_of (List.mem_of_getElem? (i := 626) (by decide +kernel)) (by decide +kernel))
theorem ml_X3_86 : Cond.methodLink RX3 86 yX3_passNight ∈ tws := (tws_of (List.mem_of_getElem? (i := 630) (by decide +kernel)) (by decide +kernel))
theorem ml_L_90 : Cond.methodLink RL 90 yX6_later ∈ tws := (tws_of (List.mem_of_getElem? (i := 631) (by decide +kernel)) (by decide +kernel))
theorem ml_L_94 : Cond.methodLink RL 94 yX6_when ∈ tws := (tws_of (List.mem_of_getElem? (i := 635) (by decide +kernel)) (by decide +kernel))
theorem ml_X6_224 : Cond.methodLink RX6 224 yX2_nightsTillEmpty ∈ tws := (tws_of (List.mem_of_getElem? (i := 639) (by decide +kernel)) (by decide +kernel))
theorem ml_X2_33 : Cond.methodLink RX2 33 yX3_booksWithPages ∈ tws := (tws_of (List.mem_of_getElem? (i := 643) (by decide +kernel)) (by decide +kernel))
theorem ml_X2_37 : Cond.methodLink RX2 37 yX3_passNight ∈ tws := (tws_of (List.mem_of_getElem? (i := 647) (by decide +kernel)) (by decide +kernel))
theorem ml_L_98 : Cond.methodLink RL 98 yX6_first ∈ tws := (tws_of (List.mem_of_getElem? (i := 649) (by decide +kernel)) (by decide +kernel))
theorem ml_X6_228 : Cond.methodLink RX6 228 yX3_booksWithPages ∈ tws := (tws_of (List.mem_of_getElem? (i := 653) (by decide +kernel)) (by decide +kernel))
theorem ml_X6_231 : Cond.methodLink RX6 231 yX2_emptyOneOf ∈ tws := (tws_of (List.mem_of_getElem? (i := 654) (by decide +kernel)) (by decide +kernel))
theorem ml_L_102 : Cond.methodLink RL 102 yX6_hole ∈ tws := (tws_of (List.mem_of_getElem? (i := 658) (by decide +kernel)) (by decide +kernel))
theorem ml_L_106 : Cond.methodLink RL 106 yX6_order ∈ tws := (tws_of (List.mem_of_getElem? (i := 662) (by decide +kernel)) (by decide +kernel))
theorem ml_X6_237 : Cond.methodLink RX6 237 yX3_allBooks ∈ tws := (tws_of (List.mem_of_getElem? (i := 666) (by decide +kernel)) (by decide +kernel))
theorem ml_X6_240 : Cond.methodLink RX6 240 yX2_bestOrder ∈ tws := (tws_of (List.mem_of_getElem? (i := 667) (by decide +kernel)) (by decide +kernel))
theorem ml_X2_41 : Cond.methodLink RX2 41 yX3_put ∈ tws := (tws_of (List.mem_of_getElem? (i := 671) (by decide +kernel)) (by decide +kernel))
theorem ml_X2_45 : Cond.methodLink RX2 45 yX3_pagesOf ∈ tws := (tws_of (List.mem_of_getElem? (i := 672) (by decide +kernel)) (by decide +kernel))
theorem ml_X2_59 : Cond.methodLink RX2 59 yJ9_min_7cf53 ∈ tws := (tws_of (List.mem_of_getElem? (i := 674) (by decide +kernel)) (by decide +kernel))
theorem ml_X2_65 : Cond.methodLink RX2 65 yX2_nextOrder ∈ tws := (tws_of (List.mem_of_getElem? (i := 675) (by decide +kernel)) (by decide +kernel))
theorem ml_X2_69 : Cond.methodLink RX2 69 yX2_swap ∈ tws := (tws_of (List.mem_of_getElem? (i := 679) (by decide +kernel)) (by decide +kernel))
theorem ml_L_110 : Cond.methodLink RL 110 yX6_lamp ∈ tws := (tws_of (List.mem_of_getElem? (i := 683) (by decide +kernel)) (by decide +kernel))
theorem ml_X6_247 : Cond.methodLink RX6 247 yX2_bestLamps ∈ tws := (tws_of (List.mem_of_getElem? (i := 687) (by decide +kernel)) (by decide +kernel))
theorem ml_X2_78 : Cond.methodLink RX2 78 yX3_allBooks ∈ tws := (tws_of (List.mem_of_getElem? (i := 691) (by decide +kernel)) (by decide +kernel))
theorem ml_X2_81 : Cond.methodLink RX2 81 yJ6_bitCount_0f7a4 ∈ tws := (tws_of (List.mem_of_getElem? (i := 692) (by decide +kernel)) (by decide +kernel))
theorem ml_X2_89 : Cond.methodLink RX2 89 yX2_pagesIfLit ∈ tws := (tws_of (List.mem_of_getElem? (i := 693) (by decide +kernel)) (by decide +kernel))
theorem ml_X6_250 : Cond.methodLink RX6 250 yX2_pagesIfLit ∈ tws := (tws_of (List.mem_of_getElem? (i := 697) (by decide +kernel)) (by decide +kernel))
theorem ml_L_114 : Cond.methodLink RL 114 yX6_caught ∈ tws := (tws_of (List.mem_of_getElem? (i := 698) (by decide +kernel)) (by decide +kernel))
theorem ml_X6_254 : Cond.methodLink RX6 254 yX2_fewestCaught ∈ tws := (tws_of (List.mem_of_getElem? (i := 702) (by decide +kernel)) (by decide +kernel))
theorem ml_L_118 : Cond.methodLink RL 118 yX6_grams ∈ tws := (tws_of (List.mem_of_getElem? (i := 706) (by decide +kernel)) (by decide +kernel))
theorem ml_X6_257 : Cond.methodLink RX6 257 yX3_gramsOf ∈ tws := (tws_of (List.mem_of_getElem? (i := 710) (by decide +kernel)) (by decide +kernel))
theorem ml_X3_80 : Cond.methodLink RX3 80 yX3_dustOf ∈ tws := (tws_of (List.mem_of_getElem? (i := 714) (by decide +kernel)) (by decide +kernel))
theorem ml_X3_83 : Cond.methodLink RX3 83 yX3_isFish ∈ tws := (tws_of (List.mem_of_getElem? (i := 718) (by decide +kernel)) (by decide +kernel))
theorem ml_L_122 : Cond.methodLink RL 122 yX6_who ∈ tws := (tws_of (List.mem_of_getElem? (i := 719) (by decide +kernel)) (by decide +kernel))
theorem ml_X6_260 : Cond.methodLink RX6 260 yX4_pick ∈ tws := (tws_of (List.mem_of_getElem? (i := 723) (by decide +kernel)) (by decide +kernel))
theorem ml_X6_263 : Cond.methodLink RX6 263 yX2_kindsThatFit ∈ tws := (tws_of (List.mem_of_getElem? (i := 727) (by decide +kernel)) (by decide +kernel))
theorem ml_X2_102 : Cond.methodLink RX2 102 yX2_fits ∈ tws := (tws_of (List.mem_of_getElem? (i := 731) (by decide +kernel)) (by decide +kernel))
theorem ml_X2_115 : Cond.methodLink RX2 115 yX4_howManyTold ∈ tws := (tws_of (List.mem_of_getElem? (i := 735) (by decide +kernel)) (by decide +kernel))
theorem ml_X2_120 : Cond.methodLink RX2 120 yX4_told ∈ tws := (tws_of (List.mem_of_getElem? (i := 739) (by decide +kernel)) (by decide +kernel))
theorem ml_X6_267 : Cond.methodLink RX6 267 yX2_placesThatFit ∈ tws := (tws_of (List.mem_of_getElem? (i := 744) (by decide +kernel)) (by decide +kernel))
theorem ml_L_127 : Cond.methodLink RL 127 yX6_paste ∈ tws := (tws_of (List.mem_of_getElem? (i := 748) (by decide +kernel)) (by decide +kernel))
theorem ml_X6_270 : Cond.methodLink RX6 270 yX2_pastesThatFit ∈ tws := (tws_of (List.mem_of_getElem? (i := 752) (by decide +kernel)) (by decide +kernel))
theorem ml_L_131 : Cond.methodLink RL 131 yX6_hungers ∈ tws := (tws_of (List.mem_of_getElem? (i := 756) (by decide +kernel)) (by decide +kernel))
theorem ml_X6_273 : Cond.methodLink RX6 273 yX2_hungersThatFit ∈ tws := (tws_of (List.mem_of_getElem? (i := 760) (by decide +kernel)) (by decide +kernel))
theorem ml_L_136 : Cond.methodLink RL 136 yX6_dark ∈ tws := (tws_of (List.mem_of_getElem? (i := 764) (by decide +kernel)) (by decide +kernel))
theorem ml_X6_279 : Cond.methodLink RX6 279 yX2_casesWithPages ∈ tws := (tws_of (List.mem_of_getElem? (i := 769) (by decide +kernel)) (by decide +kernel))
theorem ml_X6_283 : Cond.methodLink RX6 283 yX6_power ∈ tws := (tws_of (List.mem_of_getElem? (i := 776) (by decide +kernel)) (by decide +kernel))
theorem ml_X6_287 : Cond.methodLink RX6 287 yX6_commonDivisor ∈ tws := (tws_of (List.mem_of_getElem? (i := 777) (by decide +kernel)) (by decide +kernel))
theorem ml_L_141 : Cond.methodLink RL 141 yX6_drawn ∈ tws := (tws_of (List.mem_of_getElem? (i := 780) (by decide +kernel)) (by decide +kernel))
theorem ml_X6_292 : Cond.methodLink RX6 292 yX2_behindCenturies ∈ tws := (tws_of (List.mem_of_getElem? (i := 785) (by decide +kernel)) (by decide +kernel))
theorem ml_X2_131 : Cond.methodLink RX2 131 yX2_drawLamp ∈ tws := (tws_of (List.mem_of_getElem? (i := 791) (by decide +kernel)) (by decide +kernel))
theorem ml_L_145 : Cond.methodLink RL 145 yX6_image ∈ tws := (tws_of (List.mem_of_getElem? (i := 797) (by decide +kernel)) (by decide +kernel))
theorem ml_L_149 : Cond.methodLink RL 149 yX6_restore ∈ tws := (tws_of (List.mem_of_getElem? (i := 801) (by decide +kernel)) (by decide +kernel))
theorem ml_L_153 : Cond.methodLink RL 153 yX6_kind ∈ tws := (tws_of (List.mem_of_getElem? (i := 805) (by decide +kernel)) (by decide +kernel))
theorem ml_L_157 : Cond.methodLink RL 157 yX6_as ∈ tws := (tws_of (List.mem_of_getElem? (i := 809) (by decide +kernel)) (by decide +kernel))
theorem ml_X6_302 : Cond.methodLink RX6 302 yX6_isKind ∈ tws := (tws_of (List.mem_of_getElem? (i := 813) (by decide +kernel)) (by decide +kernel))
theorem ml_L_161 : Cond.methodLink RL 161 yX6_ask ∈ tws := (tws_of (List.mem_of_getElem? (i := 818) (by decide +kernel)) (by decide +kernel))
theorem ml_X6_306 : Cond.methodLink RX6 306 yX1_begin ∈ tws := (tws_of (List.mem_of_getElem? (i := 822) (by decide +kernel)) (by decide +kernel))
theorem ml_X6_310 : Cond.methodLink RX6 310 yX1_sizeAsked ∈ tws := (tws_of (List.mem_of_getElem? (i := 826) (by decide +kernel)) (by decide +kernel))
theorem ml_X1_36 : Cond.methodLink RX1 36 yX1_sizeOfWanderer ∈ tws := (tws_of (List.mem_of_getElem? (i := 831) (by decide +kernel)) (by decide +kernel))
theorem ml_X1_49 : Cond.methodLink RX1 49 yX1_leave ∈ tws := (tws_of (List.mem_of_getElem? (i := 835) (by decide +kernel)) (by decide +kernel))
theorem ml_X1_40 : Cond.methodLink RX1 40 yX1_sizeOfReader ∈ tws := (tws_of (List.mem_of_getElem? (i := 839) (by decide +kernel)) (by decide +kernel))
theorem ml_X1_46 : Cond.methodLink RX1 46 yX1_markOfReader ∈ tws := (tws_of (List.mem_of_getElem? (i := 843) (by decide +kernel)) (by decide +kernel))
theorem ml_X6_313 : Cond.methodLink RX6 313 yX1_markAsked ∈ tws := (tws_of (List.mem_of_getElem? (i := 847) (by decide +kernel)) (by decide +kernel))
theorem ml_X1_43 : Cond.methodLink RX1 43 yX1_markOfWanderer ∈ tws := (tws_of (List.mem_of_getElem? (i := 851) (by decide +kernel)) (by decide +kernel))
theorem ml_L_165 : Cond.methodLink RL 165 yX6_trace ∈ tws := (tws_of (List.mem_of_getElem? (i := 855) (by decide +kernel)) (by decide +kernel))
theorem ml_X6_316 : Cond.methodLink RX6 316 yX1_left ∈ tws := (tws_of (List.mem_of_getElem? (i := 859) (by decide +kernel)) (by decide +kernel))
theorem ml_L_169 : Cond.methodLink RL 169 yX6_count ∈ tws := (tws_of (List.mem_of_getElem? (i := 864) (by decide +kernel)) (by decide +kernel))
theorem ml_X6_319 : Cond.methodLink RX6 319 yX4_standing ∈ tws := (tws_of (List.mem_of_getElem? (i := 868) (by decide +kernel)) (by decide +kernel))
theorem ml_X6_322 : Cond.methodLink RX6 322 yX3_dustOf ∈ tws := (tws_of (List.mem_of_getElem? (i := 872) (by decide +kernel)) (by decide +kernel))
theorem ml_L_173 : Cond.methodLink RL 173 yX6_status ∈ tws := (tws_of (List.mem_of_getElem? (i := 873) (by decide +kernel)) (by decide +kernel))
theorem ml_L_17 : Cond.methodLink RL 17 yX7_row ∈ tws := (tws_of (List.mem_of_getElem? (i := 963) (by decide +kernel)) (by decide +kernel))
theorem ml_X7_67 : Cond.methodLink RX7 67 yX7_isRow ∈ tws := (tws_of (List.mem_of_getElem? (i := 967) (by decide +kernel)) (by decide +kernel))
theorem ml_X7_63 : Cond.methodLink RX7 63 yX7_in ∈ tws := (tws_of (List.mem_of_getElem? (i := 971) (by decide +kernel)) (by decide +kernel))
theorem ml_X7_74 : Cond.methodLink RX7 74 yX7_find ∈ tws := (tws_of (List.mem_of_getElem? (i := 976) (by decide +kernel)) (by decide +kernel))
theorem ml_X7_78 : Cond.methodLink RX7 78 yX7_well ∈ tws := (tws_of (List.mem_of_getElem? (i := 981) (by decide +kernel)) (by decide +kernel))
theorem ml_L_21 : Cond.methodLink RL 21 yX7_set ∈ tws := (tws_of (List.mem_of_getElem? (i := 985) (by decide +kernel)) (by decide +kernel))
theorem ml_X7_81 : Cond.methodLink RX7 81 yX7_asLane ∈ tws := (tws_of (List.mem_of_getElem? (i := 989) (by decide +kernel)) (by decide +kernel))
theorem ml_L_26 : Cond.methodLink RL 26 yX7_copy ∈ tws := (tws_of (List.mem_of_getElem? (i := 992) (by decide +kernel)) (by decide +kernel))
theorem ml_L_31 : Cond.methodLink RL 31 yX7_drop ∈ tws := (tws_of (List.mem_of_getElem? (i := 996) (by decide +kernel)) (by decide +kernel))
theorem ml_L_35 : Cond.methodLink RL 35 yX7_feed ∈ tws := (tws_of (List.mem_of_getElem? (i := 1000) (by decide +kernel)) (by decide +kernel))
theorem ml_L_40 : Cond.methodLink RL 40 yX7_library ∈ tws := (tws_of (List.mem_of_getElem? (i := 1006) (by decide +kernel)) (by decide +kernel))
theorem ml_X7_140 : Cond.methodLink RX7 140 yX7_readLibrary ∈ tws := (tws_of (List.mem_of_getElem? (i := 1010) (by decide +kernel)) (by decide +kernel))
theorem ml_X7_120 : Cond.methodLink RX7 120 yX7_nextToken ∈ tws := (tws_of (List.mem_of_getElem? (i := 1014) (by decide +kernel)) (by decide +kernel))
theorem ml_X7_123 : Cond.methodLink RX7 123 yX7_takes ∈ tws := (tws_of (List.mem_of_getElem? (i := 1022) (by decide +kernel)) (by decide +kernel))
theorem ml_X7_114 : Cond.methodLink RX7 114 yX7_isLetter ∈ tws := (tws_of (List.mem_of_getElem? (i := 1026) (by decide +kernel)) (by decide +kernel))
theorem ml_X7_117 : Cond.methodLink RX7 117 yX7_faults ∈ tws := (tws_of (List.mem_of_getElem? (i := 1030) (by decide +kernel)) (by decide +kernel))
theorem ml_X7_126 : Cond.methodLink RX7 126 yX7_takesNumber ∈ tws := (tws_of (List.mem_of_getElem? (i := 1034) (by decide +kernel)) (by decide +kernel))
theorem ml_X7_130 : Cond.methodLink RX7 130 yX7_kindBy ∈ tws := (tws_of (List.mem_of_getElem? (i := 1038) (by decide +kernel)) (by decide +kernel))
theorem ml_X7_133 : Cond.methodLink RX7 133 yX7_readFish ∈ tws := (tws_of (List.mem_of_getElem? (i := 1041) (by decide +kernel)) (by decide +kernel))
theorem ml_X7_136 : Cond.methodLink RX7 136 yX7_readBook ∈ tws := (tws_of (List.mem_of_getElem? (i := 1045) (by decide +kernel)) (by decide +kernel))
theorem ml_L_44 : Cond.methodLink RL 44 yX7_fault ∈ tws := (tws_of (List.mem_of_getElem? (i := 1050) (by decide +kernel)) (by decide +kernel))
theorem ml_L_48 : Cond.methodLink RL 48 yX7_undo ∈ tws := (tws_of (List.mem_of_getElem? (i := 1054) (by decide +kernel)) (by decide +kernel))
theorem ml_L_52 : Cond.methodLink RL 52 yX7_nights ∈ tws := (tws_of (List.mem_of_getElem? (i := 1059) (by decide +kernel)) (by decide +kernel))
theorem ml_X7_184 : Cond.methodLink RX7 184 yX7_note ∈ tws := (tws_of (List.mem_of_getElem? (i := 1064) (by decide +kernel)) (by decide +kernel))
theorem ml_X7_187 : Cond.methodLink RX7 187 yX7_oneNight ∈ tws := (tws_of (List.mem_of_getElem? (i := 1068) (by decide +kernel)) (by decide +kernel))
theorem ml_X7_171 : Cond.methodLink RX7 171 yX7_isCaught ∈ tws := (tws_of (List.mem_of_getElem? (i := 1072) (by decide +kernel)) (by decide +kernel))
theorem ml_X7_154 : Cond.methodLink RX7 154 yX7_has ∈ tws := (tws_of (List.mem_of_getElem? (i := 1076) (by decide +kernel)) (by decide +kernel))
theorem ml_X7_174 : Cond.methodLink RX7 174 yX7_goesTo ∈ tws := (tws_of (List.mem_of_getElem? (i := 1079) (by decide +kernel)) (by decide +kernel))
theorem ml_X7_159 : Cond.methodLink RX7 159 yX7_bookAt ∈ tws := (tws_of (List.mem_of_getElem? (i := 1083) (by decide +kernel)) (by decide +kernel))
theorem ml_X7_168 : Cond.methodLink RX7 168 yX7_likedBy ∈ tws := (tws_of (List.mem_of_getElem? (i := 1087) (by decide +kernel)) (by decide +kernel))
theorem ml_X7_162 : Cond.methodLink RX7 162 yX7_likes ∈ tws := (tws_of (List.mem_of_getElem? (i := 1092) (by decide +kernel)) (by decide +kernel))
theorem ml_X7_165 : Cond.methodLink RX7 165 yX7_isShut ∈ tws := (tws_of (List.mem_of_getElem? (i := 1096) (by decide +kernel)) (by decide +kernel))
theorem ml_X7_177 : Cond.methodLink RX7 177 yX7_eats ∈ tws := (tws_of (List.mem_of_getElem? (i := 1100) (by decide +kernel)) (by decide +kernel))
theorem ml_X7_190 : Cond.methodLink RX7 190 yX7_allPages ∈ tws := (tws_of (List.mem_of_getElem? (i := 1104) (by decide +kernel)) (by decide +kernel))
theorem ml_L_57 : Cond.methodLink RL 57 yX7_light ∈ tws := (tws_of (List.mem_of_getElem? (i := 1108) (by decide +kernel)) (by decide +kernel))
theorem ml_X7_194 : Cond.methodLink RX7 194 yX7_isBook ∈ tws := (tws_of (List.mem_of_getElem? (i := 1112) (by decide +kernel)) (by decide +kernel))
theorem ml_X7_197 : Cond.methodLink RX7 197 yX7_ones ∈ tws := (tws_of (List.mem_of_getElem? (i := 1116) (by decide +kernel)) (by decide +kernel))
theorem ml_L_61 : Cond.methodLink RL 61 yX7_keepIt ∈ tws := (tws_of (List.mem_of_getElem? (i := 1119) (by decide +kernel)) (by decide +kernel))
theorem ml_L_65 : Cond.methodLink RL 65 yX7_change ∈ tws := (tws_of (List.mem_of_getElem? (i := 1123) (by decide +kernel)) (by decide +kernel))
theorem ml_L_69 : Cond.methodLink RL 69 yX7_move ∈ tws := (tws_of (List.mem_of_getElem? (i := 1127) (by decide +kernel)) (by decide +kernel))
theorem ml_X7_200 : Cond.methodLink RX7 200 yX7_isFish ∈ tws := (tws_of (List.mem_of_getElem? (i := 1131) (by decide +kernel)) (by decide +kernel))
theorem ml_L_73 : Cond.methodLink RL 73 yX7_catchIt ∈ tws := (tws_of (List.mem_of_getElem? (i := 1135) (by decide +kernel)) (by decide +kernel))
theorem ml_L_77 : Cond.methodLink RL 77 yX7_book ∈ tws := (tws_of (List.mem_of_getElem? (i := 1139) (by decide +kernel)) (by decide +kernel))
theorem ml_X7_203 : Cond.methodLink RX7 203 yX7_fishAt ∈ tws := (tws_of (List.mem_of_getElem? (i := 1143) (by decide +kernel)) (by decide +kernel))
theorem ml_L_81 : Cond.methodLink RL 81 yX7_fish ∈ tws := (tws_of (List.mem_of_getElem? (i := 1147) (by decide +kernel)) (by decide +kernel))
theorem ml_L_85 : Cond.methodLink RL 85 yX7_stand ∈ tws := (tws_of (List.mem_of_getElem? (i := 1152) (by decide +kernel)) (by decide +kernel))
theorem ml_L_89 : Cond.methodLink RL 89 yX7_ahead ∈ tws := (tws_of (List.mem_of_getElem? (i := 1156) (by decide +kernel)) (by decide +kernel))
theorem ml_X7_216 : Cond.methodLink RX7 216 yX7_isWhat ∈ tws := (tws_of (List.mem_of_getElem? (i := 1161) (by decide +kernel)) (by decide +kernel))
theorem ml_X7_219 : Cond.methodLink RX7 219 yX7_putAside ∈ tws := (tws_of (List.mem_of_getElem? (i := 1164) (by decide +kernel)) (by decide +kernel))
theorem ml_X7_208 : Cond.methodLink RX7 208 yX7_goOn ∈ tws := (tws_of (List.mem_of_getElem? (i := 1168) (by decide +kernel)) (by decide +kernel))
theorem ml_X7_211 : Cond.methodLink RX7 211 yX7_takeBack ∈ tws := (tws_of (List.mem_of_getElem? (i := 1172) (by decide +kernel)) (by decide +kernel))
theorem ml_L_93 : Cond.methodLink RL 93 yX7_later ∈ tws := (tws_of (List.mem_of_getElem? (i := 1176) (by decide +kernel)) (by decide +kernel))
theorem ml_L_97 : Cond.methodLink RL 97 yX7_when ∈ tws := (tws_of (List.mem_of_getElem? (i := 1180) (by decide +kernel)) (by decide +kernel))
theorem ml_L_101 : Cond.methodLink RL 101 yX7_first ∈ tws := (tws_of (List.mem_of_getElem? (i := 1184) (by decide +kernel)) (by decide +kernel))
theorem ml_X7_222 : Cond.methodLink RX7 222 yX7_emptySet ∈ tws := (tws_of (List.mem_of_getElem? (i := 1188) (by decide +kernel)) (by decide +kernel))
theorem ml_X7_225 : Cond.methodLink RX7 225 yX7_least ∈ tws := (tws_of (List.mem_of_getElem? (i := 1192) (by decide +kernel)) (by decide +kernel))
theorem ml_L_105 : Cond.methodLink RL 105 yX7_hole ∈ tws := (tws_of (List.mem_of_getElem? (i := 1195) (by decide +kernel)) (by decide +kernel))
theorem ml_L_109 : Cond.methodLink RL 109 yX7_order ∈ tws := (tws_of (List.mem_of_getElem? (i := 1199) (by decide +kernel)) (by decide +kernel))
theorem ml_X7_236 : Cond.methodLink RX7 236 yX7_pagesOf ∈ tws := (tws_of (List.mem_of_getElem? (i := 1205) (by decide +kernel)) (by decide +kernel))
theorem ml_X7_239 : Cond.methodLink RX7 239 yX7_isNext ∈ tws := (tws_of (List.mem_of_getElem? (i := 1209) (by decide +kernel)) (by decide +kernel))
theorem ml_X7_228 : Cond.methodLink RX7 228 yX7_exchange ∈ tws := (tws_of (List.mem_of_getElem? (i := 1213) (by decide +kernel)) (by decide +kernel))
theorem ml_L_113 : Cond.methodLink RL 113 yX7_lamp ∈ tws := (tws_of (List.mem_of_getElem? (i := 1217) (by decide +kernel)) (by decide +kernel))
theorem ml_X7_242 : Cond.methodLink RX7 242 yX7_pagesBehind ∈ tws := (tws_of (List.mem_of_getElem? (i := 1221) (by decide +kernel)) (by decide +kernel))
theorem ml_L_117 : Cond.methodLink RL 117 yX7_caught ∈ tws := (tws_of (List.mem_of_getElem? (i := 1225) (by decide +kernel)) (by decide +kernel))
theorem ml_L_121 : Cond.methodLink RL 121 yX7_grams ∈ tws := (tws_of (List.mem_of_getElem? (i := 1229) (by decide +kernel)) (by decide +kernel))
theorem ml_X7_247 : Cond.methodLink RX7 247 yX7_dustOf ∈ tws := (tws_of (List.mem_of_getElem? (i := 1234) (by decide +kernel)) (by decide +kernel))
theorem ml_L_126 : Cond.methodLink RL 126 yX7_who ∈ tws := (tws_of (List.mem_of_getElem? (i := 1238) (by decide +kernel)) (by decide +kernel))
theorem ml_X7_254 : Cond.methodLink RX7 254 yX7_lacks ∈ tws := (tws_of (List.mem_of_getElem? (i := 1242) (by decide +kernel)) (by decide +kernel))
theorem ml_X7_258 : Cond.methodLink RX7 258 yX7_fits ∈ tws := (tws_of (List.mem_of_getElem? (i := 1246) (by decide +kernel)) (by decide +kernel))
theorem ml_X7_250 : Cond.methodLink RX7 250 yX7_isSo ∈ tws := (tws_of (List.mem_of_getElem? (i := 1250) (by decide +kernel)) (by decide +kernel))
theorem ml_L_130 : Cond.methodLink RL 130 yX7_paste ∈ tws := (tws_of (List.mem_of_getElem? (i := 1254) (by decide +kernel)) (by decide +kernel))
theorem ml_L_135 : Cond.methodLink RL 135 yX7_hungers ∈ tws := (tws_of (List.mem_of_getElem? (i := 1258) (by decide +kernel)) (by decide +kernel))
theorem ml_L_140 : Cond.methodLink RL 140 yX7_dark ∈ tws := (tws_of (List.mem_of_getElem? (i := 1262) (by decide +kernel)) (by decide +kernel))
theorem ml_L_144 : Cond.methodLink RL 144 yX7_drawn ∈ tws := (tws_of (List.mem_of_getElem? (i := 1268) (by decide +kernel)) (by decide +kernel))
theorem ml_L_148 : Cond.methodLink RL 148 yX7_image ∈ tws := (tws_of (List.mem_of_getElem? (i := 1276) (by decide +kernel)) (by decide +kernel))
theorem ml_L_152 : Cond.methodLink RL 152 yX7_restore ∈ tws := (tws_of (List.mem_of_getElem? (i := 1280) (by decide +kernel)) (by decide +kernel))
theorem ml_L_156 : Cond.methodLink RL 156 yX7_kind ∈ tws := (tws_of (List.mem_of_getElem? (i := 1284) (by decide +kernel)) (by decide +kernel))
theorem ml_L_160 : Cond.methodLink RL 160 yX7_as ∈ tws := (tws_of (List.mem_of_getElem? (i := 1288) (by decide +kernel)) (by decide +kernel))
theorem ml_X7_274 : Cond.methodLink RX7 274 yX7_isKind ∈ tws := (tws_of (List.mem_of_getElem? (i := 1292) (by decide +kernel)) (by decide +kernel))
theorem ml_L_164 : Cond.methodLink RL 164 yX7_ask ∈ tws := (tws_of (List.mem_of_getElem? (i := 1295) (by decide +kernel)) (by decide +kernel))
theorem ml_X7_301 : Cond.methodLink RX7 301 yX7_sizeOf ∈ tws := (tws_of (List.mem_of_getElem? (i := 1299) (by decide +kernel)) (by decide +kernel))
theorem ml_X7_280 : Cond.methodLink RX7 280 yX7_begin ∈ tws := (tws_of (List.mem_of_getElem? (i := 1303) (by decide +kernel)) (by decide +kernel))
theorem ml_X7_298 : Cond.methodLink RX7 298 yX7_readerSize ∈ tws := (tws_of (List.mem_of_getElem? (i := 1307) (by decide +kernel)) (by decide +kernel))
theorem ml_X7_283 : Cond.methodLink RX7 283 yX7_lent ∈ tws := (tws_of (List.mem_of_getElem? (i := 1311) (by decide +kernel)) (by decide +kernel))
theorem ml_X7_295 : Cond.methodLink RX7 295 yX7_markOf ∈ tws := (tws_of (List.mem_of_getElem? (i := 1315) (by decide +kernel)) (by decide +kernel))
theorem ml_X7_289 : Cond.methodLink RX7 289 yX7_readerMark ∈ tws := (tws_of (List.mem_of_getElem? (i := 1319) (by decide +kernel)) (by decide +kernel))
theorem ml_X7_292 : Cond.methodLink RX7 292 yX7_sizeOfWanderer ∈ tws := (tws_of (List.mem_of_getElem? (i := 1323) (by decide +kernel)) (by decide +kernel))
theorem ml_X7_286 : Cond.methodLink RX7 286 yX7_wandererSize ∈ tws := (tws_of (List.mem_of_getElem? (i := 1327) (by decide +kernel)) (by decide +kernel))
theorem ml_L_168 : Cond.methodLink RL 168 yX7_trace ∈ tws := (tws_of (List.mem_of_getElem? (i := 1331) (by decide +kernel)) (by decide +kernel))
theorem ml_L_172 : Cond.methodLink RL 172 yX7_count ∈ tws := (tws_of (List.mem_of_getElem? (i := 1335) (by decide +kernel)) (by decide +kernel))
theorem ml_L_176 : Cond.methodLink RL 176 yX7_status ∈ tws := (tws_of (List.mem_of_getElem? (i := 1339) (by decide +kernel)) (by decide +kernel))
theorem cd_mmin : Cond.code Lib.Math.min.name Lib.Math.min.code 2 (some .int) ∈ tws := (tws_of (List.mem_of_getElem? (i := 494) (by decide +kernel)) (by decide +kernel))
theorem sm_mmin : Cond.static Lib.Math.min.name ∈ tws := (tws_of (List.mem_of_getElem? (i := 493) (by decide +kernel)) (by decide +kernel))
theorem mm_X0_33 : Cond.methodLink RX0 33 Lib.Math.min.name ∈ tws := (tws_of (List.mem_of_getElem? (i := 492) (by decide +kernel)) (by decide +kernel))
theorem mm_X3_105 : Cond.methodLink RX3 105 Lib.Math.min.name ∈ tws := (tws_of (List.mem_of_getElem? (i := 538) (by decide +kernel)) (by decide +kernel))
theorem mm_X2_59 : Cond.methodLink RX2 59 Lib.Math.min.name ∈ tws := (tws_of (List.mem_of_getElem? (i := 674) (by decide +kernel)) (by decide +kernel))
theorem cd_mabs : Cond.code Lib.Math.abs.name Lib.Math.abs.code 1 (some .int) ∈ tws := (tws_of (List.mem_of_getElem? (i := 530) (by decide +kernel)) (by decide +kernel))
theorem sm_mabs : Cond.static Lib.Math.abs.name ∈ tws := (tws_of (List.mem_of_getElem? (i := 529) (by decide +kernel)) (by decide +kernel))
theorem mm_X3_120 : Cond.methodLink RX3 120 Lib.Math.abs.name ∈ tws := (tws_of (List.mem_of_getElem? (i := 528) (by decide +kernel)) (by decide +kernel))
theorem mm_X4_43 : Cond.methodLink RX4 43 arraycopyName ∈ tws := (tws_of (List.mem_of_getElem? (i := 370) (by decide +kernel)) (by decide +kernel))
theorem mm_X2_49 : Cond.methodLink RX2 49 arraycopyName ∈ tws := (tws_of (List.mem_of_getElem? (i := 673) (by decide +kernel)) (by decide +kernel))
theorem sm_acopy : Cond.static arraycopyName ∈ tws := (tws_of (List.mem_of_getElem? (i := 371) (by decide +kernel)) (by decide +kernel))
theorem nt_acopy : Cond.native arraycopyName ∈ tws := (tws_of (List.mem_of_getElem? (i := 372) (by decide +kernel)) (by decide +kernel))
end
section
theorem gf_X4_11 {l : Launch} {G : Gw} {cc : ByteArray} {nL fr lo : Nat} {ret : Option FieldType} {post : Option Value → Sg → Prop} {Φ : Ph} {pc : Nat} {L : List (Option Value)} {st : List Value} {σ : Sg} (M : Mach l G RX4 cc nL ret fr lo post Φ) (d : decode cc pc = .ok (.getfield 11, 3)) (kk : Φ (pc + 3) L (.ref (ad G 1 1) :: st) σ) : Φ pc L (.ref (ad G 1 0) :: st) σ := j_getf M (by decide) rfl (ci := 4) rfl (k := 0) (by decide) hin_X4 fl_X4_11 rfl d kk
theorem gf_X4_15 {l : Launch} {G : Gw} {cc : ByteArray} {nL fr lo : Nat} {ret : Option FieldType} {post : Option Value → Sg → Prop} {Φ : Ph} {pc : Nat} {L : List (Option Value)} {st : List Value} {σ : Sg} (M : Mach l G RX4 cc nL ret fr lo post Φ) (d : decode cc pc = .ok (.getfield 15, 3)) (kk : Φ (pc + 3) L (.ref (ad G 1 2) :: st) σ) : Φ pc L (.ref (ad G 1 0) :: st) σ := j_getf M (by decide) rfl (ci := 4) rfl (k := 1) (by decide) hin_X4 fl_X4_15 rfl d kk
theorem gf_X4_18 {l : Launch} {G : Gw} {cc : ByteArray} {nL fr lo : Nat} {ret : Option FieldType} {post : Option Value → Sg → Prop} {Φ : Ph} {pc : Nat} {L : List (Option Value)} {st : List Value} {σ : Sg} (M : Mach l G RX4 cc nL ret fr lo post Φ) (d : decode cc pc = .ok (.getfield 18, 3)) (kk : Φ (pc + 3) L (.ref (ad G 1 3) :: st) σ) : Φ pc L (.ref (ad G 1 0) :: st) σ := j_getf M (by decide) rfl (ci := 4) rfl (k := 2) (by decide) hin_X4 fl_X4_18 rfl d kk
theorem gf_X4_21 {l : Launch} {G : Gw} {cc : ByteArray} {nL fr lo : Nat} {ret : Option FieldType} {post : Option Value → Sg → Prop} {Φ : Ph} {pc : Nat} {L : List (Option Value)} {st : List Value} {σ : Sg} (M : Mach l G RX4 cc nL ret fr lo post Φ) (d : decode cc pc = .ok (.getfield 21, 3)) (kk : Φ (pc + 3) L (.int (σ 1 0 3) :: st) σ) : Φ pc L (.ref (ad G 1 0) :: st) σ := j_getf M (by decide) rfl (ci := 4) rfl (k := 3) (by decide) hin_X4 fl_X4_21 rfl d kk
theorem pf_X4_21 {l : Launch} {G : Gw} {cc : ByteArray} {nL fr lo : Nat} {ret : Option FieldType} {post : Option Value → Sg → Prop} {Φ : Ph} {pc : Nat} {L : List (Option Value)} {st : List Value} {σ : Sg} {v : Int32} (M : Mach l G RX4 cc nL ret fr lo post Φ) (d : decode cc pc = .ok (.putfield 21, 3)) (kk : Φ (pc + 3) L st (up σ 1 0 (upI (σ 1 0) 3 v))) : Φ pc L (.int v :: .ref (ad G 1 0) :: st) σ := j_putf M (by decide) rfl (ci := 4) rfl (k := 3) (by decide) hin_X4 tyX4_ok nmX4 fl_X4_21 rfl rfl rfl (Nat.le_of_ble_eq_true (show Nat.ble (3 + 1) (List.length _) = true from rfl)) (rfl) d kk
theorem gf_X4_25 {l : Launch} {G : Gw} {cc : ByteArray} {nL fr lo : Nat} {ret : Option FieldType} {post : Option Value → Sg → Prop} {Φ : Ph} {pc : Nat} {L : List (Option Value)} {st : List Value} {σ : Sg} (M : Mach l G RX4 cc nL ret fr lo post Φ) (d : decode cc pc = .ok (.getfield 25, 3)) (kk : Φ (pc + 3) L (.int (σ 1 0 4) :: st) σ) : Φ pc L (.ref (ad G 1 0) :: st) σ := j_getf M (by decide) rfl (ci := 4) rfl (k := 4) (by decide) hin_X4 fl_X4_25 rfl d kk
theorem pf_X4_25 {l : Launch} {G : Gw} {cc : ByteArray} {nL fr lo : Nat} {ret : Option FieldType} {post : Option Value → Sg → Prop} {Φ : Ph} {pc : Nat} {L : List (Option Value)} {st : List Value} {σ : Sg} {v : Int32} (M : Mach l G RX4 cc nL ret fr lo post Φ) (d : decode cc pc = .ok (.putfield 25, 3)) (kk : Φ (pc + 3) L st (up σ 1 0 (upI (σ 1 0) 4 v))) : Φ pc L (.int v :: .ref (ad G 1 0) :: st) σ := j_putf M (by decide) rfl (ci := 4) rfl (k := 4) (by decide) hin_X4 tyX4_ok nmX4 fl_X4_25 rfl rfl rfl (Nat.le_of_ble_eq_true (show Nat.ble (4 + 1) (List.length _) = true from rfl)) (rfl) d kk
theorem gf_X5_11 {l : Launch} {G : Gw} {cc : ByteArray} {nL fr lo : Nat} {ret : Option FieldType} {post : Option Value → Sg → Prop} {Φ : Ph} {pc : Nat} {L : List (Option Value)} {st : List Value} {σ : Sg} (M : Mach l G RX5 cc nL ret fr lo post Φ) (d : decode cc pc = .ok (.getfield 11, 3)) (kk : Φ (pc + 3) L (.ref (ad G 2 1) :: st) σ) : Φ pc L (.ref (ad G 2 0) :: st) σ := j_getf M (by decide) rfl (ci := 5) rfl (k := 0) (by decide) hin_X5 fl_X5_11 rfl d kk
theorem gf_X5_15 {l : Launch} {G : Gw} {cc : ByteArray} {nL fr lo : Nat} {ret : Option FieldType} {post : Option Value → Sg → Prop} {Φ : Ph} {pc : Nat} {L : List (Option Value)} {st : List Value} {σ : Sg} (M : Mach l G RX5 cc nL ret fr lo post Φ) (d : decode cc pc = .ok (.getfield 15, 3)) (kk : Φ (pc + 3) L (.int (σ 2 0 1) :: st) σ) : Φ pc L (.ref (ad G 2 0) :: st) σ := j_getf M (by decide) rfl (ci := 5) rfl (k := 1) (by decide) hin_X5 fl_X5_15 rfl d kk
theorem pf_X5_15 {l : Launch} {G : Gw} {cc : ByteArray} {nL fr lo : Nat} {ret : Option FieldType} {post : Option Value → Sg → Prop} {Φ : Ph} {pc : Nat} {L : List (Option Value)} {st : List Value} {σ : Sg} {v : Int32} (M : Mach l G RX5 cc nL ret fr lo post Φ) (d : decode cc pc = .ok (.putfield 15, 3)) (kk : Φ (pc + 3) L st (up σ 2 0 (upI (σ 2 0) 1 v))) : Φ pc L (.int v :: .ref (ad G 2 0) :: st) σ := j_putf M (by decide) rfl (ci := 5) rfl (k := 1) (by decide) hin_X5 tyX5_ok nmX5 fl_X5_15 rfl rfl rfl (Nat.le_of_ble_eq_true (show Nat.ble (1 + 1) (List.length _) = true from rfl)) (rfl) d kk
theorem gf_X6_111 {l : Launch} {G : Gw} {cc : ByteArray} {nL fr lo : Nat} {ret : Option FieldType} {post : Option Value → Sg → Prop} {Φ : Ph} {pc : Nat} {L : List (Option Value)} {st : List Value} {σ : Sg} (M : Mach l G RX6 cc nL ret fr lo post Φ) (d : decode cc pc = .ok (.getfield 111, 3)) (kk : Φ (pc + 3) L (.int (σ 2 0 1) :: st) σ) : Φ pc L (.ref (ad G 2 0) :: st) σ := j_getf M (by decide) rfl (ci := 5) rfl (k := 1) (by decide) hin_X5 fl_X6_111 rfl d kk
theorem gf_X5_19 {l : Launch} {G : Gw} {cc : ByteArray} {nL fr lo : Nat} {ret : Option FieldType} {post : Option Value → Sg → Prop} {Φ : Ph} {pc : Nat} {L : List (Option Value)} {st : List Value} {σ : Sg} (M : Mach l G RX5 cc nL ret fr lo post Φ) (d : decode cc pc = .ok (.getfield 19, 3)) (kk : Φ (pc + 3) L (.int (σ 2 0 2) :: st) σ) : Φ pc L (.ref (ad G 2 0) :: st) σ := j_getf M (by decide) rfl (ci := 5) rfl (k := 2) (by decide) hin_X5 fl_X5_19 rfl d kk
theorem pf_X5_19 {l : Launch} {G : Gw} {cc : ByteArray} {nL fr lo : Nat} {ret : Option FieldType} {post : Option Value → Sg → Prop} {Φ : Ph} {pc : Nat} {L : List (Option Value)} {st : List Value} {σ : Sg} {v : Int32} (M : Mach l G RX5 cc nL ret fr lo post Φ) (d : decode cc pc = .ok (.putfield 19, 3)) (kk : Φ (pc + 3) L st (up σ 2 0 (upI (σ 2 0) 2 v))) : Φ pc L (.int v :: .ref (ad G 2 0) :: st) σ := j_putf M (by decide) rfl (ci := 5) rfl (k := 2) (by decide) hin_X5 tyX5_ok nmX5 fl_X5_19 rfl rfl rfl (Nat.le_of_ble_eq_true (show Nat.ble (2 + 1) (List.length _) = true from rfl)) (rfl) d kk
theorem gf_X6_131 {l : Launch} {G : Gw} {cc : ByteArray} {nL fr lo : Nat} {ret : Option FieldType} {post : Option Value → Sg → Prop} {Φ : Ph} {pc : Nat} {L : List (Option Value)} {st : List Value} {σ : Sg} (M : Mach l G RX6 cc nL ret fr lo post Φ) (d : decode cc pc = .ok (.getfield 131, 3)) (kk : Φ (pc + 3) L (.int (σ 2 0 2) :: st) σ) : Φ pc L (.ref (ad G 2 0) :: st) σ := j_getf M (by decide) rfl (ci := 5) rfl (k := 2) (by decide) hin_X5 fl_X6_131 rfl d kk
theorem gf_X5_22 {l : Launch} {G : Gw} {cc : ByteArray} {nL fr lo : Nat} {ret : Option FieldType} {post : Option Value → Sg → Prop} {Φ : Ph} {pc : Nat} {L : List (Option Value)} {st : List Value} {σ : Sg} (M : Mach l G RX5 cc nL ret fr lo post Φ) (d : decode cc pc = .ok (.getfield 22, 3)) (kk : Φ (pc + 3) L (.int (σ 2 0 3) :: st) σ) : Φ pc L (.ref (ad G 2 0) :: st) σ := j_getf M (by decide) rfl (ci := 5) rfl (k := 3) (by decide) hin_X5 fl_X5_22 rfl d kk
theorem pf_X5_22 {l : Launch} {G : Gw} {cc : ByteArray} {nL fr lo : Nat} {ret : Option FieldType} {post : Option Value → Sg → Prop} {Φ : Ph} {pc : Nat} {L : List (Option Value)} {st : List Value} {σ : Sg} {v : Int32} (M : Mach l G RX5 cc nL ret fr lo post Φ) (d : decode cc pc = .ok (.putfield 22, 3)) (kk : Φ (pc + 3) L st (up σ 2 0 (upI (σ 2 0) 3 v))) : Φ pc L (.int v :: .ref (ad G 2 0) :: st) σ := j_putf M (by decide) rfl (ci := 5) rfl (k := 3) (by decide) hin_X5 tyX5_ok nmX5 fl_X5_22 rfl rfl rfl (Nat.le_of_ble_eq_true (show Nat.ble (3 + 1) (List.length _) = true from rfl)) (rfl) d kk
theorem gf_X5_26 {l : Launch} {G : Gw} {cc : ByteArray} {nL fr lo : Nat} {ret : Option FieldType} {post : Option Value → Sg → Prop} {Φ : Ph} {pc : Nat} {L : List (Option Value)} {st : List Value} {σ : Sg} (M : Mach l G RX5 cc nL ret fr lo post Φ) (d : decode cc pc = .ok (.getfield 26, 3)) (kk : Φ (pc + 3) L (.int (σ 2 0 4) :: st) σ) : Φ pc L (.ref (ad G 2 0) :: st) σ := j_getf M (by decide) rfl (ci := 5) rfl (k := 4) (by decide) hin_X5 fl_X5_26 rfl d kk
theorem pf_X5_26 {l : Launch} {G : Gw} {cc : ByteArray} {nL fr lo : Nat} {ret : Option FieldType} {post : Option Value → Sg → Prop} {Φ : Ph} {pc : Nat} {L : List (Option Value)} {st : List Value} {σ : Sg} {v : Int32} (M : Mach l G RX5 cc nL ret fr lo post Φ) (d : decode cc pc = .ok (.putfield 26, 3)) (kk : Φ (pc + 3) L st (up σ 2 0 (upI (σ 2 0) 4 v))) : Φ pc L (.int v :: .ref (ad G 2 0) :: st) σ := j_putf M (by decide) rfl (ci := 5) rfl (k := 4) (by decide) hin_X5 tyX5_ok nmX5 fl_X5_26 rfl rfl rfl (Nat.le_of_ble_eq_true (show Nat.ble (4 + 1) (List.length _) = true from rfl)) (rfl) d kk
theorem gf_X3_9 {l : Launch} {G : Gw} {cc : ByteArray} {nL fr lo : Nat} {ret : Option FieldType} {post : Option Value → Sg → Prop} {Φ : Ph} {pc : Nat} {L : List (Option Value)} {st : List Value} {σ : Sg} (M : Mach l G RX3 cc nL ret fr lo post Φ) {c : Nat} (hc : isLib c) (d : decode cc pc = .ok (.getfield 9, 3)) (kk : Φ (pc + 3) L (.int (σ c 0 0) :: st) σ) : Φ pc L (.ref (ad G c 0) :: st) σ := j_getf M (vld_lib hc (by decide)) (cel_lib G hc 0 _) (ci := 3) rfl (k := 0) (by decide) hin_X3 fl_X3_9 rfl d kk
theorem pf_X3_9 {l : Launch} {G : Gw} {cc : ByteArray} {nL fr lo : Nat} {ret : Option FieldType} {post : Option Value → Sg → Prop} {Φ : Ph} {pc : Nat} {L : List (Option Value)} {st : List Value} {σ : Sg} {v : Int32} (M : Mach l G RX3 cc nL ret fr lo post Φ) {c : Nat} (hc : isLib c) (d : decode cc pc = .ok (.putfield 9, 3)) (kk : Φ (pc + 3) L st (up σ c 0 (upI (σ c 0) 0 v))) : Φ pc L (.int v :: .ref (ad G c 0) :: st) σ := j_putf M (vld_lib hc (by decide)) (cel_lib G hc 0 _) (ci := 3) rfl (k := 0) (by decide) hin_X3 tyX3_ok nmX3 fl_X3_9 rfl rfl rfl (Nat.le_of_ble_eq_true (show Nat.ble (0 + 1) (List.length _) = true from rfl)) (by rw [cel_lib G hc]; rfl) d kk
theorem gf_X5_65 {l : Launch} {G : Gw} {cc : ByteArray} {nL fr lo : Nat} {ret : Option FieldType} {post : Option Value → Sg → Prop} {Φ : Ph} {pc : Nat} {L : List (Option Value)} {st : List Value} {σ : Sg} (M : Mach l G RX5 cc nL ret fr lo post Φ) {c : Nat} (hc : isLib c) (d : decode cc pc = .ok (.getfield 65, 3)) (kk : Φ (pc + 3) L (.int (σ c 0 0) :: st) σ) : Φ pc L (.ref (ad G c 0) :: st) σ := j_getf M (vld_lib hc (by decide)) (cel_lib G hc 0 _) (ci := 3) rfl (k := 0) (by decide) hin_X3 fl_X5_65 rfl d kk
theorem gf_X2_55 {l : Launch} {G : Gw} {cc : ByteArray} {nL fr lo : Nat} {ret : Option FieldType} {post : Option Value → Sg → Prop} {Φ : Ph} {pc : Nat} {L : List (Option Value)} {st : List Value} {σ : Sg} (M : Mach l G RX2 cc nL ret fr lo post Φ) {c : Nat} (hc : isLib c) (d : decode cc pc = .ok (.getfield 55, 3)) (kk : Φ (pc + 3) L (.int (σ c 0 0) :: st) σ) : Φ pc L (.ref (ad G c 0) :: st) σ := j_getf M (vld_lib hc (by decide)) (cel_lib G hc 0 _) (ci := 3) rfl (k := 0) (by decide) hin_X3 fl_X2_55 rfl d kk
theorem gf_X6_296 {l : Launch} {G : Gw} {cc : ByteArray} {nL fr lo : Nat} {ret : Option FieldType} {post : Option Value → Sg → Prop} {Φ : Ph} {pc : Nat} {L : List (Option Value)} {st : List Value} {σ : Sg} (M : Mach l G RX6 cc nL ret fr lo post Φ) {c : Nat} (hc : isLib c) (d : decode cc pc = .ok (.getfield 296, 3)) (kk : Φ (pc + 3) L (.int (σ c 0 0) :: st) σ) : Φ pc L (.ref (ad G c 0) :: st) σ := j_getf M (vld_lib hc (by decide)) (cel_lib G hc 0 _) (ci := 3) rfl (k := 0) (by decide) hin_X3 fl_X6_296 rfl d kk
theorem gf_X3_15 {l : Launch} {G : Gw} {cc : ByteArray} {nL fr lo : Nat} {ret : Option FieldType} {post : Option Value → Sg → Prop} {Φ : Ph} {pc : Nat} {L : List (Option Value)} {st : List Value} {σ : Sg} (M : Mach l G RX3 cc nL ret fr lo post Φ) {c : Nat} (hc : isLib c) (d : decode cc pc = .ok (.getfield 15, 3)) (kk : Φ (pc + 3) L (.int (σ c 0 1) :: st) σ) : Φ pc L (.ref (ad G c 0) :: st) σ := j_getf M (vld_lib hc (by decide)) (cel_lib G hc 0 _) (ci := 3) rfl (k := 1) (by decide) hin_X3 fl_X3_15 rfl d kk
theorem pf_X3_15 {l : Launch} {G : Gw} {cc : ByteArray} {nL fr lo : Nat} {ret : Option FieldType} {post : Option Value → Sg → Prop} {Φ : Ph} {pc : Nat} {L : List (Option Value)} {st : List Value} {σ : Sg} {v : Int32} (M : Mach l G RX3 cc nL ret fr lo post Φ) {c : Nat} (hc : isLib c) (d : decode cc pc = .ok (.putfield 15, 3)) (kk : Φ (pc + 3) L st (up σ c 0 (upI (σ c 0) 1 v))) : Φ pc L (.int v :: .ref (ad G c 0) :: st) σ := j_putf M (vld_lib hc (by decide)) (cel_lib G hc 0 _) (ci := 3) rfl (k := 1) (by decide) hin_X3 tyX3_ok nmX3 fl_X3_15 rfl rfl rfl (Nat.le_of_ble_eq_true (show Nat.ble (1 + 1) (List.length _) = true from rfl)) (by rw [cel_lib G hc]; rfl) d kk
theorem gf_X5_80 {l : Launch} {G : Gw} {cc : ByteArray} {nL fr lo : Nat} {ret : Option FieldType} {post : Option Value → Sg → Prop} {Φ : Ph} {pc : Nat} {L : List (Option Value)} {st : List Value} {σ : Sg} (M : Mach l G RX5 cc nL ret fr lo post Φ) {c : Nat} (hc : isLib c) (d : decode cc pc = .ok (.getfield 80, 3)) (kk : Φ (pc + 3) L (.int (σ c 0 1) :: st) σ) : Φ pc L (.ref (ad G c 0) :: st) σ := j_getf M (vld_lib hc (by decide)) (cel_lib G hc 0 _) (ci := 3) rfl (k := 1) (by decide) hin_X3 fl_X5_80 rfl d kk
theorem gf_X6_128 {l : Launch} {G : Gw} {cc : ByteArray} {nL fr lo : Nat} {ret : Option FieldType} {post : Option Value → Sg → Prop} {Φ : Ph} {pc : Nat} {L : List (Option Value)} {st : List Value} {σ : Sg} (M : Mach l G RX6 cc nL ret fr lo post Φ) {c : Nat} (hc : isLib c) (d : decode cc pc = .ok (.getfield 128, 3)) (kk : Φ (pc + 3) L (.int (σ c 0 1) :: st) σ) : Φ pc L (.ref (ad G c 0) :: st) σ := j_getf M (vld_lib hc (by decide)) (cel_lib G hc 0 _) (ci := 3) rfl (k := 1) (by decide) hin_X3 fl_X6_128 rfl d kk
theorem gf_X2_93 {l : Launch} {G : Gw} {cc : ByteArray} {nL fr lo : Nat} {ret : Option FieldType} {post : Option Value → Sg → Prop} {Φ : Ph} {pc : Nat} {L : List (Option Value)} {st : List Value} {σ : Sg} (M : Mach l G RX2 cc nL ret fr lo post Φ) {c : Nat} (hc : isLib c) (d : decode cc pc = .ok (.getfield 93, 3)) (kk : Φ (pc + 3) L (.int (σ c 0 1) :: st) σ) : Φ pc L (.ref (ad G c 0) :: st) σ := j_getf M (vld_lib hc (by decide)) (cel_lib G hc 0 _) (ci := 3) rfl (k := 1) (by decide) hin_X3 fl_X2_93 rfl d kk
theorem gf_X3_18 {l : Launch} {G : Gw} {cc : ByteArray} {nL fr lo : Nat} {ret : Option FieldType} {post : Option Value → Sg → Prop} {Φ : Ph} {pc : Nat} {L : List (Option Value)} {st : List Value} {σ : Sg} (M : Mach l G RX3 cc nL ret fr lo post Φ) {c : Nat} (hc : isLib c) (d : decode cc pc = .ok (.getfield 18, 3)) (kk : Φ (pc + 3) L (.int (σ c 0 2) :: st) σ) : Φ pc L (.ref (ad G c 0) :: st) σ := j_getf M (vld_lib hc (by decide)) (cel_lib G hc 0 _) (ci := 3) rfl (k := 2) (by decide) hin_X3 fl_X3_18 rfl d kk
theorem pf_X3_18 {l : Launch} {G : Gw} {cc : ByteArray} {nL fr lo : Nat} {ret : Option FieldType} {post : Option Value → Sg → Prop} {Φ : Ph} {pc : Nat} {L : List (Option Value)} {st : List Value} {σ : Sg} {v : Int32} (M : Mach l G RX3 cc nL ret fr lo post Φ) {c : Nat} (hc : isLib c) (d : decode cc pc = .ok (.putfield 18, 3)) (kk : Φ (pc + 3) L st (up σ c 0 (upI (σ c 0) 2 v))) : Φ pc L (.int v :: .ref (ad G c 0) :: st) σ := j_putf M (vld_lib hc (by decide)) (cel_lib G hc 0 _) (ci := 3) rfl (k := 2) (by decide) hin_X3 tyX3_ok nmX3 fl_X3_18 rfl rfl rfl (Nat.le_of_ble_eq_true (show Nat.ble (2 + 1) (List.length _) = true from rfl)) (by rw [cel_lib G hc]; rfl) d kk
theorem gf_X5_52 {l : Launch} {G : Gw} {cc : ByteArray} {nL fr lo : Nat} {ret : Option FieldType} {post : Option Value → Sg → Prop} {Φ : Ph} {pc : Nat} {L : List (Option Value)} {st : List Value} {σ : Sg} (M : Mach l G RX5 cc nL ret fr lo post Φ) {c : Nat} (hc : isLib c) (d : decode cc pc = .ok (.getfield 52, 3)) (kk : Φ (pc + 3) L (.int (σ c 0 2) :: st) σ) : Φ pc L (.ref (ad G c 0) :: st) σ := j_getf M (vld_lib hc (by decide)) (cel_lib G hc 0 _) (ci := 3) rfl (k := 2) (by decide) hin_X3 fl_X5_52 rfl d kk
theorem pf_X5_52 {l : Launch} {G : Gw} {cc : ByteArray} {nL fr lo : Nat} {ret : Option FieldType} {post : Option Value → Sg → Prop} {Φ : Ph} {pc : Nat} {L : List (Option Value)} {st : List Value} {σ : Sg} {v : Int32} (M : Mach l G RX5 cc nL ret fr lo post Φ) {c : Nat} (hc : isLib c) (d : decode cc pc = .ok (.putfield 52, 3)) (kk : Φ (pc + 3) L st (up σ c 0 (upI (σ c 0) 2 v))) : Φ pc L (.int v :: .ref (ad G c 0) :: st) σ := j_putf M (vld_lib hc (by decide)) (cel_lib G hc 0 _) (ci := 3) rfl (k := 2) (by decide) hin_X3 tyX3_ok nmX3 fl_X5_52 rfl rfl rfl (Nat.le_of_ble_eq_true (show Nat.ble (2 + 1) (List.length _) = true from rfl)) (by rw [cel_lib G hc]; rfl) d kk
theorem gf_X2_112 {l : Launch} {G : Gw} {cc : ByteArray} {nL fr lo : Nat} {ret : Option FieldType} {post : Option Value → Sg → Prop} {Φ : Ph} {pc : Nat} {L : List (Option Value)} {st : List Value} {σ : Sg} (M : Mach l G RX2 cc nL ret fr lo post Φ) {c : Nat} (hc : isLib c) (d : decode cc pc = .ok (.getfield 112, 3)) (kk : Φ (pc + 3) L (.int (σ c 0 2) :: st) σ) : Φ pc L (.ref (ad G c 0) :: st) σ := j_getf M (vld_lib hc (by decide)) (cel_lib G hc 0 _) (ci := 3) rfl (k := 2) (by decide) hin_X3 fl_X2_112 rfl d kk
theorem pf_X2_112 {l : Launch} {G : Gw} {cc : ByteArray} {nL fr lo : Nat} {ret : Option FieldType} {post : Option Value → Sg → Prop} {Φ : Ph} {pc : Nat} {L : List (Option Value)} {st : List Value} {σ : Sg} {v : Int32} (M : Mach l G RX2 cc nL ret fr lo post Φ) {c : Nat} (hc : isLib c) (d : decode cc pc = .ok (.putfield 112, 3)) (kk : Φ (pc + 3) L st (up σ c 0 (upI (σ c 0) 2 v))) : Φ pc L (.int v :: .ref (ad G c 0) :: st) σ := j_putf M (vld_lib hc (by decide)) (cel_lib G hc 0 _) (ci := 3) rfl (k := 2) (by decide) hin_X3 tyX3_ok nmX3 fl_X2_112 rfl rfl rfl (Nat.le_of_ble_eq_true (show Nat.ble (2 + 1) (List.length _) = true from rfl)) (by rw [cel_lib G hc]; rfl) d kk
theorem gf_X6_217 {l : Launch} {G : Gw} {cc : ByteArray} {nL fr lo : Nat} {ret : Option FieldType} {post : Option Value → Sg → Prop} {Φ : Ph} {pc : Nat} {L : List (Option Value)} {st : List Value} {σ : Sg} (M : Mach l G RX6 cc nL ret fr lo post Φ) {c : Nat} (hc : isLib c) (d : decode cc pc = .ok (.getfield 217, 3)) (kk : Φ (pc + 3) L (.int (σ c 0 2) :: st) σ) : Φ pc L (.ref (ad G c 0) :: st) σ := j_getf M (vld_lib hc (by decide)) (cel_lib G hc 0 _) (ci := 3) rfl (k := 2) (by decide) hin_X3 fl_X6_217 rfl d kk
theorem gf_X3_21 {l : Launch} {G : Gw} {cc : ByteArray} {nL fr lo : Nat} {ret : Option FieldType} {post : Option Value → Sg → Prop} {Φ : Ph} {pc : Nat} {L : List (Option Value)} {st : List Value} {σ : Sg} (M : Mach l G RX3 cc nL ret fr lo post Φ) {c : Nat} (hc : isLib c) (d : decode cc pc = .ok (.getfield 21, 3)) (kk : Φ (pc + 3) L (.int (σ c 0 3) :: st) σ) : Φ pc L (.ref (ad G c 0) :: st) σ := j_getf M (vld_lib hc (by decide)) (cel_lib G hc 0 _) (ci := 3) rfl (k := 3) (by decide) hin_X3 fl_X3_21 rfl d kk
theorem pf_X3_21 {l : Launch} {G : Gw} {cc : ByteArray} {nL fr lo : Nat} {ret : Option FieldType} {post : Option Value → Sg → Prop} {Φ : Ph} {pc : Nat} {L : List (Option Value)} {st : List Value} {σ : Sg} {v : Int32} (M : Mach l G RX3 cc nL ret fr lo post Φ) {c : Nat} (hc : isLib c) (d : decode cc pc = .ok (.putfield 21, 3)) (kk : Φ (pc + 3) L st (up σ c 0 (upI (σ c 0) 3 v))) : Φ pc L (.int v :: .ref (ad G c 0) :: st) σ := j_putf M (vld_lib hc (by decide)) (cel_lib G hc 0 _) (ci := 3) rfl (k := 3) (by decide) hin_X3 tyX3_ok nmX3 fl_X3_21 rfl rfl rfl (Nat.le_of_ble_eq_true (show Nat.ble (3 + 1) (List.length _) = true from rfl)) (by rw [cel_lib G hc]; rfl) d kk
theorem gf_X5_55 {l : Launch} {G : Gw} {cc : ByteArray} {nL fr lo : Nat} {ret : Option FieldType} {post : Option Value → Sg → Prop} {Φ : Ph} {pc : Nat} {L : List (Option Value)} {st : List Value} {σ : Sg} (M : Mach l G RX5 cc nL ret fr lo post Φ) {c : Nat} (hc : isLib c) (d : decode cc pc = .ok (.getfield 55, 3)) (kk : Φ (pc + 3) L (.int (σ c 0 3) :: st) σ) : Φ pc L (.ref (ad G c 0) :: st) σ := j_getf M (vld_lib hc (by decide)) (cel_lib G hc 0 _) (ci := 3) rfl (k := 3) (by decide) hin_X3 fl_X5_55 rfl d kk
theorem pf_X5_55 {l : Launch} {G : Gw} {cc : ByteArray} {nL fr lo : Nat} {ret : Option FieldType} {post : Option Value → Sg → Prop} {Φ : Ph} {pc : Nat} {L : List (Option Value)} {st : List Value} {σ : Sg} {v : Int32} (M : Mach l G RX5 cc nL ret fr lo post Φ) {c : Nat} (hc : isLib c) (d : decode cc pc = .ok (.putfield 55, 3)) (kk : Φ (pc + 3) L st (up σ c 0 (upI (σ c 0) 3 v))) : Φ pc L (.int v :: .ref (ad G c 0) :: st) σ := j_putf M (vld_lib hc (by decide)) (cel_lib G hc 0 _) (ci := 3) rfl (k := 3) (by decide) hin_X3 tyX3_ok nmX3 fl_X5_55 rfl rfl rfl (Nat.le_of_ble_eq_true (show Nat.ble (3 + 1) (List.length _) = true from rfl)) (by rw [cel_lib G hc]; rfl) d kk
theorem gf_X2_86 {l : Launch} {G : Gw} {cc : ByteArray} {nL fr lo : Nat} {ret : Option FieldType} {post : Option Value → Sg → Prop} {Φ : Ph} {pc : Nat} {L : List (Option Value)} {st : List Value} {σ : Sg} (M : Mach l G RX2 cc nL ret fr lo post Φ) {c : Nat} (hc : isLib c) (d : decode cc pc = .ok (.getfield 86, 3)) (kk : Φ (pc + 3) L (.int (σ c 0 3) :: st) σ) : Φ pc L (.ref (ad G c 0) :: st) σ := j_getf M (vld_lib hc (by decide)) (cel_lib G hc 0 _) (ci := 3) rfl (k := 3) (by decide) hin_X3 fl_X2_86 rfl d kk
theorem gf_X6_173 {l : Launch} {G : Gw} {cc : ByteArray} {nL fr lo : Nat} {ret : Option FieldType} {post : Option Value → Sg → Prop} {Φ : Ph} {pc : Nat} {L : List (Option Value)} {st : List Value} {σ : Sg} (M : Mach l G RX6 cc nL ret fr lo post Φ) {c : Nat} (hc : isLib c) (d : decode cc pc = .ok (.getfield 173, 3)) (kk : Φ (pc + 3) L (.int (σ c 0 3) :: st) σ) : Φ pc L (.ref (ad G c 0) :: st) σ := j_getf M (vld_lib hc (by decide)) (cel_lib G hc 0 _) (ci := 3) rfl (k := 3) (by decide) hin_X3 fl_X6_173 rfl d kk
theorem gf_X3_24 {l : Launch} {G : Gw} {cc : ByteArray} {nL fr lo : Nat} {ret : Option FieldType} {post : Option Value → Sg → Prop} {Φ : Ph} {pc : Nat} {L : List (Option Value)} {st : List Value} {σ : Sg} (M : Mach l G RX3 cc nL ret fr lo post Φ) {c : Nat} (hc : isLib c) (d : decode cc pc = .ok (.getfield 24, 3)) (kk : Φ (pc + 3) L (.int (σ c 0 4) :: st) σ) : Φ pc L (.ref (ad G c 0) :: st) σ := j_getf M (vld_lib hc (by decide)) (cel_lib G hc 0 _) (ci := 3) rfl (k := 4) (by decide) hin_X3 fl_X3_24 rfl d kk
theorem pf_X3_24 {l : Launch} {G : Gw} {cc : ByteArray} {nL fr lo : Nat} {ret : Option FieldType} {post : Option Value → Sg → Prop} {Φ : Ph} {pc : Nat} {L : List (Option Value)} {st : List Value} {σ : Sg} {v : Int32} (M : Mach l G RX3 cc nL ret fr lo post Φ) {c : Nat} (hc : isLib c) (d : decode cc pc = .ok (.putfield 24, 3)) (kk : Φ (pc + 3) L st (up σ c 0 (upI (σ c 0) 4 v))) : Φ pc L (.int v :: .ref (ad G c 0) :: st) σ := j_putf M (vld_lib hc (by decide)) (cel_lib G hc 0 _) (ci := 3) rfl (k := 4) (by decide) hin_X3 tyX3_ok nmX3 fl_X3_24 rfl rfl rfl (Nat.le_of_ble_eq_true (show Nat.ble (4 + 1) (List.length _) = true from rfl)) (by rw [cel_lib G hc]; rfl) d kk
theorem gf_X6_145 {l : Launch} {G : Gw} {cc : ByteArray} {nL fr lo : Nat} {ret : Option FieldType} {post : Option Value → Sg → Prop} {Φ : Ph} {pc : Nat} {L : List (Option Value)} {st : List Value} {σ : Sg} (M : Mach l G RX6 cc nL ret fr lo post Φ) {c : Nat} (hc : isLib c) (d : decode cc pc = .ok (.getfield 145, 3)) (kk : Φ (pc + 3) L (.int (σ c 0 4) :: st) σ) : Φ pc L (.ref (ad G c 0) :: st) σ := j_getf M (vld_lib hc (by decide)) (cel_lib G hc 0 _) (ci := 3) rfl (k := 4) (by decide) hin_X3 fl_X6_145 rfl d kk
theorem gf_X3_27 {l : Launch} {G : Gw} {cc : ByteArray} {nL fr lo : Nat} {ret : Option FieldType} {post : Option Value → Sg → Prop} {Φ : Ph} {pc : Nat} {L : List (Option Value)} {st : List Value} {σ : Sg} (M : Mach l G RX3 cc nL ret fr lo post Φ) {c : Nat} (hc : isLib c) (d : decode cc pc = .ok (.getfield 27, 3)) (kk : Φ (pc + 3) L (.int (σ c 0 5) :: st) σ) : Φ pc L (.ref (ad G c 0) :: st) σ := j_getf M (vld_lib hc (by decide)) (cel_lib G hc 0 _) (ci := 3) rfl (k := 5) (by decide) hin_X3 fl_X3_27 rfl d kk
theorem pf_X3_27 {l : Launch} {G : Gw} {cc : ByteArray} {nL fr lo : Nat} {ret : Option FieldType} {post : Option Value → Sg → Prop} {Φ : Ph} {pc : Nat} {L : List (Option Value)} {st : List Value} {σ : Sg} {v : Int32} (M : Mach l G RX3 cc nL ret fr lo post Φ) {c : Nat} (hc : isLib c) (d : decode cc pc = .ok (.putfield 27, 3)) (kk : Φ (pc + 3) L st (up σ c 0 (upI (σ c 0) 5 v))) : Φ pc L (.int v :: .ref (ad G c 0) :: st) σ := j_putf M (vld_lib hc (by decide)) (cel_lib G hc 0 _) (ci := 3) rfl (k := 5) (by decide) hin_X3 tyX3_ok nmX3 fl_X3_27 rfl rfl rfl (Nat.le_of_ble_eq_true (show Nat.ble (5 + 1) (List.length _) = true from rfl)) (by rw [cel_lib G hc]; rfl) d kk
theorem gf_X2_72 {l : Launch} {G : Gw} {cc : ByteArray} {nL fr lo : Nat} {ret : Option FieldType} {post : Option Value → Sg → Prop} {Φ : Ph} {pc : Nat} {L : List (Option Value)} {st : List Value} {σ : Sg} (M : Mach l G RX2 cc nL ret fr lo post Φ) {c : Nat} (hc : isLib c) (d : decode cc pc = .ok (.getfield 72, 3)) (kk : Φ (pc + 3) L (.int (σ c 0 5) :: st) σ) : Φ pc L (.ref (ad G c 0) :: st) σ := j_getf M (vld_lib hc (by decide)) (cel_lib G hc 0 _) (ci := 3) rfl (k := 5) (by decide) hin_X3 fl_X2_72 rfl d kk
theorem pf_X2_72 {l : Launch} {G : Gw} {cc : ByteArray} {nL fr lo : Nat} {ret : Option FieldType} {post : Option Value → Sg → Prop} {Φ : Ph} {pc : Nat} {L : List (Option Value)} {st : List Value} {σ : Sg} {v : Int32} (M : Mach l G RX2 cc nL ret fr lo post Φ) {c : Nat} (hc : isLib c) (d : decode cc pc = .ok (.putfield 72, 3)) (kk : Φ (pc + 3) L st (up σ c 0 (upI (σ c 0) 5 v))) : Φ pc L (.int v :: .ref (ad G c 0) :: st) σ := j_putf M (vld_lib hc (by decide)) (cel_lib G hc 0 _) (ci := 3) rfl (k := 5) (by decide) hin_X3 tyX3_ok nmX3 fl_X2_72 rfl rfl rfl (Nat.le_of_ble_eq_true (show Nat.ble (5 + 1) (List.length _) = true from rfl)) (by rw [cel_lib G hc]; rfl) d kk
theorem gf_X6_161 {l : Launch} {G : Gw} {cc : ByteArray} {nL fr lo : Nat} {ret : Option FieldType} {post : Option Value → Sg → Prop} {Φ : Ph} {pc : Nat} {L : List (Option Value)} {st : List Value} {σ : Sg} (M : Mach l G RX6 cc nL ret fr lo post Φ) {c : Nat} (hc : isLib c) (d : decode cc pc = .ok (.getfield 161, 3)) (kk : Φ (pc + 3) L (.int (σ c 0 5) :: st) σ) : Φ pc L (.ref (ad G c 0) :: st) σ := j_getf M (vld_lib hc (by decide)) (cel_lib G hc 0 _) (ci := 3) rfl (k := 5) (by decide) hin_X3 fl_X6_161 rfl d kk
theorem pf_X6_161 {l : Launch} {G : Gw} {cc : ByteArray} {nL fr lo : Nat} {ret : Option FieldType} {post : Option Value → Sg → Prop} {Φ : Ph} {pc : Nat} {L : List (Option Value)} {st : List Value} {σ : Sg} {v : Int32} (M : Mach l G RX6 cc nL ret fr lo post Φ) {c : Nat} (hc : isLib c) (d : decode cc pc = .ok (.putfield 161, 3)) (kk : Φ (pc + 3) L st (up σ c 0 (upI (σ c 0) 5 v))) : Φ pc L (.int v :: .ref (ad G c 0) :: st) σ := j_putf M (vld_lib hc (by decide)) (cel_lib G hc 0 _) (ci := 3) rfl (k := 5) (by decide) hin_X3 tyX3_ok nmX3 fl_X6_161 rfl rfl rfl (Nat.le_of_ble_eq_true (show Nat.ble (5 + 1) (List.length _) = true from rfl)) (by rw [cel_lib G hc]; rfl) d kk
theorem gf_X3_30 {l : Launch} {G : Gw} {cc : ByteArray} {nL fr lo : Nat} {ret : Option FieldType} {post : Option Value → Sg → Prop} {Φ : Ph} {pc : Nat} {L : List (Option Value)} {st : List Value} {σ : Sg} (M : Mach l G RX3 cc nL ret fr lo post Φ) {c : Nat} (hc : isLib c) (d : decode cc pc = .ok (.getfield 30, 3)) (kk : Φ (pc + 3) L (.int (σ c 0 6) :: st) σ) : Φ pc L (.ref (ad G c 0) :: st) σ := j_getf M (vld_lib hc (by decide)) (cel_lib G hc 0 _) (ci := 3) rfl (k := 6) (by decide) hin_X3 fl_X3_30 rfl d kk
theorem pf_X3_30 {l : Launch} {G : Gw} {cc : ByteArray} {nL fr lo : Nat} {ret : Option FieldType} {post : Option Value → Sg → Prop} {Φ : Ph} {pc : Nat} {L : List (Option Value)} {st : List Value} {σ : Sg} {v : Int32} (M : Mach l G RX3 cc nL ret fr lo post Φ) {c : Nat} (hc : isLib c) (d : decode cc pc = .ok (.putfield 30, 3)) (kk : Φ (pc + 3) L st (up σ c 0 (upI (σ c 0) 6 v))) : Φ pc L (.int v :: .ref (ad G c 0) :: st) σ := j_putf M (vld_lib hc (by decide)) (cel_lib G hc 0 _) (ci := 3) rfl (k := 6) (by decide) hin_X3 tyX3_ok nmX3 fl_X3_30 rfl rfl rfl (Nat.le_of_ble_eq_true (show Nat.ble (6 + 1) (List.length _) = true from rfl)) (by rw [cel_lib G hc]; rfl) d kk
theorem gf_X6_176 {l : Launch} {G : Gw} {cc : ByteArray} {nL fr lo : Nat} {ret : Option FieldType} {post : Option Value → Sg → Prop} {Φ : Ph} {pc : Nat} {L : List (Option Value)} {st : List Value} {σ : Sg} (M : Mach l G RX6 cc nL ret fr lo post Φ) {c : Nat} (hc : isLib c) (d : decode cc pc = .ok (.getfield 176, 3)) (kk : Φ (pc + 3) L (.int (σ c 0 6) :: st) σ) : Φ pc L (.ref (ad G c 0) :: st) σ := j_getf M (vld_lib hc (by decide)) (cel_lib G hc 0 _) (ci := 3) rfl (k := 6) (by decide) hin_X3 fl_X6_176 rfl d kk
theorem pf_X6_176 {l : Launch} {G : Gw} {cc : ByteArray} {nL fr lo : Nat} {ret : Option FieldType} {post : Option Value → Sg → Prop} {Φ : Ph} {pc : Nat} {L : List (Option Value)} {st : List Value} {σ : Sg} {v : Int32} (M : Mach l G RX6 cc nL ret fr lo post Φ) {c : Nat} (hc : isLib c) (d : decode cc pc = .ok (.putfield 176, 3)) (kk : Φ (pc + 3) L st (up σ c 0 (upI (σ c 0) 6 v))) : Φ pc L (.int v :: .ref (ad G c 0) :: st) σ := j_putf M (vld_lib hc (by decide)) (cel_lib G hc 0 _) (ci := 3) rfl (k := 6) (by decide) hin_X3 tyX3_ok nmX3 fl_X6_176 rfl rfl rfl (Nat.le_of_ble_eq_true (show Nat.ble (6 + 1) (List.length _) = true from rfl)) (by rw [cel_lib G hc]; rfl) d kk
theorem gf_X3_33 {l : Launch} {G : Gw} {cc : ByteArray} {nL fr lo : Nat} {ret : Option FieldType} {post : Option Value → Sg → Prop} {Φ : Ph} {pc : Nat} {L : List (Option Value)} {st : List Value} {σ : Sg} (M : Mach l G RX3 cc nL ret fr lo post Φ) {c : Nat} (hc : isLib c) (d : decode cc pc = .ok (.getfield 33, 3)) (kk : Φ (pc + 3) L (.int (σ c 0 7) :: st) σ) : Φ pc L (.ref (ad G c 0) :: st) σ := j_getf M (vld_lib hc (by decide)) (cel_lib G hc 0 _) (ci := 3) rfl (k := 7) (by decide) hin_X3 fl_X3_33 rfl d kk
theorem pf_X3_33 {l : Launch} {G : Gw} {cc : ByteArray} {nL fr lo : Nat} {ret : Option FieldType} {post : Option Value → Sg → Prop} {Φ : Ph} {pc : Nat} {L : List (Option Value)} {st : List Value} {σ : Sg} {v : Int32} (M : Mach l G RX3 cc nL ret fr lo post Φ) {c : Nat} (hc : isLib c) (d : decode cc pc = .ok (.putfield 33, 3)) (kk : Φ (pc + 3) L st (up σ c 0 (upI (σ c 0) 7 v))) : Φ pc L (.int v :: .ref (ad G c 0) :: st) σ := j_putf M (vld_lib hc (by decide)) (cel_lib G hc 0 _) (ci := 3) rfl (k := 7) (by decide) hin_X3 tyX3_ok nmX3 fl_X3_33 rfl rfl rfl (Nat.le_of_ble_eq_true (show Nat.ble (7 + 1) (List.length _) = true from rfl)) (by rw [cel_lib G hc]; rfl) d kk
theorem gf_X2_96 {l : Launch} {G : Gw} {cc : ByteArray} {nL fr lo : Nat} {ret : Option FieldType} {post : Option Value → Sg → Prop} {Φ : Ph} {pc : Nat} {L : List (Option Value)} {st : List Value} {σ : Sg} (M : Mach l G RX2 cc nL ret fr lo post Φ) {c : Nat} (hc : isLib c) (d : decode cc pc = .ok (.getfield 96, 3)) (kk : Φ (pc + 3) L (.int (σ c 0 7) :: st) σ) : Φ pc L (.ref (ad G c 0) :: st) σ := j_getf M (vld_lib hc (by decide)) (cel_lib G hc 0 _) (ci := 3) rfl (k := 7) (by decide) hin_X3 fl_X2_96 rfl d kk
theorem pf_X2_96 {l : Launch} {G : Gw} {cc : ByteArray} {nL fr lo : Nat} {ret : Option FieldType} {post : Option Value → Sg → Prop} {Φ : Ph} {pc : Nat} {L : List (Option Value)} {st : List Value} {σ : Sg} {v : Int32} (M : Mach l G RX2 cc nL ret fr lo post Φ) {c : Nat} (hc : isLib c) (d : decode cc pc = .ok (.putfield 96, 3)) (kk : Φ (pc + 3) L st (up σ c 0 (upI (σ c 0) 7 v))) : Φ pc L (.int v :: .ref (ad G c 0) :: st) σ := j_putf M (vld_lib hc (by decide)) (cel_lib G hc 0 _) (ci := 3) rfl (k := 7) (by decide) hin_X3 tyX3_ok nmX3 fl_X2_96 rfl rfl rfl (Nat.le_of_ble_eq_true (show Nat.ble (7 + 1) (List.length _) = true from rfl)) (by rw [cel_lib G hc]; rfl) d kk
theorem gf_X6_196 {l : Launch} {G : Gw} {cc : ByteArray} {nL fr lo : Nat} {ret : Option FieldType} {post : Option Value → Sg → Prop} {Φ : Ph} {pc : Nat} {L : List (Option Value)} {st : List Value} {σ : Sg} (M : Mach l G RX6 cc nL ret fr lo post Φ) {c : Nat} (hc : isLib c) (d : decode cc pc = .ok (.getfield 196, 3)) (kk : Φ (pc + 3) L (.int (σ c 0 7) :: st) σ) : Φ pc L (.ref (ad G c 0) :: st) σ := j_getf M (vld_lib hc (by decide)) (cel_lib G hc 0 _) (ci := 3) rfl (k := 7) (by decide) hin_X3 fl_X6_196 rfl d kk
theorem pf_X6_196 {l : Launch} {G : Gw} {cc : ByteArray} {nL fr lo : Nat} {ret : Option FieldType} {post : Option Value → Sg → Prop} {Φ : Ph} {pc : Nat} {L : List (Option Value)} {st : List Value} {σ : Sg} {v : Int32} (M : Mach l G RX6 cc nL ret fr lo post Φ) {c : Nat} (hc : isLib c) (d : decode cc pc = .ok (.putfield 196, 3)) (kk : Φ (pc + 3) L st (up σ c 0 (upI (σ c 0) 7 v))) : Φ pc L (.int v :: .ref (ad G c 0) :: st) σ := j_putf M (vld_lib hc (by decide)) (cel_lib G hc 0 _) (ci := 3) rfl (k := 7) (by decide) hin_X3 tyX3_ok nmX3 fl_X6_196 rfl rfl rfl (Nat.le_of_ble_eq_true (show Nat.ble (7 + 1) (List.length _) = true from rfl)) (by rw [cel_lib G hc]; rfl) d kk
theorem gf_X3_36 {l : Launch} {G : Gw} {cc : ByteArray} {nL fr lo : Nat} {ret : Option FieldType} {post : Option Value → Sg → Prop} {Φ : Ph} {pc : Nat} {L : List (Option Value)} {st : List Value} {σ : Sg} (M : Mach l G RX3 cc nL ret fr lo post Φ) {c : Nat} (hc : isLib c) (d : decode cc pc = .ok (.getfield 36, 3)) (kk : Φ (pc + 3) L (.ref (ad G c 1) :: st) σ) : Φ pc L (.ref (ad G c 0) :: st) σ := j_getf M (vld_lib hc (by decide)) (cel_lib G hc 0 _) (ci := 3) rfl (k := 8) (by decide) hin_X3 fl_X3_36 rfl d kk
theorem gf_X2_75 {l : Launch} {G : Gw} {cc : ByteArray} {nL fr lo : Nat} {ret : Option FieldType} {post : Option Value → Sg → Prop} {Φ : Ph} {pc : Nat} {L : List (Option Value)} {st : List Value} {σ : Sg} (M : Mach l G RX2 cc nL ret fr lo post Φ) {c : Nat} (hc : isLib c) (d : decode cc pc = .ok (.getfield 75, 3)) (kk : Φ (pc + 3) L (.ref (ad G c 1) :: st) σ) : Φ pc L (.ref (ad G c 0) :: st) σ := j_getf M (vld_lib hc (by decide)) (cel_lib G hc 0 _) (ci := 3) rfl (k := 8) (by decide) hin_X3 fl_X2_75 rfl d kk
theorem gf_X6_199 {l : Launch} {G : Gw} {cc : ByteArray} {nL fr lo : Nat} {ret : Option FieldType} {post : Option Value → Sg → Prop} {Φ : Ph} {pc : Nat} {L : List (Option Value)} {st : List Value} {σ : Sg} (M : Mach l G RX6 cc nL ret fr lo post Φ) {c : Nat} (hc : isLib c) (d : decode cc pc = .ok (.getfield 199, 3)) (kk : Φ (pc + 3) L (.ref (ad G c 1) :: st) σ) : Φ pc L (.ref (ad G c 0) :: st) σ := j_getf M (vld_lib hc (by decide)) (cel_lib G hc 0 _) (ci := 3) rfl (k := 8) (by decide) hin_X3 fl_X6_199 rfl d kk
theorem gf_X3_40 {l : Launch} {G : Gw} {cc : ByteArray} {nL fr lo : Nat} {ret : Option FieldType} {post : Option Value → Sg → Prop} {Φ : Ph} {pc : Nat} {L : List (Option Value)} {st : List Value} {σ : Sg} (M : Mach l G RX3 cc nL ret fr lo post Φ) {c : Nat} (hc : isLib c) (d : decode cc pc = .ok (.getfield 40, 3)) (kk : Φ (pc + 3) L (.ref (ad G c 2) :: st) σ) : Φ pc L (.ref (ad G c 0) :: st) σ := j_getf M (vld_lib hc (by decide)) (cel_lib G hc 0 _) (ci := 3) rfl (k := 9) (by decide) hin_X3 fl_X3_40 rfl d kk
theorem gf_X2_109 {l : Launch} {G : Gw} {cc : ByteArray} {nL fr lo : Nat} {ret : Option FieldType} {post : Option Value → Sg → Prop} {Φ : Ph} {pc : Nat} {L : List (Option Value)} {st : List Value} {σ : Sg} (M : Mach l G RX2 cc nL ret fr lo post Φ) {c : Nat} (hc : isLib c) (d : decode cc pc = .ok (.getfield 109, 3)) (kk : Φ (pc + 3) L (.ref (ad G c 2) :: st) σ) : Φ pc L (.ref (ad G c 0) :: st) σ := j_getf M (vld_lib hc (by decide)) (cel_lib G hc 0 _) (ci := 3) rfl (k := 9) (by decide) hin_X3 fl_X2_109 rfl d kk
theorem gf_X6_202 {l : Launch} {G : Gw} {cc : ByteArray} {nL fr lo : Nat} {ret : Option FieldType} {post : Option Value → Sg → Prop} {Φ : Ph} {pc : Nat} {L : List (Option Value)} {st : List Value} {σ : Sg} (M : Mach l G RX6 cc nL ret fr lo post Φ) {c : Nat} (hc : isLib c) (d : decode cc pc = .ok (.getfield 202, 3)) (kk : Φ (pc + 3) L (.ref (ad G c 2) :: st) σ) : Φ pc L (.ref (ad G c 0) :: st) σ := j_getf M (vld_lib hc (by decide)) (cel_lib G hc 0 _) (ci := 3) rfl (k := 9) (by decide) hin_X3 fl_X6_202 rfl d kk
theorem gf_X3_43 {l : Launch} {G : Gw} {cc : ByteArray} {nL fr lo : Nat} {ret : Option FieldType} {post : Option Value → Sg → Prop} {Φ : Ph} {pc : Nat} {L : List (Option Value)} {st : List Value} {σ : Sg} (M : Mach l G RX3 cc nL ret fr lo post Φ) {c : Nat} (hc : isLib c) (d : decode cc pc = .ok (.getfield 43, 3)) (kk : Φ (pc + 3) L (.ref (ad G c 3) :: st) σ) : Φ pc L (.ref (ad G c 0) :: st) σ := j_getf M (vld_lib hc (by decide)) (cel_lib G hc 0 _) (ci := 3) rfl (k := 10) (by decide) hin_X3 fl_X3_43 rfl d kk
theorem gf_X6_177 {l : Launch} {G : Gw} {cc : ByteArray} {nL fr lo : Nat} {ret : Option FieldType} {post : Option Value → Sg → Prop} {Φ : Ph} {pc : Nat} {L : List (Option Value)} {st : List Value} {σ : Sg} (M : Mach l G RX6 cc nL ret fr lo post Φ) {c : Nat} (hc : isLib c) (d : decode cc pc = .ok (.getfield 177, 3)) (kk : Φ (pc + 3) L (.ref (ad G c 3) :: st) σ) : Φ pc L (.ref (ad G c 0) :: st) σ := j_getf M (vld_lib hc (by decide)) (cel_lib G hc 0 _) (ci := 3) rfl (k := 10) (by decide) hin_X3 fl_X6_177 rfl d kk
theorem gf_X3_46 {l : Launch} {G : Gw} {cc : ByteArray} {nL fr lo : Nat} {ret : Option FieldType} {post : Option Value → Sg → Prop} {Φ : Ph} {pc : Nat} {L : List (Option Value)} {st : List Value} {σ : Sg} (M : Mach l G RX3 cc nL ret fr lo post Φ) {c : Nat} (hc : isLib c) (d : decode cc pc = .ok (.getfield 46, 3)) (kk : Φ (pc + 3) L (.ref (ad G c 4) :: st) σ) : Φ pc L (.ref (ad G c 0) :: st) σ := j_getf M (vld_lib hc (by decide)) (cel_lib G hc 0 _) (ci := 3) rfl (k := 11) (by decide) hin_X3 fl_X3_46 rfl d kk
theorem gf_X3_49 {l : Launch} {G : Gw} {cc : ByteArray} {nL fr lo : Nat} {ret : Option FieldType} {post : Option Value → Sg → Prop} {Φ : Ph} {pc : Nat} {L : List (Option Value)} {st : List Value} {σ : Sg} (M : Mach l G RX3 cc nL ret fr lo post Φ) {c : Nat} (hc : isLib c) (d : decode cc pc = .ok (.getfield 49, 3)) (kk : Φ (pc + 3) L (.ref (ad G c 5) :: st) σ) : Φ pc L (.ref (ad G c 0) :: st) σ := j_getf M (vld_lib hc (by decide)) (cel_lib G hc 0 _) (ci := 3) rfl (k := 12) (by decide) hin_X3 fl_X3_49 rfl d kk
theorem gf_X2_99 {l : Launch} {G : Gw} {cc : ByteArray} {nL fr lo : Nat} {ret : Option FieldType} {post : Option Value → Sg → Prop} {Φ : Ph} {pc : Nat} {L : List (Option Value)} {st : List Value} {σ : Sg} (M : Mach l G RX2 cc nL ret fr lo post Φ) {c : Nat} (hc : isLib c) (d : decode cc pc = .ok (.getfield 99, 3)) (kk : Φ (pc + 3) L (.ref (ad G c 5) :: st) σ) : Φ pc L (.ref (ad G c 0) :: st) σ := j_getf M (vld_lib hc (by decide)) (cel_lib G hc 0 _) (ci := 3) rfl (k := 12) (by decide) hin_X3 fl_X2_99 rfl d kk
theorem gf_X6_299 {l : Launch} {G : Gw} {cc : ByteArray} {nL fr lo : Nat} {ret : Option FieldType} {post : Option Value → Sg → Prop} {Φ : Ph} {pc : Nat} {L : List (Option Value)} {st : List Value} {σ : Sg} (M : Mach l G RX6 cc nL ret fr lo post Φ) {c : Nat} (hc : isLib c) (d : decode cc pc = .ok (.getfield 299, 3)) (kk : Φ (pc + 3) L (.ref (ad G c 5) :: st) σ) : Φ pc L (.ref (ad G c 0) :: st) σ := j_getf M (vld_lib hc (by decide)) (cel_lib G hc 0 _) (ci := 3) rfl (k := 12) (by decide) hin_X3 fl_X6_299 rfl d kk
theorem gf_X3_52 {l : Launch} {G : Gw} {cc : ByteArray} {nL fr lo : Nat} {ret : Option FieldType} {post : Option Value → Sg → Prop} {Φ : Ph} {pc : Nat} {L : List (Option Value)} {st : List Value} {σ : Sg} (M : Mach l G RX3 cc nL ret fr lo post Φ) {c : Nat} (hc : isLib c) (d : decode cc pc = .ok (.getfield 52, 3)) (kk : Φ (pc + 3) L (.ref (ad G c 6) :: st) σ) : Φ pc L (.ref (ad G c 0) :: st) σ := j_getf M (vld_lib hc (by decide)) (cel_lib G hc 0 _) (ci := 3) rfl (k := 13) (by decide) hin_X3 fl_X3_52 rfl d kk
theorem gf_X2_106 {l : Launch} {G : Gw} {cc : ByteArray} {nL fr lo : Nat} {ret : Option FieldType} {post : Option Value → Sg → Prop} {Φ : Ph} {pc : Nat} {L : List (Option Value)} {st : List Value} {σ : Sg} (M : Mach l G RX2 cc nL ret fr lo post Φ) {c : Nat} (hc : isLib c) (d : decode cc pc = .ok (.getfield 106, 3)) (kk : Φ (pc + 3) L (.ref (ad G c 6) :: st) σ) : Φ pc L (.ref (ad G c 0) :: st) σ := j_getf M (vld_lib hc (by decide)) (cel_lib G hc 0 _) (ci := 3) rfl (k := 13) (by decide) hin_X3 fl_X2_106 rfl d kk
theorem gf_X6_190 {l : Launch} {G : Gw} {cc : ByteArray} {nL fr lo : Nat} {ret : Option FieldType} {post : Option Value → Sg → Prop} {Φ : Ph} {pc : Nat} {L : List (Option Value)} {st : List Value} {σ : Sg} (M : Mach l G RX6 cc nL ret fr lo post Φ) {c : Nat} (hc : isLib c) (d : decode cc pc = .ok (.getfield 190, 3)) (kk : Φ (pc + 3) L (.ref (ad G c 6) :: st) σ) : Φ pc L (.ref (ad G c 0) :: st) σ := j_getf M (vld_lib hc (by decide)) (cel_lib G hc 0 _) (ci := 3) rfl (k := 13) (by decide) hin_X3 fl_X6_190 rfl d kk
theorem gf_X3_55 {l : Launch} {G : Gw} {cc : ByteArray} {nL fr lo : Nat} {ret : Option FieldType} {post : Option Value → Sg → Prop} {Φ : Ph} {pc : Nat} {L : List (Option Value)} {st : List Value} {σ : Sg} (M : Mach l G RX3 cc nL ret fr lo post Φ) {c : Nat} (hc : isLib c) (d : decode cc pc = .ok (.getfield 55, 3)) (kk : Φ (pc + 3) L (.ref (ad G c 7) :: st) σ) : Φ pc L (.ref (ad G c 0) :: st) σ := j_getf M (vld_lib hc (by decide)) (cel_lib G hc 0 _) (ci := 3) rfl (k := 14) (by decide) hin_X3 fl_X3_55 rfl d kk
theorem gf_X6_208 {l : Launch} {G : Gw} {cc : ByteArray} {nL fr lo : Nat} {ret : Option FieldType} {post : Option Value → Sg → Prop} {Φ : Ph} {pc : Nat} {L : List (Option Value)} {st : List Value} {σ : Sg} (M : Mach l G RX6 cc nL ret fr lo post Φ) {c : Nat} (hc : isLib c) (d : decode cc pc = .ok (.getfield 208, 3)) (kk : Φ (pc + 3) L (.ref (ad G c 7) :: st) σ) : Φ pc L (.ref (ad G c 0) :: st) σ := j_getf M (vld_lib hc (by decide)) (cel_lib G hc 0 _) (ci := 3) rfl (k := 14) (by decide) hin_X3 fl_X6_208 rfl d kk
theorem gf_X3_58 {l : Launch} {G : Gw} {cc : ByteArray} {nL fr lo : Nat} {ret : Option FieldType} {post : Option Value → Sg → Prop} {Φ : Ph} {pc : Nat} {L : List (Option Value)} {st : List Value} {σ : Sg} (M : Mach l G RX3 cc nL ret fr lo post Φ) {c : Nat} (hc : isLib c) (d : decode cc pc = .ok (.getfield 58, 3)) (kk : Φ (pc + 3) L (.ref (ad G c 8) :: st) σ) : Φ pc L (.ref (ad G c 0) :: st) σ := j_getf M (vld_lib hc (by decide)) (cel_lib G hc 0 _) (ci := 3) rfl (k := 15) (by decide) hin_X3 fl_X3_58 rfl d kk
theorem gf_X6_234 {l : Launch} {G : Gw} {cc : ByteArray} {nL fr lo : Nat} {ret : Option FieldType} {post : Option Value → Sg → Prop} {Φ : Ph} {pc : Nat} {L : List (Option Value)} {st : List Value} {σ : Sg} (M : Mach l G RX6 cc nL ret fr lo post Φ) {c : Nat} (hc : isLib c) (d : decode cc pc = .ok (.getfield 234, 3)) (kk : Φ (pc + 3) L (.ref (ad G c 8) :: st) σ) : Φ pc L (.ref (ad G c 0) :: st) σ := j_getf M (vld_lib hc (by decide)) (cel_lib G hc 0 _) (ci := 3) rfl (k := 15) (by decide) hin_X3 fl_X6_234 rfl d kk
theorem gf_X0_11 {l : Launch} {G : Gw} {cc : ByteArray} {nL fr lo : Nat} {ret : Option FieldType} {post : Option Value → Sg → Prop} {Φ : Ph} {pc : Nat} {L : List (Option Value)} {st : List Value} {σ : Sg} (M : Mach l G RX0 cc nL ret fr lo post Φ) (d : decode cc pc = .ok (.getfield 11, 3)) (kk : Φ (pc + 3) L (.ref (ad G 3 1) :: st) σ) : Φ pc L (.ref (ad G 3 0) :: st) σ := j_getf M (by decide) rfl (ci := 0) rfl (k := 0) (by decide) hin_X0 fl_X0_11 rfl d kk
theorem gf_X0_17 {l : Launch} {G : Gw} {cc : ByteArray} {nL fr lo : Nat} {ret : Option FieldType} {post : Option Value → Sg → Prop} {Φ : Ph} {pc : Nat} {L : List (Option Value)} {st : List Value} {σ : Sg} (M : Mach l G RX0 cc nL ret fr lo post Φ) (d : decode cc pc = .ok (.getfield 17, 3)) (kk : Φ (pc + 3) L (.int (σ 3 0 1) :: st) σ) : Φ pc L (.ref (ad G 3 0) :: st) σ := j_getf M (by decide) rfl (ci := 0) rfl (k := 1) (by decide) hin_X0 fl_X0_17 rfl d kk
theorem pf_X0_17 {l : Launch} {G : Gw} {cc : ByteArray} {nL fr lo : Nat} {ret : Option FieldType} {post : Option Value → Sg → Prop} {Φ : Ph} {pc : Nat} {L : List (Option Value)} {st : List Value} {σ : Sg} {v : Int32} (M : Mach l G RX0 cc nL ret fr lo post Φ) (d : decode cc pc = .ok (.putfield 17, 3)) (kk : Φ (pc + 3) L st (up σ 3 0 (upI (σ 3 0) 1 v))) : Φ pc L (.int v :: .ref (ad G 3 0) :: st) σ := j_putf M (by decide) rfl (ci := 0) rfl (k := 1) (by decide) hin_X0 tyX0_ok nmX0 fl_X0_17 rfl rfl rfl (Nat.le_of_ble_eq_true (show Nat.ble (1 + 1) (List.length _) = true from rfl)) (rfl) d kk
theorem gf_X0_21 {l : Launch} {G : Gw} {cc : ByteArray} {nL fr lo : Nat} {ret : Option FieldType} {post : Option Value → Sg → Prop} {Φ : Ph} {pc : Nat} {L : List (Option Value)} {st : List Value} {σ : Sg} (M : Mach l G RX0 cc nL ret fr lo post Φ) (d : decode cc pc = .ok (.getfield 21, 3)) (kk : Φ (pc + 3) L (.int (σ 3 0 2) :: st) σ) : Φ pc L (.ref (ad G 3 0) :: st) σ := j_getf M (by decide) rfl (ci := 0) rfl (k := 2) (by decide) hin_X0 fl_X0_21 rfl d kk
theorem pf_X0_21 {l : Launch} {G : Gw} {cc : ByteArray} {nL fr lo : Nat} {ret : Option FieldType} {post : Option Value → Sg → Prop} {Φ : Ph} {pc : Nat} {L : List (Option Value)} {st : List Value} {σ : Sg} {v : Int32} (M : Mach l G RX0 cc nL ret fr lo post Φ) (d : decode cc pc = .ok (.putfield 21, 3)) (kk : Φ (pc + 3) L st (up σ 3 0 (upI (σ 3 0) 2 v))) : Φ pc L (.int v :: .ref (ad G 3 0) :: st) σ := j_putf M (by decide) rfl (ci := 0) rfl (k := 2) (by decide) hin_X0 tyX0_ok nmX0 fl_X0_21 rfl rfl rfl (Nat.le_of_ble_eq_true (show Nat.ble (2 + 1) (List.length _) = true from rfl)) (rfl) d kk
theorem gf_X6_134 {l : Launch} {G : Gw} {cc : ByteArray} {nL fr lo : Nat} {ret : Option FieldType} {post : Option Value → Sg → Prop} {Φ : Ph} {pc : Nat} {L : List (Option Value)} {st : List Value} {σ : Sg} (M : Mach l G RX6 cc nL ret fr lo post Φ) (d : decode cc pc = .ok (.getfield 134, 3)) (kk : Φ (pc + 3) L (.int (σ 3 0 2) :: st) σ) : Φ pc L (.ref (ad G 3 0) :: st) σ := j_getf M (by decide) rfl (ci := 0) rfl (k := 2) (by decide) hin_X0 fl_X6_134 rfl d kk
theorem gf_X2_12 {l : Launch} {G : Gw} {cc : ByteArray} {nL fr lo : Nat} {ret : Option FieldType} {post : Option Value → Sg → Prop} {Φ : Ph} {pc : Nat} {L : List (Option Value)} {st : List Value} {σ : Sg} (M : Mach l G RX2 cc nL ret fr lo post Φ) (d : decode cc pc = .ok (.getfield 12, 3)) (kk : Φ (pc + 3) L (.ref (ad G 10 0) :: st) σ) : Φ pc L (.ref (ad G 5 0) :: st) σ := j_getf M (by decide) rfl (ci := 2) rfl (k := 0) (by decide) hin_X2 fl_X2_12 rfl d kk
theorem gf_X2_18 {l : Launch} {G : Gw} {cc : ByteArray} {nL fr lo : Nat} {ret : Option FieldType} {post : Option Value → Sg → Prop} {Φ : Ph} {pc : Nat} {L : List (Option Value)} {st : List Value} {σ : Sg} (M : Mach l G RX2 cc nL ret fr lo post Φ) (d : decode cc pc = .ok (.getfield 18, 3)) (kk : Φ (pc + 3) L (.ref (ad G 5 1) :: st) σ) : Φ pc L (.ref (ad G 5 0) :: st) σ := j_getf M (by decide) rfl (ci := 2) rfl (k := 1) (by decide) hin_X2 fl_X2_18 rfl d kk
theorem gf_X2_22 {l : Launch} {G : Gw} {cc : ByteArray} {nL fr lo : Nat} {ret : Option FieldType} {post : Option Value → Sg → Prop} {Φ : Ph} {pc : Nat} {L : List (Option Value)} {st : List Value} {σ : Sg} (M : Mach l G RX2 cc nL ret fr lo post Φ) (d : decode cc pc = .ok (.getfield 22, 3)) (kk : Φ (pc + 3) L (.ref (ad G 5 2) :: st) σ) : Φ pc L (.ref (ad G 5 0) :: st) σ := j_getf M (by decide) rfl (ci := 2) rfl (k := 2) (by decide) hin_X2 fl_X2_22 rfl d kk
theorem gf_X1_11 {l : Launch} {G : Gw} {cc : ByteArray} {nL fr lo : Nat} {ret : Option FieldType} {post : Option Value → Sg → Prop} {Φ : Ph} {pc : Nat} {L : List (Option Value)} {st : List Value} {σ : Sg} (M : Mach l G RX1 cc nL ret fr lo post Φ) (d : decode cc pc = .ok (.getfield 11, 3)) (kk : Φ (pc + 3) L (.ref (ad G 4 1) :: st) σ) : Φ pc L (.ref (ad G 4 0) :: st) σ := j_getf M (by decide) rfl (ci := 1) rfl (k := 0) (by decide) hin_X1 fl_X1_11 rfl d kk
theorem gf_X1_15 {l : Launch} {G : Gw} {cc : ByteArray} {nL fr lo : Nat} {ret : Option FieldType} {post : Option Value → Sg → Prop} {Φ : Ph} {pc : Nat} {L : List (Option Value)} {st : List Value} {σ : Sg} (M : Mach l G RX1 cc nL ret fr lo post Φ) (d : decode cc pc = .ok (.getfield 15, 3)) (kk : Φ (pc + 3) L (.int (σ 4 0 1) :: st) σ) : Φ pc L (.ref (ad G 4 0) :: st) σ := j_getf M (by decide) rfl (ci := 1) rfl (k := 1) (by decide) hin_X1 fl_X1_15 rfl d kk
theorem pf_X1_15 {l : Launch} {G : Gw} {cc : ByteArray} {nL fr lo : Nat} {ret : Option FieldType} {post : Option Value → Sg → Prop} {Φ : Ph} {pc : Nat} {L : List (Option Value)} {st : List Value} {σ : Sg} {v : Int32} (M : Mach l G RX1 cc nL ret fr lo post Φ) (d : decode cc pc = .ok (.putfield 15, 3)) (kk : Φ (pc + 3) L st (up σ 4 0 (upI (σ 4 0) 1 v))) : Φ pc L (.int v :: .ref (ad G 4 0) :: st) σ := j_putf M (by decide) rfl (ci := 1) rfl (k := 1) (by decide) hin_X1 tyX1_ok nmX1 fl_X1_15 rfl rfl rfl (Nat.le_of_ble_eq_true (show Nat.ble (1 + 1) (List.length _) = true from rfl)) (rfl) d kk
theorem gf_X1_19 {l : Launch} {G : Gw} {cc : ByteArray} {nL fr lo : Nat} {ret : Option FieldType} {post : Option Value → Sg → Prop} {Φ : Ph} {pc : Nat} {L : List (Option Value)} {st : List Value} {σ : Sg} (M : Mach l G RX1 cc nL ret fr lo post Φ) (d : decode cc pc = .ok (.getfield 19, 3)) (kk : Φ (pc + 3) L (.int (σ 4 0 2) :: st) σ) : Φ pc L (.ref (ad G 4 0) :: st) σ := j_getf M (by decide) rfl (ci := 1) rfl (k := 2) (by decide) hin_X1 fl_X1_19 rfl d kk
theorem pf_X1_19 {l : Launch} {G : Gw} {cc : ByteArray} {nL fr lo : Nat} {ret : Option FieldType} {post : Option Value → Sg → Prop} {Φ : Ph} {pc : Nat} {L : List (Option Value)} {st : List Value} {σ : Sg} {v : Int32} (M : Mach l G RX1 cc nL ret fr lo post Φ) (d : decode cc pc = .ok (.putfield 19, 3)) (kk : Φ (pc + 3) L st (up σ 4 0 (upI (σ 4 0) 2 v))) : Φ pc L (.int v :: .ref (ad G 4 0) :: st) σ := j_putf M (by decide) rfl (ci := 1) rfl (k := 2) (by decide) hin_X1 tyX1_ok nmX1 fl_X1_19 rfl rfl rfl (Nat.le_of_ble_eq_true (show Nat.ble (2 + 1) (List.length _) = true from rfl)) (rfl) d kk
theorem gf_X1_22 {l : Launch} {G : Gw} {cc : ByteArray} {nL fr lo : Nat} {ret : Option FieldType} {post : Option Value → Sg → Prop} {Φ : Ph} {pc : Nat} {L : List (Option Value)} {st : List Value} {σ : Sg} (M : Mach l G RX1 cc nL ret fr lo post Φ) (d : decode cc pc = .ok (.getfield 22, 3)) (kk : Φ (pc + 3) L (.int (σ 4 0 3) :: st) σ) : Φ pc L (.ref (ad G 4 0) :: st) σ := j_getf M (by decide) rfl (ci := 1) rfl (k := 3) (by decide) hin_X1 fl_X1_22 rfl d kk
theorem pf_X1_22 {l : Launch} {G : Gw} {cc : ByteArray} {nL fr lo : Nat} {ret : Option FieldType} {post : Option Value → Sg → Prop} {Φ : Ph} {pc : Nat} {L : List (Option Value)} {st : List Value} {σ : Sg} {v : Int32} (M : Mach l G RX1 cc nL ret fr lo post Φ) (d : decode cc pc = .ok (.putfield 22, 3)) (kk : Φ (pc + 3) L st (up σ 4 0 (upI (σ 4 0) 3 v))) : Φ pc L (.int v :: .ref (ad G 4 0) :: st) σ := j_putf M (by decide) rfl (ci := 1) rfl (k := 3) (by decide) hin_X1 tyX1_ok nmX1 fl_X1_22 rfl rfl rfl (Nat.le_of_ble_eq_true (show Nat.ble (3 + 1) (List.length _) = true from rfl)) (rfl) d kk
theorem gf_X1_25 {l : Launch} {G : Gw} {cc : ByteArray} {nL fr lo : Nat} {ret : Option FieldType} {post : Option Value → Sg → Prop} {Φ : Ph} {pc : Nat} {L : List (Option Value)} {st : List Value} {σ : Sg} (M : Mach l G RX1 cc nL ret fr lo post Φ) (d : decode cc pc = .ok (.getfield 25, 3)) (kk : Φ (pc + 3) L (.int (σ 4 0 4) :: st) σ) : Φ pc L (.ref (ad G 4 0) :: st) σ := j_getf M (by decide) rfl (ci := 1) rfl (k := 4) (by decide) hin_X1 fl_X1_25 rfl d kk
theorem pf_X1_25 {l : Launch} {G : Gw} {cc : ByteArray} {nL fr lo : Nat} {ret : Option FieldType} {post : Option Value → Sg → Prop} {Φ : Ph} {pc : Nat} {L : List (Option Value)} {st : List Value} {σ : Sg} {v : Int32} (M : Mach l G RX1 cc nL ret fr lo post Φ) (d : decode cc pc = .ok (.putfield 25, 3)) (kk : Φ (pc + 3) L st (up σ 4 0 (upI (σ 4 0) 4 v))) : Φ pc L (.int v :: .ref (ad G 4 0) :: st) σ := j_putf M (by decide) rfl (ci := 1) rfl (k := 4) (by decide) hin_X1 tyX1_ok nmX1 fl_X1_25 rfl rfl rfl (Nat.le_of_ble_eq_true (show Nat.ble (4 + 1) (List.length _) = true from rfl)) (rfl) d kk
theorem gf_X1_28 {l : Launch} {G : Gw} {cc : ByteArray} {nL fr lo : Nat} {ret : Option FieldType} {post : Option Value → Sg → Prop} {Φ : Ph} {pc : Nat} {L : List (Option Value)} {st : List Value} {σ : Sg} (M : Mach l G RX1 cc nL ret fr lo post Φ) (d : decode cc pc = .ok (.getfield 28, 3)) (kk : Φ (pc + 3) L (.int (σ 4 0 5) :: st) σ) : Φ pc L (.ref (ad G 4 0) :: st) σ := j_getf M (by decide) rfl (ci := 1) rfl (k := 5) (by decide) hin_X1 fl_X1_28 rfl d kk
theorem pf_X1_28 {l : Launch} {G : Gw} {cc : ByteArray} {nL fr lo : Nat} {ret : Option FieldType} {post : Option Value → Sg → Prop} {Φ : Ph} {pc : Nat} {L : List (Option Value)} {st : List Value} {σ : Sg} {v : Int32} (M : Mach l G RX1 cc nL ret fr lo post Φ) (d : decode cc pc = .ok (.putfield 28, 3)) (kk : Φ (pc + 3) L st (up σ 4 0 (upI (σ 4 0) 5 v))) : Φ pc L (.int v :: .ref (ad G 4 0) :: st) σ := j_putf M (by decide) rfl (ci := 1) rfl (k := 5) (by decide) hin_X1 tyX1_ok nmX1 fl_X1_28 rfl rfl rfl (Nat.le_of_ble_eq_true (show Nat.ble (5 + 1) (List.length _) = true from rfl)) (rfl) d kk
theorem gf_X6_10 {l : Launch} {G : Gw} {cc : ByteArray} {nL fr lo : Nat} {ret : Option FieldType} {post : Option Value → Sg → Prop} {Φ : Ph} {pc : Nat} {L : List (Option Value)} {st : List Value} {σ : Sg} (M : Mach l G RX6 cc nL ret fr lo post Φ) (d : decode cc pc = .ok (.getfield 10, 3)) (kk : Φ (pc + 3) L (.ref (ad G 1 0) :: st) σ) : Φ pc L (.ref (ad G 0 0) :: st) σ := j_getf M (by decide) rfl (ci := 6) rfl (k := 0) (by decide) hin_X6 fl_X6_10 rfl d kk
theorem gf_X6_19 {l : Launch} {G : Gw} {cc : ByteArray} {nL fr lo : Nat} {ret : Option FieldType} {post : Option Value → Sg → Prop} {Φ : Ph} {pc : Nat} {L : List (Option Value)} {st : List Value} {σ : Sg} (M : Mach l G RX6 cc nL ret fr lo post Φ) (d : decode cc pc = .ok (.getfield 19, 3)) (kk : Φ (pc + 3) L (.ref (ad G 2 0) :: st) σ) : Φ pc L (.ref (ad G 0 0) :: st) σ := j_getf M (by decide) rfl (ci := 6) rfl (k := 1) (by decide) hin_X6 fl_X6_19 rfl d kk
theorem gf_X6_26 {l : Launch} {G : Gw} {cc : ByteArray} {nL fr lo : Nat} {ret : Option FieldType} {post : Option Value → Sg → Prop} {Φ : Ph} {pc : Nat} {L : List (Option Value)} {st : List Value} {σ : Sg} (M : Mach l G RX6 cc nL ret fr lo post Φ) (d : decode cc pc = .ok (.getfield 26, 3)) (kk : Φ (pc + 3) L (.ref (ad G 6 0) :: st) σ) : Φ pc L (.ref (ad G 0 0) :: st) σ := j_getf M (by decide) rfl (ci := 6) rfl (k := 2) (by decide) hin_X6 fl_X6_26 rfl d kk
theorem gf_X6_30 {l : Launch} {G : Gw} {cc : ByteArray} {nL fr lo : Nat} {ret : Option FieldType} {post : Option Value → Sg → Prop} {Φ : Ph} {pc : Nat} {L : List (Option Value)} {st : List Value} {σ : Sg} (M : Mach l G RX6 cc nL ret fr lo post Φ) (d : decode cc pc = .ok (.getfield 30, 3)) (kk : Φ (pc + 3) L (.ref (ad G 7 0) :: st) σ) : Φ pc L (.ref (ad G 0 0) :: st) σ := j_getf M (by decide) rfl (ci := 6) rfl (k := 3) (by decide) hin_X6 fl_X6_30 rfl d kk
theorem gf_X6_33 {l : Launch} {G : Gw} {cc : ByteArray} {nL fr lo : Nat} {ret : Option FieldType} {post : Option Value → Sg → Prop} {Φ : Ph} {pc : Nat} {L : List (Option Value)} {st : List Value} {σ : Sg} (M : Mach l G RX6 cc nL ret fr lo post Φ) (d : decode cc pc = .ok (.getfield 33, 3)) (kk : Φ (pc + 3) L (.ref (ad G 8 0) :: st) σ) : Φ pc L (.ref (ad G 0 0) :: st) σ := j_getf M (by decide) rfl (ci := 6) rfl (k := 4) (by decide) hin_X6 fl_X6_33 rfl d kk
theorem gf_X6_36 {l : Launch} {G : Gw} {cc : ByteArray} {nL fr lo : Nat} {ret : Option FieldType} {post : Option Value → Sg → Prop} {Φ : Ph} {pc : Nat} {L : List (Option Value)} {st : List Value} {σ : Sg} (M : Mach l G RX6 cc nL ret fr lo post Φ) (d : decode cc pc = .ok (.getfield 36, 3)) (kk : Φ (pc + 3) L (.ref (ad G 9 0) :: st) σ) : Φ pc L (.ref (ad G 0 0) :: st) σ := j_getf M (by decide) rfl (ci := 6) rfl (k := 5) (by decide) hin_X6 fl_X6_36 rfl d kk
theorem gf_X6_42 {l : Launch} {G : Gw} {cc : ByteArray} {nL fr lo : Nat} {ret : Option FieldType} {post : Option Value → Sg → Prop} {Φ : Ph} {pc : Nat} {L : List (Option Value)} {st : List Value} {σ : Sg} (M : Mach l G RX6 cc nL ret fr lo post Φ) (d : decode cc pc = .ok (.getfield 42, 3)) (kk : Φ (pc + 3) L (.ref (ad G 3 0) :: st) σ) : Φ pc L (.ref (ad G 0 0) :: st) σ := j_getf M (by decide) rfl (ci := 6) rfl (k := 6) (by decide) hin_X6 fl_X6_42 rfl d kk
theorem gf_X6_49 {l : Launch} {G : Gw} {cc : ByteArray} {nL fr lo : Nat} {ret : Option FieldType} {post : Option Value → Sg → Prop} {Φ : Ph} {pc : Nat} {L : List (Option Value)} {st : List Value} {σ : Sg} (M : Mach l G RX6 cc nL ret fr lo post Φ) (d : decode cc pc = .ok (.getfield 49, 3)) (kk : Φ (pc + 3) L (.ref (ad G 5 0) :: st) σ) : Φ pc L (.ref (ad G 0 0) :: st) σ := j_getf M (by decide) rfl (ci := 6) rfl (k := 7) (by decide) hin_X6 fl_X6_49 rfl d kk
theorem gf_X6_56 {l : Launch} {G : Gw} {cc : ByteArray} {nL fr lo : Nat} {ret : Option FieldType} {post : Option Value → Sg → Prop} {Φ : Ph} {pc : Nat} {L : List (Option Value)} {st : List Value} {σ : Sg} (M : Mach l G RX6 cc nL ret fr lo post Φ) (d : decode cc pc = .ok (.getfield 56, 3)) (kk : Φ (pc + 3) L (.ref (ad G 4 0) :: st) σ) : Φ pc L (.ref (ad G 0 0) :: st) σ := j_getf M (by decide) rfl (ci := 6) rfl (k := 8) (by decide) hin_X6 fl_X6_56 rfl d kk
theorem gf_X6_60 {l : Launch} {G : Gw} {cc : ByteArray} {nL fr lo : Nat} {ret : Option FieldType} {post : Option Value → Sg → Prop} {Φ : Ph} {pc : Nat} {L : List (Option Value)} {st : List Value} {σ : Sg} (M : Mach l G RX6 cc nL ret fr lo post Φ) (d : decode cc pc = .ok (.getfield 60, 3)) (kk : Φ (pc + 3) L (.int (σ 0 0 9) :: st) σ) : Φ pc L (.ref (ad G 0 0) :: st) σ := j_getf M (by decide) rfl (ci := 6) rfl (k := 9) (by decide) hin_X6 fl_X6_60 rfl d kk
theorem pf_X6_60 {l : Launch} {G : Gw} {cc : ByteArray} {nL fr lo : Nat} {ret : Option FieldType} {post : Option Value → Sg → Prop} {Φ : Ph} {pc : Nat} {L : List (Option Value)} {st : List Value} {σ : Sg} {v : Int32} (M : Mach l G RX6 cc nL ret fr lo post Φ) (d : decode cc pc = .ok (.putfield 60, 3)) (kk : Φ (pc + 3) L st (up σ 0 0 (upI (σ 0 0) 9 v))) : Φ pc L (.int v :: .ref (ad G 0 0) :: st) σ := j_putf M (by decide) rfl (ci := 6) rfl (k := 9) (by decide) hin_X6 tyX6_ok nmX6 fl_X6_60 rfl rfl rfl (Nat.le_of_ble_eq_true (show Nat.ble (9 + 1) (List.length _) = true from rfl)) (rfl) d kk
theorem gf_X7_7 {l : Launch} {G : Gw} {cc : ByteArray} {nL fr lo : Nat} {ret : Option FieldType} {post : Option Value → Sg → Prop} {Φ : Ph} {pc : Nat} {L : List (Option Value)} {st : List Value} {σ : Sg} (M : Mach l G RX7 cc nL ret fr lo post Φ) (d : decode cc pc = .ok (.getfield 7, 3)) (kk : Φ (pc + 3) L (.ref (ad G 40 1) :: st) σ) : Φ pc L (.ref (ad G 40 0) :: st) σ := j_getf M (by decide) rfl (ci := 7) rfl (k := 0) (by decide) hin_X7 fl_X7_7 rfl d kk
theorem gf_X7_13 {l : Launch} {G : Gw} {cc : ByteArray} {nL fr lo : Nat} {ret : Option FieldType} {post : Option Value → Sg → Prop} {Φ : Ph} {pc : Nat} {L : List (Option Value)} {st : List Value} {σ : Sg} (M : Mach l G RX7 cc nL ret fr lo post Φ) (d : decode cc pc = .ok (.getfield 13, 3)) (kk : Φ (pc + 3) L (.ref (ad G 40 2) :: st) σ) : Φ pc L (.ref (ad G 40 0) :: st) σ := j_getf M (by decide) rfl (ci := 7) rfl (k := 1) (by decide) hin_X7 fl_X7_13 rfl d kk
theorem gf_X7_16 {l : Launch} {G : Gw} {cc : ByteArray} {nL fr lo : Nat} {ret : Option FieldType} {post : Option Value → Sg → Prop} {Φ : Ph} {pc : Nat} {L : List (Option Value)} {st : List Value} {σ : Sg} (M : Mach l G RX7 cc nL ret fr lo post Φ) (d : decode cc pc = .ok (.getfield 16, 3)) (kk : Φ (pc + 3) L (.ref (ad G 40 3) :: st) σ) : Φ pc L (.ref (ad G 40 0) :: st) σ := j_getf M (by decide) rfl (ci := 7) rfl (k := 2) (by decide) hin_X7 fl_X7_16 rfl d kk
theorem gf_X7_56 {l : Launch} {G : Gw} {cc : ByteArray} {nL fr lo : Nat} {ret : Option FieldType} {post : Option Value → Sg → Prop} {Φ : Ph} {pc : Nat} {L : List (Option Value)} {st : List Value} {σ : Sg} (M : Mach l G RX7 cc nL ret fr lo post Φ) (d : decode cc pc = .ok (.getfield 56, 3)) (kk : Φ (pc + 3) L (.int (σ 40 0 3) :: st) σ) : Φ pc L (.ref (ad G 40 0) :: st) σ := j_getf M (by decide) rfl (ci := 7) rfl (k := 3) (by decide) hin_X7 fl_X7_56 rfl d kk
theorem pf_X7_56 {l : Launch} {G : Gw} {cc : ByteArray} {nL fr lo : Nat} {ret : Option FieldType} {post : Option Value → Sg → Prop} {Φ : Ph} {pc : Nat} {L : List (Option Value)} {st : List Value} {σ : Sg} {v : Int32} (M : Mach l G RX7 cc nL ret fr lo post Φ) (d : decode cc pc = .ok (.putfield 56, 3)) (kk : Φ (pc + 3) L st (up σ 40 0 (upI (σ 40 0) 3 v))) : Φ pc L (.int v :: .ref (ad G 40 0) :: st) σ := j_putf M (by decide) rfl (ci := 7) rfl (k := 3) (by decide) hin_X7 tyX7_ok nmX7 fl_X7_56 rfl rfl rfl (Nat.le_of_ble_eq_true (show Nat.ble (3 + 1) (List.length _) = true from rfl)) (rfl) d kk
theorem gf_X7_147 {l : Launch} {G : Gw} {cc : ByteArray} {nL fr lo : Nat} {ret : Option FieldType} {post : Option Value → Sg → Prop} {Φ : Ph} {pc : Nat} {L : List (Option Value)} {st : List Value} {σ : Sg} (M : Mach l G RX7 cc nL ret fr lo post Φ) (d : decode cc pc = .ok (.getfield 147, 3)) (kk : Φ (pc + 3) L (.int (σ 40 0 4) :: st) σ) : Φ pc L (.ref (ad G 40 0) :: st) σ := j_getf M (by decide) rfl (ci := 7) rfl (k := 4) (by decide) hin_X7 fl_X7_147 rfl d kk
theorem pf_X7_147 {l : Launch} {G : Gw} {cc : ByteArray} {nL fr lo : Nat} {ret : Option FieldType} {post : Option Value → Sg → Prop} {Φ : Ph} {pc : Nat} {L : List (Option Value)} {st : List Value} {σ : Sg} {v : Int32} (M : Mach l G RX7 cc nL ret fr lo post Φ) (hz : narrow .boolean (.int v) = .int v) (hz2 : fits .boolean (.int v) = true) (d : decode cc pc = .ok (.putfield 147, 3)) (kk : Φ (pc + 3) L st (up σ 40 0 (upI (σ 40 0) 4 v))) : Φ pc L (.int v :: .ref (ad G 40 0) :: st) σ := j_putf M (by decide) rfl (ci := 7) rfl (k := 4) (by decide) hin_X7 tyX7_ok nmX7 fl_X7_147 rfl hz hz2 (Nat.le_of_ble_eq_true (show Nat.ble (4 + 1) (List.length _) = true from rfl)) (rfl) d kk
theorem gf_X7_19 {l : Launch} {G : Gw} {cc : ByteArray} {nL fr lo : Nat} {ret : Option FieldType} {post : Option Value → Sg → Prop} {Φ : Ph} {pc : Nat} {L : List (Option Value)} {st : List Value} {σ : Sg} (M : Mach l G RX7 cc nL ret fr lo post Φ) (d : decode cc pc = .ok (.getfield 19, 3)) (kk : Φ (pc + 3) L (.ref (ad G 40 4) :: st) σ) : Φ pc L (.ref (ad G 40 0) :: st) σ := j_getf M (by decide) rfl (ci := 7) rfl (k := 5) (by decide) hin_X7 fl_X7_19 rfl d kk
theorem gf_X7_22 {l : Launch} {G : Gw} {cc : ByteArray} {nL fr lo : Nat} {ret : Option FieldType} {post : Option Value → Sg → Prop} {Φ : Ph} {pc : Nat} {L : List (Option Value)} {st : List Value} {σ : Sg} (M : Mach l G RX7 cc nL ret fr lo post Φ) (d : decode cc pc = .ok (.getfield 22, 3)) (kk : Φ (pc + 3) L (.ref (ad G 40 5) :: st) σ) : Φ pc L (.ref (ad G 40 0) :: st) σ := j_getf M (by decide) rfl (ci := 7) rfl (k := 6) (by decide) hin_X7 fl_X7_22 rfl d kk
theorem gf_X7_25 {l : Launch} {G : Gw} {cc : ByteArray} {nL fr lo : Nat} {ret : Option FieldType} {post : Option Value → Sg → Prop} {Φ : Ph} {pc : Nat} {L : List (Option Value)} {st : List Value} {σ : Sg} (M : Mach l G RX7 cc nL ret fr lo post Φ) (d : decode cc pc = .ok (.getfield 25, 3)) (kk : Φ (pc + 3) L (.ref (ad G 40 6) :: st) σ) : Φ pc L (.ref (ad G 40 0) :: st) σ := j_getf M (by decide) rfl (ci := 7) rfl (k := 7) (by decide) hin_X7 fl_X7_25 rfl d kk
theorem gf_X7_87 {l : Launch} {G : Gw} {cc : ByteArray} {nL fr lo : Nat} {ret : Option FieldType} {post : Option Value → Sg → Prop} {Φ : Ph} {pc : Nat} {L : List (Option Value)} {st : List Value} {σ : Sg} (M : Mach l G RX7 cc nL ret fr lo post Φ) (d : decode cc pc = .ok (.getfield 87, 3)) (kk : Φ (pc + 3) L (.int (σ 40 0 8) :: st) σ) : Φ pc L (.ref (ad G 40 0) :: st) σ := j_getf M (by decide) rfl (ci := 7) rfl (k := 8) (by decide) hin_X7 fl_X7_87 rfl d kk
theorem pf_X7_87 {l : Launch} {G : Gw} {cc : ByteArray} {nL fr lo : Nat} {ret : Option FieldType} {post : Option Value → Sg → Prop} {Φ : Ph} {pc : Nat} {L : List (Option Value)} {st : List Value} {σ : Sg} {v : Int32} (M : Mach l G RX7 cc nL ret fr lo post Φ) (d : decode cc pc = .ok (.putfield 87, 3)) (kk : Φ (pc + 3) L st (up σ 40 0 (upI (σ 40 0) 8 v))) : Φ pc L (.int v :: .ref (ad G 40 0) :: st) σ := j_putf M (by decide) rfl (ci := 7) rfl (k := 8) (by decide) hin_X7 tyX7_ok nmX7 fl_X7_87 rfl rfl rfl (Nat.le_of_ble_eq_true (show Nat.ble (8 + 1) (List.length _) = true from rfl)) (rfl) d kk
theorem gf_X7_143 {l : Launch} {G : Gw} {cc : ByteArray} {nL fr lo : Nat} {ret : Option FieldType} {post : Option Value → Sg → Prop} {Φ : Ph} {pc : Nat} {L : List (Option Value)} {st : List Value} {σ : Sg} (M : Mach l G RX7 cc nL ret fr lo post Φ) (d : decode cc pc = .ok (.getfield 143, 3)) (kk : Φ (pc + 3) L (.int (σ 40 0 9) :: st) σ) : Φ pc L (.ref (ad G 40 0) :: st) σ := j_getf M (by decide) rfl (ci := 7) rfl (k := 9) (by decide) hin_X7 fl_X7_143 rfl d kk
theorem pf_X7_143 {l : Launch} {G : Gw} {cc : ByteArray} {nL fr lo : Nat} {ret : Option FieldType} {post : Option Value → Sg → Prop} {Φ : Ph} {pc : Nat} {L : List (Option Value)} {st : List Value} {σ : Sg} {v : Int32} (M : Mach l G RX7 cc nL ret fr lo post Φ) (d : decode cc pc = .ok (.putfield 143, 3)) (kk : Φ (pc + 3) L st (up σ 40 0 (upI (σ 40 0) 9 v))) : Φ pc L (.int v :: .ref (ad G 40 0) :: st) σ := j_putf M (by decide) rfl (ci := 7) rfl (k := 9) (by decide) hin_X7 tyX7_ok nmX7 fl_X7_143 rfl rfl rfl (Nat.le_of_ble_eq_true (show Nat.ble (9 + 1) (List.length _) = true from rfl)) (rfl) d kk
theorem gf_X7_91 {l : Launch} {G : Gw} {cc : ByteArray} {nL fr lo : Nat} {ret : Option FieldType} {post : Option Value → Sg → Prop} {Φ : Ph} {pc : Nat} {L : List (Option Value)} {st : List Value} {σ : Sg} (M : Mach l G RX7 cc nL ret fr lo post Φ) (d : decode cc pc = .ok (.getfield 91, 3)) (kk : Φ (pc + 3) L (.int (σ 40 0 10) :: st) σ) : Φ pc L (.ref (ad G 40 0) :: st) σ := j_getf M (by decide) rfl (ci := 7) rfl (k := 10) (by decide) hin_X7 fl_X7_91 rfl d kk
theorem pf_X7_91 {l : Launch} {G : Gw} {cc : ByteArray} {nL fr lo : Nat} {ret : Option FieldType} {post : Option Value → Sg → Prop} {Φ : Ph} {pc : Nat} {L : List (Option Value)} {st : List Value} {σ : Sg} {v : Int32} (M : Mach l G RX7 cc nL ret fr lo post Φ) (d : decode cc pc = .ok (.putfield 91, 3)) (kk : Φ (pc + 3) L st (up σ 40 0 (upI (σ 40 0) 10 v))) : Φ pc L (.int v :: .ref (ad G 40 0) :: st) σ := j_putf M (by decide) rfl (ci := 7) rfl (k := 10) (by decide) hin_X7 tyX7_ok nmX7 fl_X7_91 rfl rfl rfl (Nat.le_of_ble_eq_true (show Nat.ble (10 + 1) (List.length _) = true from rfl)) (rfl) d kk
theorem gf_X7_97 {l : Launch} {G : Gw} {cc : ByteArray} {nL fr lo : Nat} {ret : Option FieldType} {post : Option Value → Sg → Prop} {Φ : Ph} {pc : Nat} {L : List (Option Value)} {st : List Value} {σ : Sg} (M : Mach l G RX7 cc nL ret fr lo post Φ) (d : decode cc pc = .ok (.getfield 97, 3)) (kk : Φ (pc + 3) L (.int (σ 40 0 11) :: st) σ) : Φ pc L (.ref (ad G 40 0) :: st) σ := j_getf M (by decide) rfl (ci := 7) rfl (k := 11) (by decide) hin_X7 fl_X7_97 rfl d kk
theorem pf_X7_97 {l : Launch} {G : Gw} {cc : ByteArray} {nL fr lo : Nat} {ret : Option FieldType} {post : Option Value → Sg → Prop} {Φ : Ph} {pc : Nat} {L : List (Option Value)} {st : List Value} {σ : Sg} {v : Int32} (M : Mach l G RX7 cc nL ret fr lo post Φ) (d : decode cc pc = .ok (.putfield 97, 3)) (kk : Φ (pc + 3) L st (up σ 40 0 (upI (σ 40 0) 11 v))) : Φ pc L (.int v :: .ref (ad G 40 0) :: st) σ := j_putf M (by decide) rfl (ci := 7) rfl (k := 11) (by decide) hin_X7 tyX7_ok nmX7 fl_X7_97 rfl rfl rfl (Nat.le_of_ble_eq_true (show Nat.ble (11 + 1) (List.length _) = true from rfl)) (rfl) d kk
theorem gf_X7_100 {l : Launch} {G : Gw} {cc : ByteArray} {nL fr lo : Nat} {ret : Option FieldType} {post : Option Value → Sg → Prop} {Φ : Ph} {pc : Nat} {L : List (Option Value)} {st : List Value} {σ : Sg} (M : Mach l G RX7 cc nL ret fr lo post Φ) (d : decode cc pc = .ok (.getfield 100, 3)) (kk : Φ (pc + 3) L (.int (σ 40 0 12) :: st) σ) : Φ pc L (.ref (ad G 40 0) :: st) σ := j_getf M (by decide) rfl (ci := 7) rfl (k := 12) (by decide) hin_X7 fl_X7_100 rfl d kk
theorem pf_X7_100 {l : Launch} {G : Gw} {cc : ByteArray} {nL fr lo : Nat} {ret : Option FieldType} {post : Option Value → Sg → Prop} {Φ : Ph} {pc : Nat} {L : List (Option Value)} {st : List Value} {σ : Sg} {v : Int32} (M : Mach l G RX7 cc nL ret fr lo post Φ) (d : decode cc pc = .ok (.putfield 100, 3)) (kk : Φ (pc + 3) L st (up σ 40 0 (upI (σ 40 0) 12 v))) : Φ pc L (.int v :: .ref (ad G 40 0) :: st) σ := j_putf M (by decide) rfl (ci := 7) rfl (k := 12) (by decide) hin_X7 tyX7_ok nmX7 fl_X7_100 rfl rfl rfl (Nat.le_of_ble_eq_true (show Nat.ble (12 + 1) (List.length _) = true from rfl)) (rfl) d kk
theorem gf_X7_94 {l : Launch} {G : Gw} {cc : ByteArray} {nL fr lo : Nat} {ret : Option FieldType} {post : Option Value → Sg → Prop} {Φ : Ph} {pc : Nat} {L : List (Option Value)} {st : List Value} {σ : Sg} (M : Mach l G RX7 cc nL ret fr lo post Φ) (d : decode cc pc = .ok (.getfield 94, 3)) (kk : Φ (pc + 3) L (.int (σ 40 0 13) :: st) σ) : Φ pc L (.ref (ad G 40 0) :: st) σ := j_getf M (by decide) rfl (ci := 7) rfl (k := 13) (by decide) hin_X7 fl_X7_94 rfl d kk
theorem pf_X7_94 {l : Launch} {G : Gw} {cc : ByteArray} {nL fr lo : Nat} {ret : Option FieldType} {post : Option Value → Sg → Prop} {Φ : Ph} {pc : Nat} {L : List (Option Value)} {st : List Value} {σ : Sg} {v : Int32} (M : Mach l G RX7 cc nL ret fr lo post Φ) (d : decode cc pc = .ok (.putfield 94, 3)) (kk : Φ (pc + 3) L st (up σ 40 0 (upI (σ 40 0) 13 v))) : Φ pc L (.int v :: .ref (ad G 40 0) :: st) σ := j_putf M (by decide) rfl (ci := 7) rfl (k := 13) (by decide) hin_X7 tyX7_ok nmX7 fl_X7_94 rfl rfl rfl (Nat.le_of_ble_eq_true (show Nat.ble (13 + 1) (List.length _) = true from rfl)) (rfl) d kk
theorem gf_X7_111 {l : Launch} {G : Gw} {cc : ByteArray} {nL fr lo : Nat} {ret : Option FieldType} {post : Option Value → Sg → Prop} {Φ : Ph} {pc : Nat} {L : List (Option Value)} {st : List Value} {σ : Sg} (M : Mach l G RX7 cc nL ret fr lo post Φ) (d : decode cc pc = .ok (.getfield 111, 3)) (kk : Φ (pc + 3) L (.int (σ 40 0 14) :: st) σ) : Φ pc L (.ref (ad G 40 0) :: st) σ := j_getf M (by decide) rfl (ci := 7) rfl (k := 14) (by decide) hin_X7 fl_X7_111 rfl d kk
theorem pf_X7_111 {l : Launch} {G : Gw} {cc : ByteArray} {nL fr lo : Nat} {ret : Option FieldType} {post : Option Value → Sg → Prop} {Φ : Ph} {pc : Nat} {L : List (Option Value)} {st : List Value} {σ : Sg} {v : Int32} (M : Mach l G RX7 cc nL ret fr lo post Φ) (d : decode cc pc = .ok (.putfield 111, 3)) (kk : Φ (pc + 3) L st (up σ 40 0 (upI (σ 40 0) 14 v))) : Φ pc L (.int v :: .ref (ad G 40 0) :: st) σ := j_putf M (by decide) rfl (ci := 7) rfl (k := 14) (by decide) hin_X7 tyX7_ok nmX7 fl_X7_111 rfl rfl rfl (Nat.le_of_ble_eq_true (show Nat.ble (14 + 1) (List.length _) = true from rfl)) (rfl) d kk
theorem gf_X7_28 {l : Launch} {G : Gw} {cc : ByteArray} {nL fr lo : Nat} {ret : Option FieldType} {post : Option Value → Sg → Prop} {Φ : Ph} {pc : Nat} {L : List (Option Value)} {st : List Value} {σ : Sg} (M : Mach l G RX7 cc nL ret fr lo post Φ) (d : decode cc pc = .ok (.getfield 28, 3)) (kk : Φ (pc + 3) L (.ref (ad G 40 7) :: st) σ) : Φ pc L (.ref (ad G 40 0) :: st) σ := j_getf M (by decide) rfl (ci := 7) rfl (k := 15) (by decide) hin_X7 fl_X7_28 rfl d kk
theorem gf_X7_31 {l : Launch} {G : Gw} {cc : ByteArray} {nL fr lo : Nat} {ret : Option FieldType} {post : Option Value → Sg → Prop} {Φ : Ph} {pc : Nat} {L : List (Option Value)} {st : List Value} {σ : Sg} (M : Mach l G RX7 cc nL ret fr lo post Φ) (d : decode cc pc = .ok (.getfield 31, 3)) (kk : Φ (pc + 3) L (.ref (ad G 40 8) :: st) σ) : Φ pc L (.ref (ad G 40 0) :: st) σ := j_getf M (by decide) rfl (ci := 7) rfl (k := 16) (by decide) hin_X7 fl_X7_31 rfl d kk
theorem gf_X7_34 {l : Launch} {G : Gw} {cc : ByteArray} {nL fr lo : Nat} {ret : Option FieldType} {post : Option Value → Sg → Prop} {Φ : Ph} {pc : Nat} {L : List (Option Value)} {st : List Value} {σ : Sg} (M : Mach l G RX7 cc nL ret fr lo post Φ) (d : decode cc pc = .ok (.getfield 34, 3)) (kk : Φ (pc + 3) L (.ref (ad G 40 9) :: st) σ) : Φ pc L (.ref (ad G 40 0) :: st) σ := j_getf M (by decide) rfl (ci := 7) rfl (k := 17) (by decide) hin_X7 fl_X7_34 rfl d kk
theorem gf_X7_151 {l : Launch} {G : Gw} {cc : ByteArray} {nL fr lo : Nat} {ret : Option FieldType} {post : Option Value → Sg → Prop} {Φ : Ph} {pc : Nat} {L : List (Option Value)} {st : List Value} {σ : Sg} (M : Mach l G RX7 cc nL ret fr lo post Φ) (d : decode cc pc = .ok (.getfield 151, 3)) (kk : Φ (pc + 3) L (.int (σ 40 0 18) :: st) σ) : Φ pc L (.ref (ad G 40 0) :: st) σ := j_getf M (by decide) rfl (ci := 7) rfl (k := 18) (by decide) hin_X7 fl_X7_151 rfl d kk
theorem pf_X7_151 {l : Launch} {G : Gw} {cc : ByteArray} {nL fr lo : Nat} {ret : Option FieldType} {post : Option Value → Sg → Prop} {Φ : Ph} {pc : Nat} {L : List (Option Value)} {st : List Value} {σ : Sg} {v : Int32} (M : Mach l G RX7 cc nL ret fr lo post Φ) (d : decode cc pc = .ok (.putfield 151, 3)) (kk : Φ (pc + 3) L st (up σ 40 0 (upI (σ 40 0) 18 v))) : Φ pc L (.int v :: .ref (ad G 40 0) :: st) σ := j_putf M (by decide) rfl (ci := 7) rfl (k := 18) (by decide) hin_X7 tyX7_ok nmX7 fl_X7_151 rfl rfl rfl (Nat.le_of_ble_eq_true (show Nat.ble (18 + 1) (List.length _) = true from rfl)) (rfl) d kk
theorem gf_X7_37 {l : Launch} {G : Gw} {cc : ByteArray} {nL fr lo : Nat} {ret : Option FieldType} {post : Option Value → Sg → Prop} {Φ : Ph} {pc : Nat} {L : List (Option Value)} {st : List Value} {σ : Sg} (M : Mach l G RX7 cc nL ret fr lo post Φ) (d : decode cc pc = .ok (.getfield 37, 3)) (kk : Φ (pc + 3) L (.ref (ad G 40 10) :: st) σ) : Φ pc L (.ref (ad G 40 0) :: st) σ := j_getf M (by decide) rfl (ci := 7) rfl (k := 19) (by decide) hin_X7 fl_X7_37 rfl d kk
theorem gf_X7_40 {l : Launch} {G : Gw} {cc : ByteArray} {nL fr lo : Nat} {ret : Option FieldType} {post : Option Value → Sg → Prop} {Φ : Ph} {pc : Nat} {L : List (Option Value)} {st : List Value} {σ : Sg} (M : Mach l G RX7 cc nL ret fr lo post Φ) (d : decode cc pc = .ok (.getfield 40, 3)) (kk : Φ (pc + 3) L (.ref (ad G 40 11) :: st) σ) : Φ pc L (.ref (ad G 40 0) :: st) σ := j_getf M (by decide) rfl (ci := 7) rfl (k := 20) (by decide) hin_X7 fl_X7_40 rfl d kk
theorem gf_X7_43 {l : Launch} {G : Gw} {cc : ByteArray} {nL fr lo : Nat} {ret : Option FieldType} {post : Option Value → Sg → Prop} {Φ : Ph} {pc : Nat} {L : List (Option Value)} {st : List Value} {σ : Sg} (M : Mach l G RX7 cc nL ret fr lo post Φ) (d : decode cc pc = .ok (.getfield 43, 3)) (kk : Φ (pc + 3) L (.ref (ad G 40 12) :: st) σ) : Φ pc L (.ref (ad G 40 0) :: st) σ := j_getf M (by decide) rfl (ci := 7) rfl (k := 21) (by decide) hin_X7 fl_X7_43 rfl d kk
theorem gf_X7_46 {l : Launch} {G : Gw} {cc : ByteArray} {nL fr lo : Nat} {ret : Option FieldType} {post : Option Value → Sg → Prop} {Φ : Ph} {pc : Nat} {L : List (Option Value)} {st : List Value} {σ : Sg} (M : Mach l G RX7 cc nL ret fr lo post Φ) (d : decode cc pc = .ok (.getfield 46, 3)) (kk : Φ (pc + 3) L (.ref (ad G 40 13) :: st) σ) : Φ pc L (.ref (ad G 40 0) :: st) σ := j_getf M (by decide) rfl (ci := 7) rfl (k := 22) (by decide) hin_X7 fl_X7_46 rfl d kk
theorem gf_X7_50 {l : Launch} {G : Gw} {cc : ByteArray} {nL fr lo : Nat} {ret : Option FieldType} {post : Option Value → Sg → Prop} {Φ : Ph} {pc : Nat} {L : List (Option Value)} {st : List Value} {σ : Sg} (M : Mach l G RX7 cc nL ret fr lo post Φ) (d : decode cc pc = .ok (.getfield 50, 3)) (kk : Φ (pc + 3) L (.ref (ad G 40 14) :: st) σ) : Φ pc L (.ref (ad G 40 0) :: st) σ := j_getf M (by decide) rfl (ci := 7) rfl (k := 23) (by decide) hin_X7 fl_X7_50 rfl d kk
theorem gf_X7_53 {l : Launch} {G : Gw} {cc : ByteArray} {nL fr lo : Nat} {ret : Option FieldType} {post : Option Value → Sg → Prop} {Φ : Ph} {pc : Nat} {L : List (Option Value)} {st : List Value} {σ : Sg} (M : Mach l G RX7 cc nL ret fr lo post Φ) (d : decode cc pc = .ok (.getfield 53, 3)) (kk : Φ (pc + 3) L (.ref (ad G 40 15) :: st) σ) : Φ pc L (.ref (ad G 40 0) :: st) σ := j_getf M (by decide) rfl (ci := 7) rfl (k := 24) (by decide) hin_X7 fl_X7_53 rfl d kk
theorem gf_X7_277 {l : Launch} {G : Gw} {cc : ByteArray} {nL fr lo : Nat} {ret : Option FieldType} {post : Option Value → Sg → Prop} {Φ : Ph} {pc : Nat} {L : List (Option Value)} {st : List Value} {σ : Sg} (M : Mach l G RX7 cc nL ret fr lo post Φ) (d : decode cc pc = .ok (.getfield 277, 3)) (kk : Φ (pc + 3) L (.int (σ 40 0 25) :: st) σ) : Φ pc L (.ref (ad G 40 0) :: st) σ := j_getf M (by decide) rfl (ci := 7) rfl (k := 25) (by decide) hin_X7 fl_X7_277 rfl d kk
theorem pf_X7_277 {l : Launch} {G : Gw} {cc : ByteArray} {nL fr lo : Nat} {ret : Option FieldType} {post : Option Value → Sg → Prop} {Φ : Ph} {pc : Nat} {L : List (Option Value)} {st : List Value} {σ : Sg} {v : Int32} (M : Mach l G RX7 cc nL ret fr lo post Φ) (d : decode cc pc = .ok (.putfield 277, 3)) (kk : Φ (pc + 3) L st (up σ 40 0 (upI (σ 40 0) 25 v))) : Φ pc L (.int v :: .ref (ad G 40 0) :: st) σ := j_putf M (by decide) rfl (ci := 7) rfl (k := 25) (by decide) hin_X7 tyX7_ok nmX7 fl_X7_277 rfl rfl rfl (Nat.le_of_ble_eq_true (show Nat.ble (25 + 1) (List.length _) = true from rfl)) (rfl) d kk
theorem gf_X6_244 {l : Launch} {G : Gw} {cc : ByteArray} {nL fr lo : Nat} {ret : Option FieldType} {post : Option Value → Sg → Prop} {Φ : Ph} {pc : Nat} {L : List (Option Value)} {st : List Value} {σ : Sg} (M : Mach l G RX6 cc nL ret fr lo post Φ) (d : decode cc pc = .ok (.getfield 244, 3)) (kk : Φ (pc + 3) L (.ref (ad G 5 2) :: st) σ) : Φ pc L (.ref (ad G 5 0) :: st) σ := j_getfN M (by decide) rfl (ci := 2) rfl (k := 2) (by decide) hin_X2 (fun U h => h.2.2.2.2.2.2) rfl d kk
theorem al_1_1 {l : Launch} {G : Gw} {own : String} {cc : ByteArray} {nL fr lo : Nat} {ret : Option FieldType} {post : Option Value → Sg → Prop} {Φ : Ph} {pc : Nat} {L : List (Option Value)} {st : List Value} {σ : Sg} {i : Int32} (M : Mach l G own cc nL ret fr lo post Φ) (d : decode cc pc = .ok (.iaload, 1)) (h0 : 0 ≤ i) (h1 : i < 8) (kk : Φ (pc + 1) L (.int (σ 1 1 i) :: st) σ) : Φ pc L (.int i :: .ref (ad G 1 1) :: st) σ := j_iald M (by decide) rfl (n := 8) (n' := 8) rfl (by decide) d h0 h1 kk
theorem as_1_1 {l : Launch} {G : Gw} {own : String} {cc : ByteArray} {nL fr lo : Nat} {ret : Option FieldType} {post : Option Value → Sg → Prop} {Φ : Ph} {pc : Nat} {L : List (Option Value)} {st : List Value} {σ : Sg} {i x : Int32} (M : Mach l G own cc nL ret fr lo post Φ) (d : decode cc pc = .ok (.iastore, 1)) (h0 : 0 ≤ i) (h1 : i < 8) (kk : Φ (pc + 1) L st (up σ 1 1 (upI (σ 1 1) i x))) : Φ pc L (.int x :: .int i :: .ref (ad G 1 1) :: st) σ := j_iast M (by decide) (fun _ => rfl) (n := 8) (n' := 8) rfl (by decide) d h0 h1 kk
theorem al_1_2 {l : Launch} {G : Gw} {own : String} {cc : ByteArray} {nL fr lo : Nat} {ret : Option FieldType} {post : Option Value → Sg → Prop} {Φ : Ph} {pc : Nat} {L : List (Option Value)} {st : List Value} {σ : Sg} {i : Int32} (M : Mach l G own cc nL ret fr lo post Φ) (d : decode cc pc = .ok (.iaload, 1)) (h0 : 0 ≤ i) (h1 : i < 8) (kk : Φ (pc + 1) L (.int (σ 1 2 i) :: st) σ) : Φ pc L (.int i :: .ref (ad G 1 2) :: st) σ := j_iald M (by decide) rfl (n := 8) (n' := 8) rfl (by decide) d h0 h1 kk
theorem as_1_2 {l : Launch} {G : Gw} {own : String} {cc : ByteArray} {nL fr lo : Nat} {ret : Option FieldType} {post : Option Value → Sg → Prop} {Φ : Ph} {pc : Nat} {L : List (Option Value)} {st : List Value} {σ : Sg} {i x : Int32} (M : Mach l G own cc nL ret fr lo post Φ) (d : decode cc pc = .ok (.iastore, 1)) (h0 : 0 ≤ i) (h1 : i < 8) (kk : Φ (pc + 1) L st (up σ 1 2 (upI (σ 1 2) i x))) : Φ pc L (.int x :: .int i :: .ref (ad G 1 2) :: st) σ := j_iast M (by decide) (fun _ => rfl) (n := 8) (n' := 8) rfl (by decide) d h0 h1 kk
theorem al_1_3 {l : Launch} {G : Gw} {own : String} {cc : ByteArray} {nL fr lo : Nat} {ret : Option FieldType} {post : Option Value → Sg → Prop} {Φ : Ph} {pc : Nat} {L : List (Option Value)} {st : List Value} {σ : Sg} {i : Int32} (M : Mach l G own cc nL ret fr lo post Φ) (d : decode cc pc = .ok (.iaload, 1)) (h0 : 0 ≤ i) (h1 : i < 320) (kk : Φ (pc + 1) L (.int (σ 1 3 i) :: st) σ) : Φ pc L (.int i :: .ref (ad G 1 3) :: st) σ := j_iald M (by decide) rfl (n := 320) (n' := 320) rfl (by decide) d h0 h1 kk
theorem as_1_3 {l : Launch} {G : Gw} {own : String} {cc : ByteArray} {nL fr lo : Nat} {ret : Option FieldType} {post : Option Value → Sg → Prop} {Φ : Ph} {pc : Nat} {L : List (Option Value)} {st : List Value} {σ : Sg} {i x : Int32} (M : Mach l G own cc nL ret fr lo post Φ) (d : decode cc pc = .ok (.iastore, 1)) (h0 : 0 ≤ i) (h1 : i < 320) (kk : Φ (pc + 1) L st (up σ 1 3 (upI (σ 1 3) i x))) : Φ pc L (.int x :: .int i :: .ref (ad G 1 3) :: st) σ := j_iast M (by decide) (fun _ => rfl) (n := 320) (n' := 320) rfl (by decide) d h0 h1 kk
theorem al_2_1 {l : Launch} {G : Gw} {own : String} {cc : ByteArray} {nL fr lo : Nat} {ret : Option FieldType} {post : Option Value → Sg → Prop} {Φ : Ph} {pc : Nat} {L : List (Option Value)} {st : List Value} {σ : Sg} {i : Int32} (M : Mach l G own cc nL ret fr lo post Φ) (d : decode cc pc = .ok (.iaload, 1)) (h0 : 0 ≤ i) (h1 : i < 120) (kk : Φ (pc + 1) L (.int (σ 2 1 i) :: st) σ) : Φ pc L (.int i :: .ref (ad G 2 1) :: st) σ := j_iald M (by decide) rfl (n := 120) (n' := 120) rfl (by decide) d h0 h1 kk
theorem as_2_1 {l : Launch} {G : Gw} {own : String} {cc : ByteArray} {nL fr lo : Nat} {ret : Option FieldType} {post : Option Value → Sg → Prop} {Φ : Ph} {pc : Nat} {L : List (Option Value)} {st : List Value} {σ : Sg} {i x : Int32} (M : Mach l G own cc nL ret fr lo post Φ) (d : decode cc pc = .ok (.iastore, 1)) (h0 : 0 ≤ i) (h1 : i < 120) (kk : Φ (pc + 1) L st (up σ 2 1 (upI (σ 2 1) i x))) : Φ pc L (.int x :: .int i :: .ref (ad G 2 1) :: st) σ := j_iast M (by decide) (fun _ => rfl) (n := 120) (n' := 120) rfl (by decide) d h0 h1 kk
theorem al_4_1 {l : Launch} {G : Gw} {own : String} {cc : ByteArray} {nL fr lo : Nat} {ret : Option FieldType} {post : Option Value → Sg → Prop} {Φ : Ph} {pc : Nat} {L : List (Option Value)} {st : List Value} {σ : Sg} {i : Int32} (M : Mach l G own cc nL ret fr lo post Φ) (d : decode cc pc = .ok (.iaload, 1)) (h0 : 0 ≤ i) (h1 : i < 16) (kk : Φ (pc + 1) L (.int (σ 4 1 i) :: st) σ) : Φ pc L (.int i :: .ref (ad G 4 1) :: st) σ := j_iald M (by decide) rfl (n := 16) (n' := 16) rfl (by decide) d h0 h1 kk
theorem as_4_1 {l : Launch} {G : Gw} {own : String} {cc : ByteArray} {nL fr lo : Nat} {ret : Option FieldType} {post : Option Value → Sg → Prop} {Φ : Ph} {pc : Nat} {L : List (Option Value)} {st : List Value} {σ : Sg} {i x : Int32} (M : Mach l G own cc nL ret fr lo post Φ) (d : decode cc pc = .ok (.iastore, 1)) (h0 : 0 ≤ i) (h1 : i < 16) (kk : Φ (pc + 1) L st (up σ 4 1 (upI (σ 4 1) i x))) : Φ pc L (.int x :: .int i :: .ref (ad G 4 1) :: st) σ := j_iast M (by decide) (fun _ => rfl) (n := 16) (n' := 16) rfl (by decide) d h0 h1 kk
theorem al_5_1 {l : Launch} {G : Gw} {own : String} {cc : ByteArray} {nL fr lo : Nat} {ret : Option FieldType} {post : Option Value → Sg → Prop} {Φ : Ph} {pc : Nat} {L : List (Option Value)} {st : List Value} {σ : Sg} {i : Int32} (M : Mach l G own cc nL ret fr lo post Φ) (d : decode cc pc = .ok (.iaload, 1)) (h0 : 0 ≤ i) (h1 : i < 6) (kk : Φ (pc + 1) L (.int (σ 5 1 i) :: st) σ) : Φ pc L (.int i :: .ref (ad G 5 1) :: st) σ := j_iald M (by decide) rfl (n := 6) (n' := 6) rfl (by decide) d h0 h1 kk
theorem as_5_1 {l : Launch} {G : Gw} {own : String} {cc : ByteArray} {nL fr lo : Nat} {ret : Option FieldType} {post : Option Value → Sg → Prop} {Φ : Ph} {pc : Nat} {L : List (Option Value)} {st : List Value} {σ : Sg} {i x : Int32} (M : Mach l G own cc nL ret fr lo post Φ) (d : decode cc pc = .ok (.iastore, 1)) (h0 : 0 ≤ i) (h1 : i < 6) (kk : Φ (pc + 1) L st (up σ 5 1 (upI (σ 5 1) i x))) : Φ pc L (.int x :: .int i :: .ref (ad G 5 1) :: st) σ := j_iast M (by decide) (fun _ => rfl) (n := 6) (n' := 6) rfl (by decide) d h0 h1 kk
theorem al_5_2 {l : Launch} {G : Gw} {own : String} {cc : ByteArray} {nL fr lo : Nat} {ret : Option FieldType} {post : Option Value → Sg → Prop} {Φ : Ph} {pc : Nat} {L : List (Option Value)} {st : List Value} {σ : Sg} {i : Int32} (M : Mach l G own cc nL ret fr lo post Φ) (d : decode cc pc = .ok (.iaload, 1)) (h0 : 0 ≤ i) (h1 : i < 6) (kk : Φ (pc + 1) L (.int (σ 5 2 i) :: st) σ) : Φ pc L (.int i :: .ref (ad G 5 2) :: st) σ := j_iald M (by decide) rfl (n := 6) (n' := 6) rfl (by decide) d h0 h1 kk
theorem as_5_2 {l : Launch} {G : Gw} {own : String} {cc : ByteArray} {nL fr lo : Nat} {ret : Option FieldType} {post : Option Value → Sg → Prop} {Φ : Ph} {pc : Nat} {L : List (Option Value)} {st : List Value} {σ : Sg} {i x : Int32} (M : Mach l G own cc nL ret fr lo post Φ) (d : decode cc pc = .ok (.iastore, 1)) (h0 : 0 ≤ i) (h1 : i < 6) (kk : Φ (pc + 1) L st (up σ 5 2 (upI (σ 5 2) i x))) : Φ pc L (.int x :: .int i :: .ref (ad G 5 2) :: st) σ := j_iast M (by decide) (fun _ => rfl) (n := 6) (n' := 6) rfl (by decide) d h0 h1 kk
theorem al_40_1 {l : Launch} {G : Gw} {own : String} {cc : ByteArray} {nL fr lo : Nat} {ret : Option FieldType} {post : Option Value → Sg → Prop} {Φ : Ph} {pc : Nat} {L : List (Option Value)} {st : List Value} {σ : Sg} {i : Int32} (M : Mach l G own cc nL ret fr lo post Φ) (d : decode cc pc = .ok (.iaload, 1)) (h0 : 0 ≤ i) (h1 : i < 8) (kk : Φ (pc + 1) L (.int (σ 40 1 i) :: st) σ) : Φ pc L (.int i :: .ref (ad G 40 1) :: st) σ := j_iald M (by decide) rfl (n := 8) (n' := 8) rfl (by decide) d h0 h1 kk
theorem as_40_1 {l : Launch} {G : Gw} {own : String} {cc : ByteArray} {nL fr lo : Nat} {ret : Option FieldType} {post : Option Value → Sg → Prop} {Φ : Ph} {pc : Nat} {L : List (Option Value)} {st : List Value} {σ : Sg} {i x : Int32} (M : Mach l G own cc nL ret fr lo post Φ) (d : decode cc pc = .ok (.iastore, 1)) (h0 : 0 ≤ i) (h1 : i < 8) (kk : Φ (pc + 1) L st (up σ 40 1 (upI (σ 40 1) i x))) : Φ pc L (.int x :: .int i :: .ref (ad G 40 1) :: st) σ := j_iast M (by decide) (fun _ => rfl) (n := 8) (n' := 8) rfl (by decide) d h0 h1 kk
theorem al_40_2 {l : Launch} {G : Gw} {own : String} {cc : ByteArray} {nL fr lo : Nat} {ret : Option FieldType} {post : Option Value → Sg → Prop} {Φ : Ph} {pc : Nat} {L : List (Option Value)} {st : List Value} {σ : Sg} {i : Int32} (M : Mach l G own cc nL ret fr lo post Φ) (d : decode cc pc = .ok (.iaload, 1)) (h0 : 0 ≤ i) (h1 : i < 8) (kk : Φ (pc + 1) L (.int (σ 40 2 i) :: st) σ) : Φ pc L (.int i :: .ref (ad G 40 2) :: st) σ := j_iald M (by decide) rfl (n := 8) (n' := 8) rfl (by decide) d h0 h1 kk
theorem as_40_2 {l : Launch} {G : Gw} {own : String} {cc : ByteArray} {nL fr lo : Nat} {ret : Option FieldType} {post : Option Value → Sg → Prop} {Φ : Ph} {pc : Nat} {L : List (Option Value)} {st : List Value} {σ : Sg} {i x : Int32} (M : Mach l G own cc nL ret fr lo post Φ) (d : decode cc pc = .ok (.iastore, 1)) (h0 : 0 ≤ i) (h1 : i < 8) (kk : Φ (pc + 1) L st (up σ 40 2 (upI (σ 40 2) i x))) : Φ pc L (.int x :: .int i :: .ref (ad G 40 2) :: st) σ := j_iast M (by decide) (fun _ => rfl) (n := 8) (n' := 8) rfl (by decide) d h0 h1 kk
theorem al_40_3 {l : Launch} {G : Gw} {own : String} {cc : ByteArray} {nL fr lo : Nat} {ret : Option FieldType} {post : Option Value → Sg → Prop} {Φ : Ph} {pc : Nat} {L : List (Option Value)} {st : List Value} {σ : Sg} {i : Int32} (M : Mach l G own cc nL ret fr lo post Φ) (d : decode cc pc = .ok (.iaload, 1)) (h0 : 0 ≤ i) (h1 : i < 320) (kk : Φ (pc + 1) L (.int (σ 40 3 i) :: st) σ) : Φ pc L (.int i :: .ref (ad G 40 3) :: st) σ := j_iald M (by decide) rfl (n := 320) (n' := 320) rfl (by decide) d h0 h1 kk
theorem as_40_3 {l : Launch} {G : Gw} {own : String} {cc : ByteArray} {nL fr lo : Nat} {ret : Option FieldType} {post : Option Value → Sg → Prop} {Φ : Ph} {pc : Nat} {L : List (Option Value)} {st : List Value} {σ : Sg} {i x : Int32} (M : Mach l G own cc nL ret fr lo post Φ) (d : decode cc pc = .ok (.iastore, 1)) (h0 : 0 ≤ i) (h1 : i < 320) (kk : Φ (pc + 1) L st (up σ 40 3 (upI (σ 40 3) i x))) : Φ pc L (.int x :: .int i :: .ref (ad G 40 3) :: st) σ := j_iast M (by decide) (fun _ => rfl) (n := 320) (n' := 320) rfl (by decide) d h0 h1 kk
theorem al_40_4 {l : Launch} {G : Gw} {own : String} {cc : ByteArray} {nL fr lo : Nat} {ret : Option FieldType} {post : Option Value → Sg → Prop} {Φ : Ph} {pc : Nat} {L : List (Option Value)} {st : List Value} {σ : Sg} {i : Int32} (M : Mach l G own cc nL ret fr lo post Φ) (d : decode cc pc = .ok (.iaload, 1)) (h0 : 0 ≤ i) (h1 : i < 41) (kk : Φ (pc + 1) L (.int (σ 40 4 i) :: st) σ) : Φ pc L (.int i :: .ref (ad G 40 4) :: st) σ := j_iald M (by decide) rfl (n := 41) (n' := 41) rfl (by decide) d h0 h1 kk
theorem as_40_4 {l : Launch} {G : Gw} {own : String} {cc : ByteArray} {nL fr lo : Nat} {ret : Option FieldType} {post : Option Value → Sg → Prop} {Φ : Ph} {pc : Nat} {L : List (Option Value)} {st : List Value} {σ : Sg} {i x : Int32} (M : Mach l G own cc nL ret fr lo post Φ) (d : decode cc pc = .ok (.iastore, 1)) (h0 : 0 ≤ i) (h1 : i < 41) (kk : Φ (pc + 1) L st (up σ 40 4 (upI (σ 40 4) i x))) : Φ pc L (.int x :: .int i :: .ref (ad G 40 4) :: st) σ := j_iast M (by decide) (fun _ => rfl) (n := 41) (n' := 41) rfl (by decide) d h0 h1 kk
theorem al_40_5 {l : Launch} {G : Gw} {own : String} {cc : ByteArray} {nL fr lo : Nat} {ret : Option FieldType} {post : Option Value → Sg → Prop} {Φ : Ph} {pc : Nat} {L : List (Option Value)} {st : List Value} {σ : Sg} {i : Int32} (M : Mach l G own cc nL ret fr lo post Φ) (d : decode cc pc = .ok (.iaload, 1)) (h0 : 0 ≤ i) (h1 : i < 40) (kk : Φ (pc + 1) L (.int (σ 40 5 i) :: st) σ) : Φ pc L (.int i :: .ref (ad G 40 5) :: st) σ := j_iald M (by decide) rfl (n := 40) (n' := 40) rfl (by decide) d h0 h1 kk
theorem as_40_5 {l : Launch} {G : Gw} {own : String} {cc : ByteArray} {nL fr lo : Nat} {ret : Option FieldType} {post : Option Value → Sg → Prop} {Φ : Ph} {pc : Nat} {L : List (Option Value)} {st : List Value} {σ : Sg} {i x : Int32} (M : Mach l G own cc nL ret fr lo post Φ) (d : decode cc pc = .ok (.iastore, 1)) (h0 : 0 ≤ i) (h1 : i < 40) (kk : Φ (pc + 1) L st (up σ 40 5 (upI (σ 40 5) i x))) : Φ pc L (.int x :: .int i :: .ref (ad G 40 5) :: st) σ := j_iast M (by decide) (fun _ => rfl) (n := 40) (n' := 40) rfl (by decide) d h0 h1 kk
theorem al_40_6 {l : Launch} {G : Gw} {own : String} {cc : ByteArray} {nL fr lo : Nat} {ret : Option FieldType} {post : Option Value → Sg → Prop} {Φ : Ph} {pc : Nat} {L : List (Option Value)} {st : List Value} {σ : Sg} {i : Int32} (M : Mach l G own cc nL ret fr lo post Φ) (d : decode cc pc = .ok (.iaload, 1)) (h0 : 0 ≤ i) (h1 : i < 120) (kk : Φ (pc + 1) L (.int (σ 40 6 i) :: st) σ) : Φ pc L (.int i :: .ref (ad G 40 6) :: st) σ := j_iald M (by decide) rfl (n := 120) (n' := 120) rfl (by decide) d h0 h1 kk
theorem as_40_6 {l : Launch} {G : Gw} {own : String} {cc : ByteArray} {nL fr lo : Nat} {ret : Option FieldType} {post : Option Value → Sg → Prop} {Φ : Ph} {pc : Nat} {L : List (Option Value)} {st : List Value} {σ : Sg} {i x : Int32} (M : Mach l G own cc nL ret fr lo post Φ) (d : decode cc pc = .ok (.iastore, 1)) (h0 : 0 ≤ i) (h1 : i < 120) (kk : Φ (pc + 1) L st (up σ 40 6 (upI (σ 40 6) i x))) : Φ pc L (.int x :: .int i :: .ref (ad G 40 6) :: st) σ := j_iast M (by decide) (fun _ => rfl) (n := 120) (n' := 120) rfl (by decide) d h0 h1 kk
theorem al_40_7 {l : Launch} {G : Gw} {own : String} {cc : ByteArray} {nL fr lo : Nat} {ret : Option FieldType} {post : Option Value → Sg → Prop} {Φ : Ph} {pc : Nat} {L : List (Option Value)} {st : List Value} {σ : Sg} {i : Int32} (M : Mach l G own cc nL ret fr lo post Φ) (d : decode cc pc = .ok (.iaload, 1)) (h0 : 0 ≤ i) (h1 : i < 41) (kk : Φ (pc + 1) L (.int (σ 40 7 i) :: st) σ) : Φ pc L (.int i :: .ref (ad G 40 7) :: st) σ := j_iald M (by decide) rfl (n := 41) (n' := 41) rfl (by decide) d h0 h1 kk
theorem as_40_7 {l : Launch} {G : Gw} {own : String} {cc : ByteArray} {nL fr lo : Nat} {ret : Option FieldType} {post : Option Value → Sg → Prop} {Φ : Ph} {pc : Nat} {L : List (Option Value)} {st : List Value} {σ : Sg} {i x : Int32} (M : Mach l G own cc nL ret fr lo post Φ) (d : decode cc pc = .ok (.iastore, 1)) (h0 : 0 ≤ i) (h1 : i < 41) (kk : Φ (pc + 1) L st (up σ 40 7 (upI (σ 40 7) i x))) : Φ pc L (.int x :: .int i :: .ref (ad G 40 7) :: st) σ := j_iast M (by decide) (fun _ => rfl) (n := 41) (n' := 41) rfl (by decide) d h0 h1 kk
theorem al_40_8 {l : Launch} {G : Gw} {own : String} {cc : ByteArray} {nL fr lo : Nat} {ret : Option FieldType} {post : Option Value → Sg → Prop} {Φ : Ph} {pc : Nat} {L : List (Option Value)} {st : List Value} {σ : Sg} {i : Int32} (M : Mach l G own cc nL ret fr lo post Φ) (d : decode cc pc = .ok (.iaload, 1)) (h0 : 0 ≤ i) (h1 : i < 5) (kk : Φ (pc + 1) L (.int (σ 40 8 i) :: st) σ) : Φ pc L (.int i :: .ref (ad G 40 8) :: st) σ := j_iald M (by decide) rfl (n := 5) (n' := 5) rfl (by decide) d h0 h1 kk
theorem as_40_8 {l : Launch} {G : Gw} {own : String} {cc : ByteArray} {nL fr lo : Nat} {ret : Option FieldType} {post : Option Value → Sg → Prop} {Φ : Ph} {pc : Nat} {L : List (Option Value)} {st : List Value} {σ : Sg} {i x : Int32} (M : Mach l G own cc nL ret fr lo post Φ) (d : decode cc pc = .ok (.iastore, 1)) (h0 : 0 ≤ i) (h1 : i < 5) (kk : Φ (pc + 1) L st (up σ 40 8 (upI (σ 40 8) i x))) : Φ pc L (.int x :: .int i :: .ref (ad G 40 8) :: st) σ := j_iast M (by decide) (fun _ => rfl) (n := 5) (n' := 5) rfl (by decide) d h0 h1 kk
theorem al_40_9 {l : Launch} {G : Gw} {own : String} {cc : ByteArray} {nL fr lo : Nat} {ret : Option FieldType} {post : Option Value → Sg → Prop} {Φ : Ph} {pc : Nat} {L : List (Option Value)} {st : List Value} {σ : Sg} {i : Int32} (M : Mach l G own cc nL ret fr lo post Φ) (d : decode cc pc = .ok (.iaload, 1)) (h0 : 0 ≤ i) (h1 : i < 984) (kk : Φ (pc + 1) L (.int (σ 40 9 i) :: st) σ) : Φ pc L (.int i :: .ref (ad G 40 9) :: st) σ := j_iald M (by decide) rfl (n := 984) (n' := 984) rfl (by decide) d h0 h1 kk
theorem as_40_9 {l : Launch} {G : Gw} {own : String} {cc : ByteArray} {nL fr lo : Nat} {ret : Option FieldType} {post : Option Value → Sg → Prop} {Φ : Ph} {pc : Nat} {L : List (Option Value)} {st : List Value} {σ : Sg} {i x : Int32} (M : Mach l G own cc nL ret fr lo post Φ) (d : decode cc pc = .ok (.iastore, 1)) (h0 : 0 ≤ i) (h1 : i < 984) (kk : Φ (pc + 1) L st (up σ 40 9 (upI (σ 40 9) i x))) : Φ pc L (.int x :: .int i :: .ref (ad G 40 9) :: st) σ := j_iast M (by decide) (fun _ => rfl) (n := 984) (n' := 984) rfl (by decide) d h0 h1 kk
theorem al_40_10 {l : Launch} {G : Gw} {own : String} {cc : ByteArray} {nL fr lo : Nat} {ret : Option FieldType} {post : Option Value → Sg → Prop} {Φ : Ph} {pc : Nat} {L : List (Option Value)} {st : List Value} {σ : Sg} {i : Int32} (M : Mach l G own cc nL ret fr lo post Φ) (d : decode cc pc = .ok (.iaload, 1)) (h0 : 0 ≤ i) (h1 : i < 41) (kk : Φ (pc + 1) L (.int (σ 40 10 i) :: st) σ) : Φ pc L (.int i :: .ref (ad G 40 10) :: st) σ := j_iald M (by decide) rfl (n := 41) (n' := 41) rfl (by decide) d h0 h1 kk
theorem as_40_10 {l : Launch} {G : Gw} {own : String} {cc : ByteArray} {nL fr lo : Nat} {ret : Option FieldType} {post : Option Value → Sg → Prop} {Φ : Ph} {pc : Nat} {L : List (Option Value)} {st : List Value} {σ : Sg} {i x : Int32} (M : Mach l G own cc nL ret fr lo post Φ) (d : decode cc pc = .ok (.iastore, 1)) (h0 : 0 ≤ i) (h1 : i < 41) (kk : Φ (pc + 1) L st (up σ 40 10 (upI (σ 40 10) i x))) : Φ pc L (.int x :: .int i :: .ref (ad G 40 10) :: st) σ := j_iast M (by decide) (fun _ => rfl) (n := 41) (n' := 41) rfl (by decide) d h0 h1 kk
theorem al_40_11 {l : Launch} {G : Gw} {own : String} {cc : ByteArray} {nL fr lo : Nat} {ret : Option FieldType} {post : Option Value → Sg → Prop} {Φ : Ph} {pc : Nat} {L : List (Option Value)} {st : List Value} {σ : Sg} {i : Int32} (M : Mach l G own cc nL ret fr lo post Φ) (d : decode cc pc = .ok (.iaload, 1)) (h0 : 0 ≤ i) (h1 : i < 6) (kk : Φ (pc + 1) L (.int (σ 40 11 i) :: st) σ) : Φ pc L (.int i :: .ref (ad G 40 11) :: st) σ := j_iald M (by decide) rfl (n := 6) (n' := 6) rfl (by decide) d h0 h1 kk
theorem as_40_11 {l : Launch} {G : Gw} {own : String} {cc : ByteArray} {nL fr lo : Nat} {ret : Option FieldType} {post : Option Value → Sg → Prop} {Φ : Ph} {pc : Nat} {L : List (Option Value)} {st : List Value} {σ : Sg} {i x : Int32} (M : Mach l G own cc nL ret fr lo post Φ) (d : decode cc pc = .ok (.iastore, 1)) (h0 : 0 ≤ i) (h1 : i < 6) (kk : Φ (pc + 1) L st (up σ 40 11 (upI (σ 40 11) i x))) : Φ pc L (.int x :: .int i :: .ref (ad G 40 11) :: st) σ := j_iast M (by decide) (fun _ => rfl) (n := 6) (n' := 6) rfl (by decide) d h0 h1 kk
theorem al_40_12 {l : Launch} {G : Gw} {own : String} {cc : ByteArray} {nL fr lo : Nat} {ret : Option FieldType} {post : Option Value → Sg → Prop} {Φ : Ph} {pc : Nat} {L : List (Option Value)} {st : List Value} {σ : Sg} {i : Int32} (M : Mach l G own cc nL ret fr lo post Φ) (d : decode cc pc = .ok (.iaload, 1)) (h0 : 0 ≤ i) (h1 : i < 6) (kk : Φ (pc + 1) L (.int (σ 40 12 i) :: st) σ) : Φ pc L (.int i :: .ref (ad G 40 12) :: st) σ := j_iald M (by decide) rfl (n := 6) (n' := 6) rfl (by decide) d h0 h1 kk
theorem as_40_12 {l : Launch} {G : Gw} {own : String} {cc : ByteArray} {nL fr lo : Nat} {ret : Option FieldType} {post : Option Value → Sg → Prop} {Φ : Ph} {pc : Nat} {L : List (Option Value)} {st : List Value} {σ : Sg} {i x : Int32} (M : Mach l G own cc nL ret fr lo post Φ) (d : decode cc pc = .ok (.iastore, 1)) (h0 : 0 ≤ i) (h1 : i < 6) (kk : Φ (pc + 1) L st (up σ 40 12 (upI (σ 40 12) i x))) : Φ pc L (.int x :: .int i :: .ref (ad G 40 12) :: st) σ := j_iast M (by decide) (fun _ => rfl) (n := 6) (n' := 6) rfl (by decide) d h0 h1 kk
theorem al_40_13 {l : Launch} {G : Gw} {own : String} {cc : ByteArray} {nL fr lo : Nat} {ret : Option FieldType} {post : Option Value → Sg → Prop} {Φ : Ph} {pc : Nat} {L : List (Option Value)} {st : List Value} {σ : Sg} {i : Int32} (M : Mach l G own cc nL ret fr lo post Φ) (d : decode cc pc = .ok (.baload, 1)) (h0 : 0 ≤ i) (h1 : i < 2) (kk : Φ (pc + 1) L (.int (σ 40 13 i) :: st) σ) : Φ pc L (.int i :: .ref (ad G 40 13) :: st) σ := j_zald M (by decide) rfl (n := 2) (n' := 2) rfl (by decide) d h0 h1 kk
theorem as_40_13 {l : Launch} {G : Gw} {own : String} {cc : ByteArray} {nL fr lo : Nat} {ret : Option FieldType} {post : Option Value → Sg → Prop} {Φ : Ph} {pc : Nat} {L : List (Option Value)} {st : List Value} {σ : Sg} {i x : Int32} (M : Mach l G own cc nL ret fr lo post Φ) (d : decode cc pc = .ok (.bastore, 1)) (hz : vp_nar .boolean x = x) (h0 : 0 ≤ i) (h1 : i < 2) (kk : Φ (pc + 1) L st (up σ 40 13 (upI (σ 40 13) i x))) : Φ pc L (.int x :: .int i :: .ref (ad G 40 13) :: st) σ := j_zast M (by decide) (fun _ => rfl) (n := 2) (n' := 2) rfl (by decide) hz d h0 h1 kk
theorem al_40_14 {l : Launch} {G : Gw} {own : String} {cc : ByteArray} {nL fr lo : Nat} {ret : Option FieldType} {post : Option Value → Sg → Prop} {Φ : Ph} {pc : Nat} {L : List (Option Value)} {st : List Value} {σ : Sg} {i : Int32} (M : Mach l G own cc nL ret fr lo post Φ) (d : decode cc pc = .ok (.iaload, 1)) (h0 : 0 ≤ i) (h1 : i < 82) (kk : Φ (pc + 1) L (.int (σ 40 14 i) :: st) σ) : Φ pc L (.int i :: .ref (ad G 40 14) :: st) σ := j_iald M (by decide) rfl (n := 82) (n' := 82) rfl (by decide) d h0 h1 kk
theorem as_40_14 {l : Launch} {G : Gw} {own : String} {cc : ByteArray} {nL fr lo : Nat} {ret : Option FieldType} {post : Option Value → Sg → Prop} {Φ : Ph} {pc : Nat} {L : List (Option Value)} {st : List Value} {σ : Sg} {i x : Int32} (M : Mach l G own cc nL ret fr lo post Φ) (d : decode cc pc = .ok (.iastore, 1)) (h0 : 0 ≤ i) (h1 : i < 82) (kk : Φ (pc + 1) L st (up σ 40 14 (upI (σ 40 14) i x))) : Φ pc L (.int x :: .int i :: .ref (ad G 40 14) :: st) σ := j_iast M (by decide) (fun _ => rfl) (n := 82) (n' := 82) rfl (by decide) d h0 h1 kk
theorem al_40_15 {l : Launch} {G : Gw} {own : String} {cc : ByteArray} {nL fr lo : Nat} {ret : Option FieldType} {post : Option Value → Sg → Prop} {Φ : Ph} {pc : Nat} {L : List (Option Value)} {st : List Value} {σ : Sg} {i : Int32} (M : Mach l G own cc nL ret fr lo post Φ) (d : decode cc pc = .ok (.iaload, 1)) (h0 : 0 ≤ i) (h1 : i < 16) (kk : Φ (pc + 1) L (.int (σ 40 15 i) :: st) σ) : Φ pc L (.int i :: .ref (ad G 40 15) :: st) σ := j_iald M (by decide) rfl (n := 16) (n' := 16) rfl (by decide) d h0 h1 kk
theorem as_40_15 {l : Launch} {G : Gw} {own : String} {cc : ByteArray} {nL fr lo : Nat} {ret : Option FieldType} {post : Option Value → Sg → Prop} {Φ : Ph} {pc : Nat} {L : List (Option Value)} {st : List Value} {σ : Sg} {i x : Int32} (M : Mach l G own cc nL ret fr lo post Φ) (d : decode cc pc = .ok (.iastore, 1)) (h0 : 0 ≤ i) (h1 : i < 16) (kk : Φ (pc + 1) L st (up σ 40 15 (upI (σ 40 15) i x))) : Φ pc L (.int x :: .int i :: .ref (ad G 40 15) :: st) σ := j_iast M (by decide) (fun _ => rfl) (n := 16) (n' := 16) rfl (by decide) d h0 h1 kk
theorem al_L_1 {l : Launch} {G : Gw} {own : String} {cc : ByteArray} {nL fr lo : Nat} {ret : Option FieldType} {post : Option Value → Sg → Prop} {Φ : Ph} {pc : Nat} {L : List (Option Value)} {st : List Value} {σ : Sg} {i : Int32} (M : Mach l G own cc nL ret fr lo post Φ) {c : Nat} (hc : isLib c) (d : decode cc pc = .ok (.iaload, 1)) (h0 : 0 ≤ i) (h1 : i < 6) (kk : Φ (pc + 1) L (.int (σ c 1 i) :: st) σ) : Φ pc L (.int i :: .ref (ad G c 1) :: st) σ := j_iald M (vld_lib hc (by decide)) (cel_lib G hc 1 _) (n := 6) (n' := 6) rfl (by decide) d h0 h1 kk
theorem as_L_1 {l : Launch} {G : Gw} {own : String} {cc : ByteArray} {nL fr lo : Nat} {ret : Option FieldType} {post : Option Value → Sg → Prop} {Φ : Ph} {pc : Nat} {L : List (Option Value)} {st : List Value} {σ : Sg} {i x : Int32} (M : Mach l G own cc nL ret fr lo post Φ) {c : Nat} (hc : isLib c) (d : decode cc pc = .ok (.iastore, 1)) (h0 : 0 ≤ i) (h1 : i < 6) (kk : Φ (pc + 1) L st (up σ c 1 (upI (σ c 1) i x))) : Φ pc L (.int x :: .int i :: .ref (ad G c 1) :: st) σ := j_iast M (vld_lib hc (by decide)) (fun f => cel_lib G hc 1 f) (n := 6) (n' := 6) rfl (by decide) d h0 h1 kk
theorem al_L_2 {l : Launch} {G : Gw} {own : String} {cc : ByteArray} {nL fr lo : Nat} {ret : Option FieldType} {post : Option Value → Sg → Prop} {Φ : Ph} {pc : Nat} {L : List (Option Value)} {st : List Value} {σ : Sg} {i : Int32} (M : Mach l G own cc nL ret fr lo post Φ) {c : Nat} (hc : isLib c) (d : decode cc pc = .ok (.iaload, 1)) (h0 : 0 ≤ i) (h1 : i < 6) (kk : Φ (pc + 1) L (.int (σ c 2 i) :: st) σ) : Φ pc L (.int i :: .ref (ad G c 2) :: st) σ := j_iald M (vld_lib hc (by decide)) (cel_lib G hc 2 _) (n := 6) (n' := 6) rfl (by decide) d h0 h1 kk
theorem as_L_2 {l : Launch} {G : Gw} {own : String} {cc : ByteArray} {nL fr lo : Nat} {ret : Option FieldType} {post : Option Value → Sg → Prop} {Φ : Ph} {pc : Nat} {L : List (Option Value)} {st : List Value} {σ : Sg} {i x : Int32} (M : Mach l G own cc nL ret fr lo post Φ) {c : Nat} (hc : isLib c) (d : decode cc pc = .ok (.iastore, 1)) (h0 : 0 ≤ i) (h1 : i < 6) (kk : Φ (pc + 1) L st (up σ c 2 (upI (σ c 2) i x))) : Φ pc L (.int x :: .int i :: .ref (ad G c 2) :: st) σ := j_iast M (vld_lib hc (by decide)) (fun f => cel_lib G hc 2 f) (n := 6) (n' := 6) rfl (by decide) d h0 h1 kk
theorem al_L_3 {l : Launch} {G : Gw} {own : String} {cc : ByteArray} {nL fr lo : Nat} {ret : Option FieldType} {post : Option Value → Sg → Prop} {Φ : Ph} {pc : Nat} {L : List (Option Value)} {st : List Value} {σ : Sg} {i : Int32} (M : Mach l G own cc nL ret fr lo post Φ) {c : Nat} (hc : isLib c) (d : decode cc pc = .ok (.iaload, 1)) (h0 : 0 ≤ i) (h1 : i < 6) (kk : Φ (pc + 1) L (.int (σ c 3 i) :: st) σ) : Φ pc L (.int i :: .ref (ad G c 3) :: st) σ := j_iald M (vld_lib hc (by decide)) (cel_lib G hc 3 _) (n := 6) (n' := 6) rfl (by decide) d h0 h1 kk
theorem as_L_3 {l : Launch} {G : Gw} {own : String} {cc : ByteArray} {nL fr lo : Nat} {ret : Option FieldType} {post : Option Value → Sg → Prop} {Φ : Ph} {pc : Nat} {L : List (Option Value)} {st : List Value} {σ : Sg} {i x : Int32} (M : Mach l G own cc nL ret fr lo post Φ) {c : Nat} (hc : isLib c) (d : decode cc pc = .ok (.iastore, 1)) (h0 : 0 ≤ i) (h1 : i < 6) (kk : Φ (pc + 1) L st (up σ c 3 (upI (σ c 3) i x))) : Φ pc L (.int x :: .int i :: .ref (ad G c 3) :: st) σ := j_iast M (vld_lib hc (by decide)) (fun f => cel_lib G hc 3 f) (n := 6) (n' := 6) rfl (by decide) d h0 h1 kk
theorem al_L_4 {l : Launch} {G : Gw} {own : String} {cc : ByteArray} {nL fr lo : Nat} {ret : Option FieldType} {post : Option Value → Sg → Prop} {Φ : Ph} {pc : Nat} {L : List (Option Value)} {st : List Value} {σ : Sg} {i : Int32} (M : Mach l G own cc nL ret fr lo post Φ) {c : Nat} (hc : isLib c) (d : decode cc pc = .ok (.iaload, 1)) (h0 : 0 ≤ i) (h1 : i < 6) (kk : Φ (pc + 1) L (.int (σ c 4 i) :: st) σ) : Φ pc L (.int i :: .ref (ad G c 4) :: st) σ := j_iald M (vld_lib hc (by decide)) (cel_lib G hc 4 _) (n := 6) (n' := 6) rfl (by decide) d h0 h1 kk
theorem as_L_4 {l : Launch} {G : Gw} {own : String} {cc : ByteArray} {nL fr lo : Nat} {ret : Option FieldType} {post : Option Value → Sg → Prop} {Φ : Ph} {pc : Nat} {L : List (Option Value)} {st : List Value} {σ : Sg} {i x : Int32} (M : Mach l G own cc nL ret fr lo post Φ) {c : Nat} (hc : isLib c) (d : decode cc pc = .ok (.iastore, 1)) (h0 : 0 ≤ i) (h1 : i < 6) (kk : Φ (pc + 1) L st (up σ c 4 (upI (σ c 4) i x))) : Φ pc L (.int x :: .int i :: .ref (ad G c 4) :: st) σ := j_iast M (vld_lib hc (by decide)) (fun f => cel_lib G hc 4 f) (n := 6) (n' := 6) rfl (by decide) d h0 h1 kk
theorem al_L_5 {l : Launch} {G : Gw} {own : String} {cc : ByteArray} {nL fr lo : Nat} {ret : Option FieldType} {post : Option Value → Sg → Prop} {Φ : Ph} {pc : Nat} {L : List (Option Value)} {st : List Value} {σ : Sg} {i : Int32} (M : Mach l G own cc nL ret fr lo post Φ) {c : Nat} (hc : isLib c) (d : decode cc pc = .ok (.iaload, 1)) (h0 : 0 ≤ i) (h1 : i < 5) (kk : Φ (pc + 1) L (.int (σ c 5 i) :: st) σ) : Φ pc L (.int i :: .ref (ad G c 5) :: st) σ := j_iald M (vld_lib hc (by decide)) (cel_lib G hc 5 _) (n := 5) (n' := 5) rfl (by decide) d h0 h1 kk
theorem as_L_5 {l : Launch} {G : Gw} {own : String} {cc : ByteArray} {nL fr lo : Nat} {ret : Option FieldType} {post : Option Value → Sg → Prop} {Φ : Ph} {pc : Nat} {L : List (Option Value)} {st : List Value} {σ : Sg} {i x : Int32} (M : Mach l G own cc nL ret fr lo post Φ) {c : Nat} (hc : isLib c) (d : decode cc pc = .ok (.iastore, 1)) (h0 : 0 ≤ i) (h1 : i < 5) (kk : Φ (pc + 1) L st (up σ c 5 (upI (σ c 5) i x))) : Φ pc L (.int x :: .int i :: .ref (ad G c 5) :: st) σ := j_iast M (vld_lib hc (by decide)) (fun f => cel_lib G hc 5 f) (n := 5) (n' := 5) rfl (by decide) d h0 h1 kk
theorem al_L_6 {l : Launch} {G : Gw} {own : String} {cc : ByteArray} {nL fr lo : Nat} {ret : Option FieldType} {post : Option Value → Sg → Prop} {Φ : Ph} {pc : Nat} {L : List (Option Value)} {st : List Value} {σ : Sg} {i : Int32} (M : Mach l G own cc nL ret fr lo post Φ) {c : Nat} (hc : isLib c) (d : decode cc pc = .ok (.iaload, 1)) (h0 : 0 ≤ i) (h1 : i < 5) (kk : Φ (pc + 1) L (.int (σ c 6 i) :: st) σ) : Φ pc L (.int i :: .ref (ad G c 6) :: st) σ := j_iald M (vld_lib hc (by decide)) (cel_lib G hc 6 _) (n := 5) (n' := 5) rfl (by decide) d h0 h1 kk
theorem as_L_6 {l : Launch} {G : Gw} {own : String} {cc : ByteArray} {nL fr lo : Nat} {ret : Option FieldType} {post : Option Value → Sg → Prop} {Φ : Ph} {pc : Nat} {L : List (Option Value)} {st : List Value} {σ : Sg} {i x : Int32} (M : Mach l G own cc nL ret fr lo post Φ) {c : Nat} (hc : isLib c) (d : decode cc pc = .ok (.iastore, 1)) (h0 : 0 ≤ i) (h1 : i < 5) (kk : Φ (pc + 1) L st (up σ c 6 (upI (σ c 6) i x))) : Φ pc L (.int x :: .int i :: .ref (ad G c 6) :: st) σ := j_iast M (vld_lib hc (by decide)) (fun f => cel_lib G hc 6 f) (n := 5) (n' := 5) rfl (by decide) d h0 h1 kk
theorem al_L_7 {l : Launch} {G : Gw} {own : String} {cc : ByteArray} {nL fr lo : Nat} {ret : Option FieldType} {post : Option Value → Sg → Prop} {Φ : Ph} {pc : Nat} {L : List (Option Value)} {st : List Value} {σ : Sg} {i : Int32} (M : Mach l G own cc nL ret fr lo post Φ) {c : Nat} (hc : isLib c) (d : decode cc pc = .ok (.iaload, 1)) (h0 : 0 ≤ i) (h1 : i < 5) (kk : Φ (pc + 1) L (.int (σ c 7 i) :: st) σ) : Φ pc L (.int i :: .ref (ad G c 7) :: st) σ := j_iald M (vld_lib hc (by decide)) (cel_lib G hc 7 _) (n := 5) (n' := 5) rfl (by decide) d h0 h1 kk
theorem as_L_7 {l : Launch} {G : Gw} {own : String} {cc : ByteArray} {nL fr lo : Nat} {ret : Option FieldType} {post : Option Value → Sg → Prop} {Φ : Ph} {pc : Nat} {L : List (Option Value)} {st : List Value} {σ : Sg} {i x : Int32} (M : Mach l G own cc nL ret fr lo post Φ) {c : Nat} (hc : isLib c) (d : decode cc pc = .ok (.iastore, 1)) (h0 : 0 ≤ i) (h1 : i < 5) (kk : Φ (pc + 1) L st (up σ c 7 (upI (σ c 7) i x))) : Φ pc L (.int x :: .int i :: .ref (ad G c 7) :: st) σ := j_iast M (vld_lib hc (by decide)) (fun f => cel_lib G hc 7 f) (n := 5) (n' := 5) rfl (by decide) d h0 h1 kk
theorem al_L_8 {l : Launch} {G : Gw} {own : String} {cc : ByteArray} {nL fr lo : Nat} {ret : Option FieldType} {post : Option Value → Sg → Prop} {Φ : Ph} {pc : Nat} {L : List (Option Value)} {st : List Value} {σ : Sg} {i : Int32} (M : Mach l G own cc nL ret fr lo post Φ) {c : Nat} (hc : isLib c) (d : decode cc pc = .ok (.iaload, 1)) (h0 : 0 ≤ i) (h1 : i < 5) (kk : Φ (pc + 1) L (.int (σ c 8 i) :: st) σ) : Φ pc L (.int i :: .ref (ad G c 8) :: st) σ := j_iald M (vld_lib hc (by decide)) (cel_lib G hc 8 _) (n := 5) (n' := 5) rfl (by decide) d h0 h1 kk
theorem as_L_8 {l : Launch} {G : Gw} {own : String} {cc : ByteArray} {nL fr lo : Nat} {ret : Option FieldType} {post : Option Value → Sg → Prop} {Φ : Ph} {pc : Nat} {L : List (Option Value)} {st : List Value} {σ : Sg} {i x : Int32} (M : Mach l G own cc nL ret fr lo post Φ) {c : Nat} (hc : isLib c) (d : decode cc pc = .ok (.iastore, 1)) (h0 : 0 ≤ i) (h1 : i < 5) (kk : Φ (pc + 1) L st (up σ c 8 (upI (σ c 8) i x))) : Φ pc L (.int x :: .int i :: .ref (ad G c 8) :: st) σ := j_iast M (vld_lib hc (by decide)) (fun f => cel_lib G hc 8 f) (n := 5) (n' := 5) rfl (by decide) d h0 h1 kk
theorem al_acts {l : Launch} {G : Gw} {own : String} {cc : ByteArray} {nL fr lo : Nat} {ret : Option FieldType} {post : Option Value → Sg → Prop} {Φ : Ph} {pc : Nat} {L : List (Option Value)} {st : List Value} {σ : Sg} {i : Int32} (M : Mach l G own cc nL ret fr lo post Φ) (d : decode cc pc = .ok (.aaload, 1)) (h0 : 0 ≤ i) (h1 : i < 24) (kk : Φ (pc + 1) L (.ref (ad G (11 + i.toNatClampNeg) 0) :: st) σ) : Φ pc L (.int i :: .ref (ad G 3 1) :: st) σ := j_aald M (by decide) rfl (n := 24) (n' := 24) rfl (by decide) d h0 h1 kk
theorem rv_X6 {G : Gw} {σ : Sg} : Recv G σ RX6 (ad G 0 0) := by
  obtain ⟨i, -, h⟩ := wl_at (G := G) (σ := σ) (c := 0) (k := 0) (by decide)
  exact ⟨i, 6, _, _, _, h, rfl⟩
theorem rv_X4 {G : Gw} {σ : Sg} : Recv G σ RX4 (ad G 1 0) := by
  obtain ⟨i, -, h⟩ := wl_at (G := G) (σ := σ) (c := 1) (k := 0) (by decide)
  exact ⟨i, 4, _, _, _, h, rfl⟩
theorem rv_X5 {G : Gw} {σ : Sg} : Recv G σ RX5 (ad G 2 0) := by
  obtain ⟨i, -, h⟩ := wl_at (G := G) (σ := σ) (c := 2) (k := 0) (by decide)
  exact ⟨i, 5, _, _, _, h, rfl⟩
theorem rv_X0 {G : Gw} {σ : Sg} : Recv G σ RX0 (ad G 3 0) := by
  obtain ⟨i, -, h⟩ := wl_at (G := G) (σ := σ) (c := 3) (k := 0) (by decide)
  exact ⟨i, 0, _, _, _, h, rfl⟩
theorem rv_X1 {G : Gw} {σ : Sg} : Recv G σ RX1 (ad G 4 0) := by
  obtain ⟨i, -, h⟩ := wl_at (G := G) (σ := σ) (c := 4) (k := 0) (by decide)
  exact ⟨i, 1, _, _, _, h, rfl⟩
theorem rv_X2 {G : Gw} {σ : Sg} : Recv G σ RX2 (ad G 5 0) := by
  obtain ⟨i, -, h⟩ := wl_at (G := G) (σ := σ) (c := 5) (k := 0) (by decide)
  exact ⟨i, 2, _, _, _, h, rfl⟩
theorem rv_X7 {G : Gw} {σ : Sg} : Recv G σ RX7 (ad G 40 0) := by
  obtain ⟨i, -, h⟩ := wl_at (G := G) (σ := σ) (c := 40) (k := 0) (by decide)
  exact ⟨i, 7, _, _, _, h, rfl⟩
theorem rv_X3 {G : Gw} {σ : Sg} {c : Nat} (hc : isLib c) : Recv G σ RX3 (ad G c 0) := by
  obtain ⟨i, -, h⟩ := wl_at (G := G) (σ := σ) (c := c) (k := 0) (vld_lib hc (by decide))
  rw [cel_lib G hc] at h
  exact ⟨i, 3, _, _, _, h, rfl⟩
theorem lk_L_13 : LkV RL 13 RX6 yX6_row cX6_row 4 (some .int) 3 := ⟨ml_L_13, im_X6_row, se_X6_row, in_X6, cd_X6_row, ⟨by decide +kernel, by decide +kernel, by decide +kernel⟩⟩
theorem lk_X6_64 : LkS RX6 64 yX4_isRow cX4_isRow 1 (some .boolean) 1 := ⟨ml_X6_64, sm_X4_isRow, in_X4, cd_X4_isRow, ⟨by decide +kernel, by decide +kernel, by decide +kernel⟩⟩
theorem lk_X6_68 : LkS RX6 68 yX4_isLane cX4_isLane 1 (some .boolean) 1 := ⟨ml_X6_68, sm_X4_isLane, in_X4, cd_X4_isLane, ⟨by decide +kernel, by decide +kernel, by decide +kernel⟩⟩
theorem lk_X6_72 : LkV RX6 72 RX6 yX6_found cX6_found 2 (some .int) 1 := ⟨ml_X6_72, im_X6_found, se_X6_found, in_X6, cd_X6_found, ⟨by decide +kernel, by decide +kernel, by decide +kernel⟩⟩
theorem lk_X6_76 : LkV RX6 76 RX4 yX4_make cX4_make 5 none 3 := ⟨ml_X6_76, im_X4_make, se_X4_make, in_X4, cd_X4_make, ⟨by decide +kernel, by decide +kernel, by decide +kernel⟩⟩
theorem lk_X4_28 : LkS RX4 28 yX4_isRow cX4_isRow 1 (some .boolean) 1 := ⟨ml_X4_28, sm_X4_isRow, in_X4, cd_X4_isRow, ⟨by decide +kernel, by decide +kernel, by decide +kernel⟩⟩
theorem lk_X6_80 : LkV RX6 80 RX6 yX6_foundNothing cX6_foundNothing 2 (some .int) 1 := ⟨ml_X6_80, im_X6_foundNothing, se_X6_foundNothing, in_X6, cd_X6_foundNothing, ⟨by decide +kernel, by decide +kernel, by decide +kernel⟩⟩
theorem lk_L_18 : LkV RL 18 RX6 yX6_set cX6_set 5 (some .int) 3 := ⟨ml_L_18, im_X6_set, se_X6_set, in_X6, cd_X6_set, ⟨by decide +kernel, by decide +kernel, by decide +kernel⟩⟩
theorem lk_X6_83 : LkV RX6 83 RX4 yX4_findingAt cX4_findingAt 5 (some .int) 3 := ⟨ml_X6_83, im_X4_findingAt, se_X4_findingAt, in_X4, cd_X4_findingAt, ⟨by decide +kernel, by decide +kernel, by decide +kernel⟩⟩
theorem lk_X4_32 : LkV RX4 32 RX4 yX4_isMissing cX4_isMissing 2 (some .boolean) 1 := ⟨ml_X4_32, im_X4_isMissing, se_X4_isMissing, in_X4, cd_X4_isMissing, ⟨by decide +kernel, by decide +kernel, by decide +kernel⟩⟩
theorem lk_X6_87 : LkV RX6 87 RX4 yX4_put cX4_put 5 (some .int) 3 := ⟨ml_X6_87, im_X4_put, se_X4_put, in_X4, cd_X4_put, ⟨by decide +kernel, by decide +kernel, by decide +kernel⟩⟩
theorem lk_X4_35 : LkV RX4 35 RX4 yX4_findingAt cX4_findingAt 5 (some .int) 3 := ⟨ml_X4_35, im_X4_findingAt, se_X4_findingAt, in_X4, cd_X4_findingAt, ⟨by decide +kernel, by decide +kernel, by decide +kernel⟩⟩
theorem lk_L_22 : LkV RL 22 RX6 yX6_copy cX6_copy 7 (some .int) 5 := ⟨ml_L_22, im_X6_copy, se_X6_copy, in_X6, cd_X6_copy, ⟨by decide +kernel, by decide +kernel, by decide +kernel⟩⟩
theorem lk_X6_90 : LkV RX6 90 RX4 yX4_findingOfCopy cX4_findingOfCopy 7 (some .int) 5 := ⟨ml_X6_90, im_X4_findingOfCopy, se_X4_findingOfCopy, in_X4, cd_X4_findingOfCopy, ⟨by decide +kernel, by decide +kernel, by decide +kernel⟩⟩
theorem lk_X6_94 : LkV RX6 94 RX4 yX4_shift cX4_shift 6 none 5 := ⟨ml_X6_94, im_X4_shift, se_X4_shift, in_X4, cd_X4_shift, ⟨by decide +kernel, by decide +kernel, by decide +kernel⟩⟩
theorem lk_X4_39 : LkV RX4 39 RX4 yX4_findingOfCopy cX4_findingOfCopy 7 (some .int) 5 := ⟨ml_X4_39, im_X4_findingOfCopy, se_X4_findingOfCopy, in_X4, cd_X4_findingOfCopy, ⟨by decide +kernel, by decide +kernel, by decide +kernel⟩⟩
theorem lk_L_27 : LkV RL 27 RX6 yX6_drop cX6_drop 2 (some .int) 1 := ⟨ml_L_27, im_X6_drop, se_X6_drop, in_X6, cd_X6_drop, ⟨by decide +kernel, by decide +kernel, by decide +kernel⟩⟩
theorem lk_X6_98 : LkV RX6 98 RX4 yX4_isMissing cX4_isMissing 2 (some .boolean) 1 := ⟨ml_X6_98, im_X4_isMissing, se_X4_isMissing, in_X4, cd_X4_isMissing, ⟨by decide +kernel, by decide +kernel, by decide +kernel⟩⟩
theorem lk_X6_101 : LkV RX6 101 RX4 yX4_remove cX4_remove 2 (some .int) 1 := ⟨ml_X6_101, im_X4_remove, se_X4_remove, in_X4, cd_X4_remove, ⟨by decide +kernel, by decide +kernel, by decide +kernel⟩⟩
theorem lk_L_32 : LkV RL 32 RX6 yX6_feed cX6_feed 2 (some .int) 1 := ⟨ml_L_32, im_X6_feed, se_X6_feed, in_X6, cd_X6_feed, ⟨by decide +kernel, by decide +kernel, by decide +kernel⟩⟩
theorem lk_X6_104 : LkS RX6 104 yX6_isWithin cX6_isWithin 3 (some .boolean) 3 := ⟨ml_X6_104, sm_X6_isWithin, in_X6, cd_X6_isWithin, ⟨by decide +kernel, by decide +kernel, by decide +kernel⟩⟩
theorem lk_X6_108 : LkV RX6 108 RX5 yX5_add cX5_add 2 (some .boolean) 1 := ⟨ml_X6_108, im_X5_add, se_X5_add, in_X5, cd_X5_add, ⟨by decide +kernel, by decide +kernel, by decide +kernel⟩⟩
theorem lk_L_36 : LkV RL 36 RX6 yX6_library cX6_library 2 (some .int) 0 := ⟨ml_L_36, im_X6_library, se_X6_library, in_X6, cd_X6_library, ⟨by decide +kernel, by decide +kernel, by decide +kernel⟩⟩
theorem lk_X6_115 : LkV RX6 115 RX5 yX5_readInto cX5_readInto 2 (some .int) 1 := ⟨ml_X6_115, im_X5_readInto, se_X5_readInto, in_X5, cd_X5_readInto, ⟨by decide +kernel, by decide +kernel, by decide +kernel⟩⟩
theorem lk_X5_29 : LkV RX5 29 RX3 yX3_clear cX3_clear 1 none 0 := ⟨ml_X5_29, im_X3_clear, se_X3_clear, in_X3, cd_X3_clear, ⟨by decide +kernel, by decide +kernel, by decide +kernel⟩⟩
theorem lk_X5_34 : LkV RX5 34 RX5 yX5_readLaw cX5_readLaw 2 none 1 := ⟨ml_X5_34, im_X5_readLaw, se_X5_readLaw, in_X5, cd_X5_readLaw, ⟨by decide +kernel, by decide +kernel, by decide +kernel⟩⟩
theorem lk_X5_44 : LkV RX5 44 RX5 yX5_pass cX5_pass 2 none 1 := ⟨ml_X5_44, im_X5_pass, se_X5_pass, in_X5, cd_X5_pass, ⟨by decide +kernel, by decide +kernel, by decide +kernel⟩⟩
theorem lk_X5_58 : LkV RX5 58 RX5 yX5_next cX5_next 1 (some .int) 0 := ⟨ml_X5_58, im_X5_next, se_X5_next, in_X5, cd_X5_next, ⟨by decide +kernel, by decide +kernel, by decide +kernel⟩⟩
theorem lk_X5_68 : LkV RX5 68 RX5 yX5_isFine cX5_isFine 1 (some .boolean) 0 := ⟨ml_X5_68, im_X5_isFine, se_X5_isFine, in_X5, cd_X5_isFine, ⟨by decide +kernel, by decide +kernel, by decide +kernel⟩⟩
theorem lk_X5_62 : LkV RX5 62 RX5 yX5_fail cX5_fail 2 none 1 := ⟨ml_X5_62, im_X5_fail, se_X5_fail, in_X5, cd_X5_fail, ⟨by decide +kernel, by decide +kernel, by decide +kernel⟩⟩
theorem lk_X5_48 : LkV RX5 48 RX5 yX5_number cX5_number 7 (some .int) 2 := ⟨ml_X5_48, im_X5_number, se_X5_number, in_X5, cd_X5_number, ⟨by decide +kernel, by decide +kernel, by decide +kernel⟩⟩
theorem lk_X5_86 : LkS RX5 86 yX5_isFigure cX5_isFigure 1 (some .boolean) 1 := ⟨ml_X5_86, sm_X5_isFigure, in_X5, cd_X5_isFigure, ⟨by decide +kernel, by decide +kernel, by decide +kernel⟩⟩
theorem lk_X5_38 : LkV RX5 38 RX5 yX5_readBooks cX5_readBooks 5 none 1 := ⟨ml_X5_38, im_X5_readBooks, se_X5_readBooks, in_X5, cd_X5_readBooks, ⟨by decide +kernel, by decide +kernel, by decide +kernel⟩⟩
theorem lk_X5_72 : LkV RX5 72 RX3 yX3_addBook cX3_addBook 3 none 2 := ⟨ml_X5_72, im_X3_addBook, se_X3_addBook, in_X3, cd_X3_addBook, ⟨by decide +kernel, by decide +kernel, by decide +kernel⟩⟩
theorem lk_X5_41 : LkV RX5 41 RX5 yX5_readFish cX5_readFish 5 none 1 := ⟨ml_X5_41, im_X5_readFish, se_X5_readFish, in_X5, cd_X5_readFish, ⟨by decide +kernel, by decide +kernel, by decide +kernel⟩⟩
theorem lk_X5_76 : LkS RX5 76 yX5_kindOfSort cX5_kindOfSort 1 (some .int) 1 := ⟨ml_X5_76, sm_X5_kindOfSort, in_X5, cd_X5_kindOfSort, ⟨by decide +kernel, by decide +kernel, by decide +kernel⟩⟩
theorem lk_X5_83 : LkV RX5 83 RX3 yX3_addFish cX3_addFish 3 none 2 := ⟨ml_X5_83, im_X3_addFish, se_X3_addFish, in_X3, cd_X3_addFish, ⟨by decide +kernel, by decide +kernel, by decide +kernel⟩⟩
theorem lk_X6_121 : LkV RX6 121 RX3 yX3_take cX3_take 3 none 1 := ⟨ml_X6_121, im_X3_take, se_X3_take, in_X3, cd_X3_take, ⟨by decide +kernel, by decide +kernel, by decide +kernel⟩⟩
theorem lk_X6_125 : LkV RX6 125 RX0 yX0_forget cX0_forget 1 none 0 := ⟨ml_X6_125, im_X0_forget, se_X0_forget, in_X0, cd_X0_forget, ⟨by decide +kernel, by decide +kernel, by decide +kernel⟩⟩
theorem lk_L_41 : LkV RL 41 RX6 yX6_fault cX6_fault 1 (some .int) 0 := ⟨ml_L_41, im_X6_fault, se_X6_fault, in_X6, cd_X6_fault, ⟨by decide +kernel, by decide +kernel, by decide +kernel⟩⟩
theorem lk_L_45 : LkV RL 45 RX6 yX6_undo cX6_undo 1 (some .int) 0 := ⟨ml_L_45, im_X6_undo, se_X6_undo, in_X6, cd_X6_undo, ⟨by decide +kernel, by decide +kernel, by decide +kernel⟩⟩
theorem lk_X6_138 : LkV RX6 138 RX0 yX0_bringBack cX0_bringBack 4 none 1 := ⟨ml_X6_138, im_X0_bringBack, se_X0_bringBack, in_X0, cd_X0_bringBack, ⟨by decide +kernel, by decide +kernel, by decide +kernel⟩⟩
theorem lk_X0_25 : LkV RX0 25 RX0 yX0_slotAt cX0_slotAt 2 (some (.object RX3)) 1 := ⟨ml_X0_25, im_X0_slotAt, se_X0_slotAt, in_X0, cd_X0_slotAt, ⟨by decide +kernel, by decide +kernel, by decide +kernel⟩⟩
theorem lk_X0_29 : LkV RX0 29 RX3 yX3_take cX3_take 3 none 1 := ⟨ml_X0_29, im_X3_take, se_X3_take, in_X3, cd_X3_take, ⟨by decide +kernel, by decide +kernel, by decide +kernel⟩⟩
theorem lk_L_49 : LkV RL 49 RX6 yX6_nights cX6_nights 3 (some .int) 1 := ⟨ml_L_49, im_X6_nights, se_X6_nights, in_X6, cd_X6_nights, ⟨by decide +kernel, by decide +kernel, by decide +kernel⟩⟩
theorem lk_X6_141 : LkV RX6 141 RX3 yX3_isTold cX3_isTold 1 (some .boolean) 0 := ⟨ml_X6_141, im_X3_isTold, se_X3_isTold, in_X3, cd_X3_isTold, ⟨by decide +kernel, by decide +kernel, by decide +kernel⟩⟩
theorem lk_X6_148 : LkV RX6 148 RX0 yX0_remember cX0_remember 3 none 1 := ⟨ml_X6_148, im_X0_remember, se_X0_remember, in_X0, cd_X0_remember, ⟨by decide +kernel, by decide +kernel, by decide +kernel⟩⟩
theorem lk_X0_33 : LkS RX0 33 yJ9_min_7cf53 cJ9_min_7cf53 2 (some .int) 2 := ⟨ml_X0_33, sm_J9_min_7cf53, in_J9, cd_J9_min_7cf53, ⟨by decide +kernel, by decide +kernel, by decide +kernel⟩⟩
theorem lk_X6_151 : LkV RX6 151 RX3 yX3_passNight cX3_passNight 2 none 0 := ⟨ml_X6_151, im_X3_passNight, se_X3_passNight, in_X3, cd_X3_passNight, ⟨by decide +kernel, by decide +kernel, by decide +kernel⟩⟩
theorem lk_X3_69 : LkV RX3 69 RX3 yX3_isCaught cX3_isCaught 2 (some .boolean) 1 := ⟨ml_X3_69, im_X3_isCaught, se_X3_isCaught, in_X3, cd_X3_isCaught, ⟨by decide +kernel, by decide +kernel, by decide +kernel⟩⟩
theorem lk_X3_89 : LkV RX3 89 RX3 yX3_nextPlace cX3_nextPlace 5 (some .int) 1 := ⟨ml_X3_89, im_X3_nextPlace, se_X3_nextPlace, in_X3, cd_X3_nextPlace, ⟨by decide +kernel, by decide +kernel, by decide +kernel⟩⟩
theorem lk_X3_99 : LkV RX3 99 RX3 yX3_bookIn cX3_bookIn 2 (some .int) 1 := ⟨ml_X3_99, im_X3_bookIn, se_X3_bookIn, in_X3, cd_X3_bookIn, ⟨by decide +kernel, by decide +kernel, by decide +kernel⟩⟩
theorem lk_X3_61 : LkV RX3 61 RX3 yX3_isBook cX3_isBook 2 (some .boolean) 1 := ⟨ml_X3_61, im_X3_isBook, se_X3_isBook, in_X3, cd_X3_isBook, ⟨by decide +kernel, by decide +kernel, by decide +kernel⟩⟩
theorem lk_X3_111 : LkV RX3 111 RX3 yX3_upFrom cX3_upFrom 3 (some .int) 2 := ⟨ml_X3_111, im_X3_upFrom, se_X3_upFrom, in_X3, cd_X3_upFrom, ⟨by decide +kernel, by decide +kernel, by decide +kernel⟩⟩
theorem lk_X3_102 : LkV RX3 102 RX3 yX3_isClosed cX3_isClosed 2 (some .boolean) 1 := ⟨ml_X3_102, im_X3_isClosed, se_X3_isClosed, in_X3, cd_X3_isClosed, ⟨by decide +kernel, by decide +kernel, by decide +kernel⟩⟩
theorem lk_X3_114 : LkV RX3 114 RX3 yX3_likedPlace cX3_likedPlace 9 (some .int) 1 := ⟨ml_X3_114, im_X3_likedPlace, se_X3_likedPlace, in_X3, cd_X3_likedPlace, ⟨by decide +kernel, by decide +kernel, by decide +kernel⟩⟩
theorem lk_X3_120 : LkS RX3 120 yJ9_abs_0f7a4 cJ9_abs_0f7a4 1 (some .int) 1 := ⟨ml_X3_120, sm_J9_abs_0f7a4, in_J9, cd_J9_abs_0f7a4, ⟨by decide +kernel, by decide +kernel, by decide +kernel⟩⟩
theorem lk_X3_117 : LkS RX3 117 yX3_towards cX3_towards 2 (some .int) 2 := ⟨ml_X3_117, sm_X3_towards, in_X3, cd_X3_towards, ⟨by decide +kernel, by decide +kernel, by decide +kernel⟩⟩
theorem lk_X3_92 : LkV RX3 92 RX3 yX3_eat cX3_eat 4 none 1 := ⟨ml_X3_92, im_X3_eat, se_X3_eat, in_X3, cd_X3_eat, ⟨by decide +kernel, by decide +kernel, by decide +kernel⟩⟩
theorem lk_X3_105 : LkS RX3 105 yJ9_min_7cf53 cJ9_min_7cf53 2 (some .int) 2 := ⟨ml_X3_105, sm_J9_min_7cf53, in_J9, cd_J9_min_7cf53, ⟨by decide +kernel, by decide +kernel, by decide +kernel⟩⟩
theorem lk_X3_96 : LkV RX3 96 RX3 yX3_dampen cX3_dampen 2 none 0 := ⟨ml_X3_96, im_X3_dampen, se_X3_dampen, in_X3, cd_X3_dampen, ⟨by decide +kernel, by decide +kernel, by decide +kernel⟩⟩
theorem lk_X6_154 : LkV RX6 154 RX3 yX3_pagesOfAll cX3_pagesOfAll 1 (some .int) 0 := ⟨ml_X6_154, im_X3_pagesOfAll, se_X3_pagesOfAll, in_X3, cd_X3_pagesOfAll, ⟨by decide +kernel, by decide +kernel, by decide +kernel⟩⟩
theorem lk_X3_72 : LkV RX3 72 RX3 yX3_allBooks cX3_allBooks 1 (some .int) 0 := ⟨ml_X3_72, im_X3_allBooks, se_X3_allBooks, in_X3, cd_X3_allBooks, ⟨by decide +kernel, by decide +kernel, by decide +kernel⟩⟩
theorem lk_X3_76 : LkV RX3 76 RX3 yX3_pagesOf cX3_pagesOf 4 (some .int) 1 := ⟨ml_X3_76, im_X3_pagesOf, se_X3_pagesOf, in_X3, cd_X3_pagesOf, ⟨by decide +kernel, by decide +kernel, by decide +kernel⟩⟩
theorem lk_L_53 : LkV RL 53 RX6 yX6_light cX6_light 3 (some .int) 2 := ⟨ml_L_53, im_X6_light, se_X6_light, in_X6, cd_X6_light, ⟨by decide +kernel, by decide +kernel, by decide +kernel⟩⟩
theorem lk_X6_158 : LkV RX6 158 RX3 yX3_isBook cX3_isBook 2 (some .boolean) 1 := ⟨ml_X6_158, im_X3_isBook, se_X3_isBook, in_X3, cd_X3_isBook, ⟨by decide +kernel, by decide +kernel, by decide +kernel⟩⟩
theorem lk_X6_164 : LkS RX6 164 yX6_bitOf cX6_bitOf 2 (some .int) 2 := ⟨ml_X6_164, sm_X6_bitOf, in_X6, cd_X6_bitOf, ⟨by decide +kernel, by decide +kernel, by decide +kernel⟩⟩
theorem lk_X6_168 : LkS RX6 168 yJ6_bitCount_0f7a4 cJ6_bitCount_0f7a4 1 (some .int) 1 := ⟨ml_X6_168, sm_J6_bitCount_0f7a4, in_J6, cd_J6_bitCount_0f7a4, ⟨by decide +kernel, by decide +kernel, by decide +kernel⟩⟩
theorem lk_L_58 : LkV RL 58 RX6 yX6_keepIt cX6_keepIt 3 (some .int) 2 := ⟨ml_L_58, im_X6_keepIt, se_X6_keepIt, in_X6, cd_X6_keepIt, ⟨by decide +kernel, by decide +kernel, by decide +kernel⟩⟩
theorem lk_L_62 : LkV RL 62 RX6 yX6_change cX6_change 5 (some .int) 2 := ⟨ml_L_62, im_X6_change, se_X6_change, in_X6, cd_X6_change, ⟨by decide +kernel, by decide +kernel, by decide +kernel⟩⟩
theorem lk_X6_181 : LkV RX6 181 RX3 yX3_put cX3_put 3 none 2 := ⟨ml_X6_181, im_X3_put, se_X3_put, in_X3, cd_X3_put, ⟨by decide +kernel, by decide +kernel, by decide +kernel⟩⟩
theorem lk_X3_66 : LkV RX3 66 RX3 yX3_isPlace cX3_isPlace 2 (some .boolean) 1 := ⟨ml_X3_66, im_X3_isPlace, se_X3_isPlace, in_X3, cd_X3_isPlace, ⟨by decide +kernel, by decide +kernel, by decide +kernel⟩⟩
theorem lk_L_66 : LkV RL 66 RX6 yX6_move cX6_move 4 (some .int) 2 := ⟨ml_L_66, im_X6_move, se_X6_move, in_X6, cd_X6_move, ⟨by decide +kernel, by decide +kernel, by decide +kernel⟩⟩
theorem lk_X6_184 : LkV RX6 184 RX3 yX3_isFish cX3_isFish 2 (some .boolean) 1 := ⟨ml_X6_184, im_X3_isFish, se_X3_isFish, in_X3, cd_X3_isFish, ⟨by decide +kernel, by decide +kernel, by decide +kernel⟩⟩
theorem lk_X6_187 : LkV RX6 187 RX3 yX3_isPlace cX3_isPlace 2 (some .boolean) 1 := ⟨ml_X6_187, im_X3_isPlace, se_X3_isPlace, in_X3, cd_X3_isPlace, ⟨by decide +kernel, by decide +kernel, by decide +kernel⟩⟩
theorem lk_X6_193 : LkV RX6 193 RX3 yX3_isCaught cX3_isCaught 2 (some .boolean) 1 := ⟨ml_X6_193, im_X3_isCaught, se_X3_isCaught, in_X3, cd_X3_isCaught, ⟨by decide +kernel, by decide +kernel, by decide +kernel⟩⟩
theorem lk_L_70 : LkV RL 70 RX6 yX6_catchIt cX6_catchIt 2 (some .int) 1 := ⟨ml_L_70, im_X6_catchIt, se_X6_catchIt, in_X6, cd_X6_catchIt, ⟨by decide +kernel, by decide +kernel, by decide +kernel⟩⟩
theorem lk_L_74 : LkV RL 74 RX6 yX6_book cX6_book 3 (some .int) 2 := ⟨ml_L_74, im_X6_book, se_X6_book, in_X6, cd_X6_book, ⟨by decide +kernel, by decide +kernel, by decide +kernel⟩⟩
theorem lk_X6_205 : LkV RX6 205 RX3 yX3_fishIn cX3_fishIn 4 (some .int) 1 := ⟨ml_X6_205, im_X3_fishIn, se_X3_fishIn, in_X3, cd_X3_fishIn, ⟨by decide +kernel, by decide +kernel, by decide +kernel⟩⟩
theorem lk_L_78 : LkV RL 78 RX6 yX6_fish cX6_fish 4 (some .int) 2 := ⟨ml_L_78, im_X6_fish, se_X6_fish, in_X6, cd_X6_fish, ⟨by decide +kernel, by decide +kernel, by decide +kernel⟩⟩
theorem lk_X6_211 : LkV RX6 211 RX3 yX3_likedPlace cX3_likedPlace 9 (some .int) 1 := ⟨ml_X6_211, im_X3_likedPlace, se_X3_likedPlace, in_X3, cd_X3_likedPlace, ⟨by decide +kernel, by decide +kernel, by decide +kernel⟩⟩
theorem lk_X6_214 : LkV RX6 214 RX3 yX3_bookIn cX3_bookIn 2 (some .int) 1 := ⟨ml_X6_214, im_X3_bookIn, se_X3_bookIn, in_X3, cd_X3_bookIn, ⟨by decide +kernel, by decide +kernel, by decide +kernel⟩⟩
theorem lk_L_82 : LkV RL 82 RX6 yX6_stand cX6_stand 2 (some .int) 1 := ⟨ml_L_82, im_X6_stand, se_X6_stand, in_X6, cd_X6_stand, ⟨by decide +kernel, by decide +kernel, by decide +kernel⟩⟩
theorem lk_L_86 : LkV RL 86 RX6 yX6_ahead cX6_ahead 5 (some .int) 3 := ⟨ml_L_86, im_X6_ahead, se_X6_ahead, in_X6, cd_X6_ahead, ⟨by decide +kernel, by decide +kernel, by decide +kernel⟩⟩
theorem lk_X6_220 : LkV RX6 220 RX2 yX2_behind cX2_behind 3 (some (.object RX3)) 2 := ⟨ml_X6_220, im_X2_behind, se_X2_behind, in_X2, cd_X2_behind, ⟨by decide +kernel, by decide +kernel, by decide +kernel⟩⟩
theorem lk_X2_25 : LkV RX2 25 RX3 yX3_take cX3_take 3 none 1 := ⟨ml_X2_25, im_X3_take, se_X3_take, in_X3, cd_X3_take, ⟨by decide +kernel, by decide +kernel, by decide +kernel⟩⟩
theorem lk_X2_29 : LkV RX2 29 RX3 yX3_passNights cX3_passNights 3 none 1 := ⟨ml_X2_29, im_X3_passNights, se_X3_passNights, in_X3, cd_X3_passNights, ⟨by decide +kernel, by decide +kernel, by decide +kernel⟩⟩
theorem lk_X3_86 : LkV RX3 86 RX3 yX3_passNight cX3_passNight 2 none 0 := ⟨ml_X3_86, im_X3_passNight, se_X3_passNight, in_X3, cd_X3_passNight, ⟨by decide +kernel, by decide +kernel, by decide +kernel⟩⟩
theorem lk_L_90 : LkV RL 90 RX6 yX6_later cX6_later 5 (some .int) 3 := ⟨ml_L_90, im_X6_later, se_X6_later, in_X6, cd_X6_later, ⟨by decide +kernel, by decide +kernel, by decide +kernel⟩⟩
theorem lk_L_94 : LkV RL 94 RX6 yX6_when cX6_when 2 (some .int) 1 := ⟨ml_L_94, im_X6_when, se_X6_when, in_X6, cd_X6_when, ⟨by decide +kernel, by decide +kernel, by decide +kernel⟩⟩
theorem lk_X6_224 : LkV RX6 224 RX2 yX2_nightsTillEmpty cX2_nightsTillEmpty 4 (some .int) 2 := ⟨ml_X6_224, im_X2_nightsTillEmpty, se_X2_nightsTillEmpty, in_X2, cd_X2_nightsTillEmpty, ⟨by decide +kernel, by decide +kernel, by decide +kernel⟩⟩
theorem lk_X2_33 : LkV RX2 33 RX3 yX3_booksWithPages cX3_booksWithPages 3 (some .int) 0 := ⟨ml_X2_33, im_X3_booksWithPages, se_X3_booksWithPages, in_X3, cd_X3_booksWithPages, ⟨by decide +kernel, by decide +kernel, by decide +kernel⟩⟩
theorem lk_X2_37 : LkV RX2 37 RX3 yX3_passNight cX3_passNight 2 none 0 := ⟨ml_X2_37, im_X3_passNight, se_X3_passNight, in_X3, cd_X3_passNight, ⟨by decide +kernel, by decide +kernel, by decide +kernel⟩⟩
theorem lk_L_98 : LkV RL 98 RX6 yX6_first cX6_first 4 (some .int) 1 := ⟨ml_L_98, im_X6_first, se_X6_first, in_X6, cd_X6_first, ⟨by decide +kernel, by decide +kernel, by decide +kernel⟩⟩
theorem lk_X6_228 : LkV RX6 228 RX3 yX3_booksWithPages cX3_booksWithPages 3 (some .int) 0 := ⟨ml_X6_228, im_X3_booksWithPages, se_X3_booksWithPages, in_X3, cd_X3_booksWithPages, ⟨by decide +kernel, by decide +kernel, by decide +kernel⟩⟩
theorem lk_X6_231 : LkV RX6 231 RX2 yX2_emptyOneOf cX2_emptyOneOf 4 (some .int) 1 := ⟨ml_X6_231, im_X2_emptyOneOf, se_X2_emptyOneOf, in_X2, cd_X2_emptyOneOf, ⟨by decide +kernel, by decide +kernel, by decide +kernel⟩⟩
theorem lk_L_102 : LkV RL 102 RX6 yX6_hole cX6_hole 3 (some .int) 2 := ⟨ml_L_102, im_X6_hole, se_X6_hole, in_X6, cd_X6_hole, ⟨by decide +kernel, by decide +kernel, by decide +kernel⟩⟩
theorem lk_L_106 : LkV RL 106 RX6 yX6_order cX6_order 5 (some .int) 3 := ⟨ml_L_106, im_X6_order, se_X6_order, in_X6, cd_X6_order, ⟨by decide +kernel, by decide +kernel, by decide +kernel⟩⟩
theorem lk_X6_237 : LkV RX6 237 RX3 yX3_allBooks cX3_allBooks 1 (some .int) 0 := ⟨ml_X6_237, im_X3_allBooks, se_X3_allBooks, in_X3, cd_X3_allBooks, ⟨by decide +kernel, by decide +kernel, by decide +kernel⟩⟩
theorem lk_X6_240 : LkV RX6 240 RX2 yX2_bestOrder cX2_bestOrder 7 (some .int) 3 := ⟨ml_X6_240, im_X2_bestOrder, se_X2_bestOrder, in_X2, cd_X2_bestOrder, ⟨by decide +kernel, by decide +kernel, by decide +kernel⟩⟩
theorem lk_X2_41 : LkV RX2 41 RX3 yX3_put cX3_put 3 none 2 := ⟨ml_X2_41, im_X3_put, se_X3_put, in_X3, cd_X3_put, ⟨by decide +kernel, by decide +kernel, by decide +kernel⟩⟩
theorem lk_X2_45 : LkV RX2 45 RX3 yX3_pagesOf cX3_pagesOf 4 (some .int) 1 := ⟨ml_X2_45, im_X3_pagesOf, se_X3_pagesOf, in_X3, cd_X3_pagesOf, ⟨by decide +kernel, by decide +kernel, by decide +kernel⟩⟩
theorem lk_X2_59 : LkS RX2 59 yJ9_min_7cf53 cJ9_min_7cf53 2 (some .int) 2 := ⟨ml_X2_59, sm_J9_min_7cf53, in_J9, cd_J9_min_7cf53, ⟨by decide +kernel, by decide +kernel, by decide +kernel⟩⟩
theorem lk_X2_65 : LkV RX2 65 RX2 yX2_nextOrder cX2_nextOrder 6 (some .boolean) 1 := ⟨ml_X2_65, im_X2_nextOrder, se_X2_nextOrder, in_X2, cd_X2_nextOrder, ⟨by decide +kernel, by decide +kernel, by decide +kernel⟩⟩
theorem lk_X2_69 : LkV RX2 69 RX2 yX2_swap cX2_swap 4 none 2 := ⟨ml_X2_69, im_X2_swap, se_X2_swap, in_X2, cd_X2_swap, ⟨by decide +kernel, by decide +kernel, by decide +kernel⟩⟩
theorem lk_L_110 : LkV RL 110 RX6 yX6_lamp cX6_lamp 5 (some .int) 3 := ⟨ml_L_110, im_X6_lamp, se_X6_lamp, in_X6, cd_X6_lamp, ⟨by decide +kernel, by decide +kernel, by decide +kernel⟩⟩
theorem lk_X6_247 : LkV RX6 247 RX2 yX2_bestLamps cX2_bestLamps 9 (some .int) 3 := ⟨ml_X6_247, im_X2_bestLamps, se_X2_bestLamps, in_X2, cd_X2_bestLamps, ⟨by decide +kernel, by decide +kernel, by decide +kernel⟩⟩
theorem lk_X2_78 : LkV RX2 78 RX3 yX3_allBooks cX3_allBooks 1 (some .int) 0 := ⟨ml_X2_78, im_X3_allBooks, se_X3_allBooks, in_X3, cd_X3_allBooks, ⟨by decide +kernel, by decide +kernel, by decide +kernel⟩⟩
theorem lk_X2_81 : LkS RX2 81 yJ6_bitCount_0f7a4 cJ6_bitCount_0f7a4 1 (some .int) 1 := ⟨ml_X2_81, sm_J6_bitCount_0f7a4, in_J6, cd_J6_bitCount_0f7a4, ⟨by decide +kernel, by decide +kernel, by decide +kernel⟩⟩
theorem lk_X2_89 : LkV RX2 89 RX2 yX2_pagesIfLit cX2_pagesIfLit 5 (some .int) 4 := ⟨ml_X2_89, im_X2_pagesIfLit, se_X2_pagesIfLit, in_X2, cd_X2_pagesIfLit, ⟨by decide +kernel, by decide +kernel, by decide +kernel⟩⟩
theorem lk_X6_250 : LkV RX6 250 RX2 yX2_pagesIfLit cX2_pagesIfLit 5 (some .int) 4 := ⟨ml_X6_250, im_X2_pagesIfLit, se_X2_pagesIfLit, in_X2, cd_X2_pagesIfLit, ⟨by decide +kernel, by decide +kernel, by decide +kernel⟩⟩
theorem lk_L_114 : LkV RL 114 RX6 yX6_caught cX6_caught 5 (some .int) 3 := ⟨ml_L_114, im_X6_caught, se_X6_caught, in_X6, cd_X6_caught, ⟨by decide +kernel, by decide +kernel, by decide +kernel⟩⟩
theorem lk_X6_254 : LkV RX6 254 RX2 yX2_fewestCaught cX2_fewestCaught 7 (some .int) 3 := ⟨ml_X6_254, im_X2_fewestCaught, se_X2_fewestCaught, in_X2, cd_X2_fewestCaught, ⟨by decide +kernel, by decide +kernel, by decide +kernel⟩⟩
theorem lk_L_118 : LkV RL 118 RX6 yX6_grams cX6_grams 3 (some .int) 2 := ⟨ml_L_118, im_X6_grams, se_X6_grams, in_X6, cd_X6_grams, ⟨by decide +kernel, by decide +kernel, by decide +kernel⟩⟩
theorem lk_X6_257 : LkV RX6 257 RX3 yX3_gramsOf cX3_gramsOf 7 (some .int) 2 := ⟨ml_X6_257, im_X3_gramsOf, se_X3_gramsOf, in_X3, cd_X3_gramsOf, ⟨by decide +kernel, by decide +kernel, by decide +kernel⟩⟩
theorem lk_X3_80 : LkV RX3 80 RX3 yX3_dustOf cX3_dustOf 4 (some .int) 1 := ⟨ml_X3_80, im_X3_dustOf, se_X3_dustOf, in_X3, cd_X3_dustOf, ⟨by decide +kernel, by decide +kernel, by decide +kernel⟩⟩
theorem lk_X3_83 : LkV RX3 83 RX3 yX3_isFish cX3_isFish 2 (some .boolean) 1 := ⟨ml_X3_83, im_X3_isFish, se_X3_isFish, in_X3, cd_X3_isFish, ⟨by decide +kernel, by decide +kernel, by decide +kernel⟩⟩
theorem lk_L_122 : LkV RL 122 RX6 yX6_who cX6_who 8 (some .int) 6 := ⟨ml_L_122, im_X6_who, se_X6_who, in_X6, cd_X6_who, ⟨by decide +kernel, by decide +kernel, by decide +kernel⟩⟩
theorem lk_X6_260 : LkV RX6 260 RX4 yX4_pick cX4_pick 5 none 3 := ⟨ml_X6_260, im_X4_pick, se_X4_pick, in_X4, cd_X4_pick, ⟨by decide +kernel, by decide +kernel, by decide +kernel⟩⟩
theorem lk_X6_263 : LkV RX6 263 RX2 yX2_kindsThatFit cX2_kindsThatFit 7 (some .int) 4 := ⟨ml_X6_263, im_X2_kindsThatFit, se_X2_kindsThatFit, in_X2, cd_X2_kindsThatFit, ⟨by decide +kernel, by decide +kernel, by decide +kernel⟩⟩
theorem lk_X2_102 : LkV RX2 102 RX2 yX2_fits cX2_fits 4 (some .boolean) 2 := ⟨ml_X2_102, im_X2_fits, se_X2_fits, in_X2, cd_X2_fits, ⟨by decide +kernel, by decide +kernel, by decide +kernel⟩⟩
theorem lk_X2_115 : LkV RX2 115 RX4 yX4_howManyTold cX4_howManyTold 1 (some .int) 0 := ⟨ml_X2_115, im_X4_howManyTold, se_X4_howManyTold, in_X4, cd_X4_howManyTold, ⟨by decide +kernel, by decide +kernel, by decide +kernel⟩⟩
theorem lk_X2_120 : LkV RX2 120 RX4 yX4_told cX4_told 2 (some .int) 1 := ⟨ml_X2_120, im_X4_told, se_X4_told, in_X4, cd_X4_told, ⟨by decide +kernel, by decide +kernel, by decide +kernel⟩⟩
theorem lk_X6_267 : LkV RX6 267 RX2 yX2_placesThatFit cX2_placesThatFit 7 (some .int) 4 := ⟨ml_X6_267, im_X2_placesThatFit, se_X2_placesThatFit, in_X2, cd_X2_placesThatFit, ⟨by decide +kernel, by decide +kernel, by decide +kernel⟩⟩
theorem lk_L_127 : LkV RL 127 RX6 yX6_paste cX6_paste 7 (some .int) 5 := ⟨ml_L_127, im_X6_paste, se_X6_paste, in_X6, cd_X6_paste, ⟨by decide +kernel, by decide +kernel, by decide +kernel⟩⟩
theorem lk_X6_270 : LkV RX6 270 RX2 yX2_pastesThatFit cX2_pastesThatFit 7 (some .int) 4 := ⟨ml_X6_270, im_X2_pastesThatFit, se_X2_pastesThatFit, in_X2, cd_X2_pastesThatFit, ⟨by decide +kernel, by decide +kernel, by decide +kernel⟩⟩
theorem lk_L_131 : LkV RL 131 RX6 yX6_hungers cX6_hungers 6 (some .int) 4 := ⟨ml_L_131, im_X6_hungers, se_X6_hungers, in_X6, cd_X6_hungers, ⟨by decide +kernel, by decide +kernel, by decide +kernel⟩⟩
theorem lk_X6_273 : LkV RX6 273 RX2 yX2_hungersThatFit cX2_hungersThatFit 6 (some .int) 3 := ⟨ml_X6_273, im_X2_hungersThatFit, se_X2_hungersThatFit, in_X2, cd_X2_hungersThatFit, ⟨by decide +kernel, by decide +kernel, by decide +kernel⟩⟩
theorem lk_L_136 : LkV RL 136 RX6 yX6_dark cX6_dark 11 (some .long) 4 := ⟨ml_L_136, im_X6_dark, se_X6_dark, in_X6, cd_X6_dark, ⟨by decide +kernel, by decide +kernel, by decide +kernel⟩⟩
theorem lk_X6_279 : LkV RX6 279 RX2 yX2_casesWithPages cX2_casesWithPages 9 (some .long) 4 := ⟨ml_X6_279, im_X2_casesWithPages, se_X2_casesWithPages, in_X2, cd_X2_casesWithPages, ⟨by decide +kernel, by decide +kernel, by decide +kernel⟩⟩
theorem lk_X6_283 : LkS RX6 283 yX6_power cX6_power 5 (some .long) 2 := ⟨ml_X6_283, sm_X6_power, in_X6, cd_X6_power, ⟨by decide +kernel, by decide +kernel, by decide +kernel⟩⟩
theorem lk_X6_287 : LkS RX6 287 yX6_commonDivisor cX6_commonDivisor 11 (some .long) 2 := ⟨ml_X6_287, sm_X6_commonDivisor, in_X6, cd_X6_commonDivisor, ⟨by decide +kernel, by decide +kernel, by decide +kernel⟩⟩
theorem lk_L_141 : LkV RL 141 RX6 yX6_drawn cX6_drawn 5 (some .int) 3 := ⟨ml_L_141, im_X6_drawn, se_X6_drawn, in_X6, cd_X6_drawn, ⟨by decide +kernel, by decide +kernel, by decide +kernel⟩⟩
theorem lk_X6_292 : LkV RX6 292 RX2 yX2_behindCenturies cX2_behindCenturies 7 (some (.object RX3)) 3 := ⟨ml_X6_292, im_X2_behindCenturies, se_X2_behindCenturies, in_X2, cd_X2_behindCenturies, ⟨by decide +kernel, by decide +kernel, by decide +kernel⟩⟩
theorem lk_X2_131 : LkV RX2 131 RX2 yX2_drawLamp cX2_drawLamp 5 none 1 := ⟨ml_X2_131, im_X2_drawLamp, se_X2_drawLamp, in_X2, cd_X2_drawLamp, ⟨by decide +kernel, by decide +kernel, by decide +kernel⟩⟩
theorem lk_L_145 : LkV RL 145 RX6 yX6_image cX6_image 2 (some .int) 1 := ⟨ml_L_145, im_X6_image, se_X6_image, in_X6, cd_X6_image, ⟨by decide +kernel, by decide +kernel, by decide +kernel⟩⟩
theorem lk_L_149 : LkV RL 149 RX6 yX6_restore cX6_restore 3 (some .int) 1 := ⟨ml_L_149, im_X6_restore, se_X6_restore, in_X6, cd_X6_restore, ⟨by decide +kernel, by decide +kernel, by decide +kernel⟩⟩
theorem lk_L_153 : LkV RL 153 RX6 yX6_kind cX6_kind 2 (some .int) 1 := ⟨ml_L_153, im_X6_kind, se_X6_kind, in_X6, cd_X6_kind, ⟨by decide +kernel, by decide +kernel, by decide +kernel⟩⟩
theorem lk_L_157 : LkV RL 157 RX6 yX6_as cX6_as 3 (some .int) 2 := ⟨ml_L_157, im_X6_as, se_X6_as, in_X6, cd_X6_as, ⟨by decide +kernel, by decide +kernel, by decide +kernel⟩⟩
theorem lk_X6_302 : LkS RX6 302 yX6_isKind cX6_isKind 4 (some .boolean) 2 := ⟨ml_X6_302, sm_X6_isKind, in_X6, cd_X6_isKind, ⟨by decide +kernel, by decide +kernel, by decide +kernel⟩⟩
theorem lk_L_161 : LkV RL 161 RX6 yX6_ask cX6_ask 3 (some .int) 2 := ⟨ml_L_161, im_X6_ask, se_X6_ask, in_X6, cd_X6_ask, ⟨by decide +kernel, by decide +kernel, by decide +kernel⟩⟩
theorem lk_X6_306 : LkV RX6 306 RX1 yX1_begin cX1_begin 5 none 4 := ⟨ml_X6_306, im_X1_begin, se_X1_begin, in_X1, cd_X1_begin, ⟨by decide +kernel, by decide +kernel, by decide +kernel⟩⟩
theorem lk_X6_310 : LkV RX6 310 RX1 yX1_sizeAsked cX1_sizeAsked 1 (some .int) 0 := ⟨ml_X6_310, im_X1_sizeAsked, se_X1_sizeAsked, in_X1, cd_X1_sizeAsked, ⟨by decide +kernel, by decide +kernel, by decide +kernel⟩⟩
theorem lk_X1_36 : LkV RX1 36 RX1 yX1_sizeOfWanderer cX1_sizeOfWanderer 3 (some .int) 0 := ⟨ml_X1_36, im_X1_sizeOfWanderer, se_X1_sizeOfWanderer, in_X1, cd_X1_sizeOfWanderer, ⟨by decide +kernel, by decide +kernel, by decide +kernel⟩⟩
theorem lk_X1_49 : LkV RX1 49 RX1 yX1_leave cX1_leave 2 none 1 := ⟨ml_X1_49, im_X1_leave, se_X1_leave, in_X1, cd_X1_leave, ⟨by decide +kernel, by decide +kernel, by decide +kernel⟩⟩
theorem lk_X1_40 : LkV RX1 40 RX1 yX1_sizeOfReader cX1_sizeOfReader 3 (some .int) 0 := ⟨ml_X1_40, im_X1_sizeOfReader, se_X1_sizeOfReader, in_X1, cd_X1_sizeOfReader, ⟨by decide +kernel, by decide +kernel, by decide +kernel⟩⟩
theorem lk_X1_46 : LkV RX1 46 RX1 yX1_markOfReader cX1_markOfReader 4 (some .int) 0 := ⟨ml_X1_46, im_X1_markOfReader, se_X1_markOfReader, in_X1, cd_X1_markOfReader, ⟨by decide +kernel, by decide +kernel, by decide +kernel⟩⟩
theorem lk_X6_313 : LkV RX6 313 RX1 yX1_markAsked cX1_markAsked 1 (some .int) 0 := ⟨ml_X6_313, im_X1_markAsked, se_X1_markAsked, in_X1, cd_X1_markAsked, ⟨by decide +kernel, by decide +kernel, by decide +kernel⟩⟩
theorem lk_X1_43 : LkV RX1 43 RX1 yX1_markOfWanderer cX1_markOfWanderer 1 (some .int) 0 := ⟨ml_X1_43, im_X1_markOfWanderer, se_X1_markOfWanderer, in_X1, cd_X1_markOfWanderer, ⟨by decide +kernel, by decide +kernel, by decide +kernel⟩⟩
theorem lk_L_165 : LkV RL 165 RX6 yX6_trace cX6_trace 2 (some .int) 1 := ⟨ml_L_165, im_X6_trace, se_X6_trace, in_X6, cd_X6_trace, ⟨by decide +kernel, by decide +kernel, by decide +kernel⟩⟩
theorem lk_X6_316 : LkV RX6 316 RX1 yX1_left cX1_left 2 (some .int) 1 := ⟨ml_X6_316, im_X1_left, se_X1_left, in_X1, cd_X1_left, ⟨by decide +kernel, by decide +kernel, by decide +kernel⟩⟩
theorem lk_L_169 : LkV RL 169 RX6 yX6_count cX6_count 2 (some .int) 1 := ⟨ml_L_169, im_X6_count, se_X6_count, in_X6, cd_X6_count, ⟨by decide +kernel, by decide +kernel, by decide +kernel⟩⟩
theorem lk_X6_319 : LkV RX6 319 RX4 yX4_standing cX4_standing 3 (some .int) 0 := ⟨ml_X6_319, im_X4_standing, se_X4_standing, in_X4, cd_X4_standing, ⟨by decide +kernel, by decide +kernel, by decide +kernel⟩⟩
theorem lk_X6_322 : LkV RX6 322 RX3 yX3_dustOf cX3_dustOf 4 (some .int) 1 := ⟨ml_X6_322, im_X3_dustOf, se_X3_dustOf, in_X3, cd_X3_dustOf, ⟨by decide +kernel, by decide +kernel, by decide +kernel⟩⟩
theorem lk_L_173 : LkV RL 173 RX6 yX6_status cX6_status 1 (some .int) 0 := ⟨ml_L_173, im_X6_status, se_X6_status, in_X6, cd_X6_status, ⟨by decide +kernel, by decide +kernel, by decide +kernel⟩⟩
theorem lk_L_17 : LkV RL 17 RX7 yX7_row cX7_row 5 (some .int) 3 := ⟨ml_L_17, im_X7_row, se_X7_row, in_X7, cd_X7_row, ⟨by decide +kernel, by decide +kernel, by decide +kernel⟩⟩
theorem lk_X7_67 : LkS RX7 67 yX7_isRow cX7_isRow 1 (some .boolean) 1 := ⟨ml_X7_67, sm_X7_isRow, in_X7, cd_X7_isRow, ⟨by decide +kernel, by decide +kernel, by decide +kernel⟩⟩
theorem lk_X7_63 : LkS RX7 63 yX7_in cX7_in 6 (some .boolean) 3 := ⟨ml_X7_63, sm_X7_in, in_X7, cd_X7_in, ⟨by decide +kernel, by decide +kernel, by decide +kernel⟩⟩
theorem lk_X7_74 : LkV RX7 74 RX7 yX7_find cX7_find 2 (some .int) 1 := ⟨ml_X7_74, im_X7_find, se_X7_find, in_X7, cd_X7_find, ⟨by decide +kernel, by decide +kernel, by decide +kernel⟩⟩
theorem lk_X7_78 : LkV RX7 78 RX7 yX7_well cX7_well 2 (some .int) 1 := ⟨ml_X7_78, im_X7_well, se_X7_well, in_X7, cd_X7_well, ⟨by decide +kernel, by decide +kernel, by decide +kernel⟩⟩
theorem lk_L_21 : LkV RL 21 RX7 yX7_set cX7_set 4 (some .int) 3 := ⟨ml_L_21, im_X7_set, se_X7_set, in_X7, cd_X7_set, ⟨by decide +kernel, by decide +kernel, by decide +kernel⟩⟩
theorem lk_X7_81 : LkS RX7 81 yX7_asLane cX7_asLane 2 (some .int) 2 := ⟨ml_X7_81, sm_X7_asLane, in_X7, cd_X7_asLane, ⟨by decide +kernel, by decide +kernel, by decide +kernel⟩⟩
theorem lk_L_26 : LkV RL 26 RX7 yX7_copy cX7_copy 7 (some .int) 5 := ⟨ml_L_26, im_X7_copy, se_X7_copy, in_X7, cd_X7_copy, ⟨by decide +kernel, by decide +kernel, by decide +kernel⟩⟩
theorem lk_L_31 : LkV RL 31 RX7 yX7_drop cX7_drop 3 (some .int) 1 := ⟨ml_L_31, im_X7_drop, se_X7_drop, in_X7, cd_X7_drop, ⟨by decide +kernel, by decide +kernel, by decide +kernel⟩⟩
theorem lk_L_35 : LkV RL 35 RX7 yX7_feed cX7_feed 2 (some .int) 1 := ⟨ml_L_35, im_X7_feed, se_X7_feed, in_X7, cd_X7_feed, ⟨by decide +kernel, by decide +kernel, by decide +kernel⟩⟩
theorem lk_L_40 : LkV RL 40 RX7 yX7_library cX7_library 3 (some .int) 0 := ⟨ml_L_40, im_X7_library, se_X7_library, in_X7, cd_X7_library, ⟨by decide +kernel, by decide +kernel, by decide +kernel⟩⟩
theorem lk_X7_140 : LkV RX7 140 RX7 yX7_readLibrary cX7_readLibrary 3 (some .boolean) 0 := ⟨ml_X7_140, im_X7_readLibrary, se_X7_readLibrary, in_X7, cd_X7_readLibrary, ⟨by decide +kernel, by decide +kernel, by decide +kernel⟩⟩
theorem lk_X7_120 : LkV RX7 120 RX7 yX7_nextToken cX7_nextToken 1 none 0 := ⟨ml_X7_120, im_X7_nextToken, se_X7_nextToken, in_X7, cd_X7_nextToken, ⟨by decide +kernel, by decide +kernel, by decide +kernel⟩⟩
theorem lk_X7_123 : LkV RX7 123 RX7 yX7_takes cX7_takes 2 (some .boolean) 1 := ⟨ml_X7_123, im_X7_takes, se_X7_takes, in_X7, cd_X7_takes, ⟨by decide +kernel, by decide +kernel, by decide +kernel⟩⟩
theorem lk_X7_114 : LkV RX7 114 RX7 yX7_isLetter cX7_isLetter 2 (some .boolean) 1 := ⟨ml_X7_114, im_X7_isLetter, se_X7_isLetter, in_X7, cd_X7_isLetter, ⟨by decide +kernel, by decide +kernel, by decide +kernel⟩⟩
theorem lk_X7_117 : LkV RX7 117 RX7 yX7_faults cX7_faults 2 (some .boolean) 1 := ⟨ml_X7_117, im_X7_faults, se_X7_faults, in_X7, cd_X7_faults, ⟨by decide +kernel, by decide +kernel, by decide +kernel⟩⟩
theorem lk_X7_126 : LkV RX7 126 RX7 yX7_takesNumber cX7_takesNumber 5 (some .boolean) 4 := ⟨ml_X7_126, im_X7_takesNumber, se_X7_takesNumber, in_X7, cd_X7_takesNumber, ⟨by decide +kernel, by decide +kernel, by decide +kernel⟩⟩
theorem lk_X7_130 : LkS RX7 130 yX7_kindBy cX7_kindBy 1 (some .int) 1 := ⟨ml_X7_130, sm_X7_kindBy, in_X7, cd_X7_kindBy, ⟨by decide +kernel, by decide +kernel, by decide +kernel⟩⟩
theorem lk_X7_133 : LkV RX7 133 RX7 yX7_readFish cX7_readFish 3 (some .boolean) 1 := ⟨ml_X7_133, im_X7_readFish, se_X7_readFish, in_X7, cd_X7_readFish, ⟨by decide +kernel, by decide +kernel, by decide +kernel⟩⟩
theorem lk_X7_136 : LkV RX7 136 RX7 yX7_readBook cX7_readBook 2 (some .boolean) 0 := ⟨ml_X7_136, im_X7_readBook, se_X7_readBook, in_X7, cd_X7_readBook, ⟨by decide +kernel, by decide +kernel, by decide +kernel⟩⟩
theorem lk_L_44 : LkV RL 44 RX7 yX7_fault cX7_fault 1 (some .int) 0 := ⟨ml_L_44, im_X7_fault, se_X7_fault, in_X7, cd_X7_fault, ⟨by decide +kernel, by decide +kernel, by decide +kernel⟩⟩
theorem lk_L_48 : LkV RL 48 RX7 yX7_undo cX7_undo 2 (some .int) 0 := ⟨ml_L_48, im_X7_undo, se_X7_undo, in_X7, cd_X7_undo, ⟨by decide +kernel, by decide +kernel, by decide +kernel⟩⟩
theorem lk_L_52 : LkV RL 52 RX7 yX7_nights cX7_nights 3 (some .int) 1 := ⟨ml_L_52, im_X7_nights, se_X7_nights, in_X7, cd_X7_nights, ⟨by decide +kernel, by decide +kernel, by decide +kernel⟩⟩
theorem lk_X7_184 : LkV RX7 184 RX7 yX7_note cX7_note 2 none 0 := ⟨ml_X7_184, im_X7_note, se_X7_note, in_X7, cd_X7_note, ⟨by decide +kernel, by decide +kernel, by decide +kernel⟩⟩
theorem lk_X7_187 : LkV RX7 187 RX7 yX7_oneNight cX7_oneNight 2 none 0 := ⟨ml_X7_187, im_X7_oneNight, se_X7_oneNight, in_X7, cd_X7_oneNight, ⟨by decide +kernel, by decide +kernel, by decide +kernel⟩⟩
theorem lk_X7_171 : LkV RX7 171 RX7 yX7_isCaught cX7_isCaught 2 (some .boolean) 1 := ⟨ml_X7_171, im_X7_isCaught, se_X7_isCaught, in_X7, cd_X7_isCaught, ⟨by decide +kernel, by decide +kernel, by decide +kernel⟩⟩
theorem lk_X7_154 : LkS RX7 154 yX7_has cX7_has 2 (some .boolean) 2 := ⟨ml_X7_154, sm_X7_has, in_X7, cd_X7_has, ⟨by decide +kernel, by decide +kernel, by decide +kernel⟩⟩
theorem lk_X7_174 : LkV RX7 174 RX7 yX7_goesTo cX7_goesTo 6 (some .int) 1 := ⟨ml_X7_174, im_X7_goesTo, se_X7_goesTo, in_X7, cd_X7_goesTo, ⟨by decide +kernel, by decide +kernel, by decide +kernel⟩⟩
theorem lk_X7_159 : LkV RX7 159 RX7 yX7_bookAt cX7_bookAt 3 (some .int) 1 := ⟨ml_X7_159, im_X7_bookAt, se_X7_bookAt, in_X7, cd_X7_bookAt, ⟨by decide +kernel, by decide +kernel, by decide +kernel⟩⟩
theorem lk_X7_168 : LkV RX7 168 RX7 yX7_likedBy cX7_likedBy 7 (some .int) 1 := ⟨ml_X7_168, im_X7_likedBy, se_X7_likedBy, in_X7, cd_X7_likedBy, ⟨by decide +kernel, by decide +kernel, by decide +kernel⟩⟩
theorem lk_X7_162 : LkV RX7 162 RX7 yX7_likes cX7_likes 5 (some .int) 2 := ⟨ml_X7_162, im_X7_likes, se_X7_likes, in_X7, cd_X7_likes, ⟨by decide +kernel, by decide +kernel, by decide +kernel⟩⟩
theorem lk_X7_165 : LkV RX7 165 RX7 yX7_isShut cX7_isShut 2 (some .boolean) 1 := ⟨ml_X7_165, im_X7_isShut, se_X7_isShut, in_X7, cd_X7_isShut, ⟨by decide +kernel, by decide +kernel, by decide +kernel⟩⟩
theorem lk_X7_177 : LkV RX7 177 RX7 yX7_eats cX7_eats 4 none 1 := ⟨ml_X7_177, im_X7_eats, se_X7_eats, in_X7, cd_X7_eats, ⟨by decide +kernel, by decide +kernel, by decide +kernel⟩⟩
theorem lk_X7_190 : LkV RX7 190 RX7 yX7_allPages cX7_allPages 3 (some .int) 0 := ⟨ml_X7_190, im_X7_allPages, se_X7_allPages, in_X7, cd_X7_allPages, ⟨by decide +kernel, by decide +kernel, by decide +kernel⟩⟩
theorem lk_L_57 : LkV RL 57 RX7 yX7_light cX7_light 3 (some .int) 2 := ⟨ml_L_57, im_X7_light, se_X7_light, in_X7, cd_X7_light, ⟨by decide +kernel, by decide +kernel, by decide +kernel⟩⟩
theorem lk_X7_194 : LkV RX7 194 RX7 yX7_isBook cX7_isBook 2 (some .boolean) 1 := ⟨ml_X7_194, im_X7_isBook, se_X7_isBook, in_X7, cd_X7_isBook, ⟨by decide +kernel, by decide +kernel, by decide +kernel⟩⟩
theorem lk_X7_197 : LkS RX7 197 yX7_ones cX7_ones 3 (some .int) 1 := ⟨ml_X7_197, sm_X7_ones, in_X7, cd_X7_ones, ⟨by decide +kernel, by decide +kernel, by decide +kernel⟩⟩
theorem lk_L_61 : LkV RL 61 RX7 yX7_keepIt cX7_keepIt 3 (some .int) 2 := ⟨ml_L_61, im_X7_keepIt, se_X7_keepIt, in_X7, cd_X7_keepIt, ⟨by decide +kernel, by decide +kernel, by decide +kernel⟩⟩
theorem lk_L_65 : LkV RL 65 RX7 yX7_change cX7_change 4 (some .int) 2 := ⟨ml_L_65, im_X7_change, se_X7_change, in_X7, cd_X7_change, ⟨by decide +kernel, by decide +kernel, by decide +kernel⟩⟩
theorem lk_L_69 : LkV RL 69 RX7 yX7_move cX7_move 4 (some .int) 2 := ⟨ml_L_69, im_X7_move, se_X7_move, in_X7, cd_X7_move, ⟨by decide +kernel, by decide +kernel, by decide +kernel⟩⟩
theorem lk_X7_200 : LkV RX7 200 RX7 yX7_isFish cX7_isFish 2 (some .boolean) 1 := ⟨ml_X7_200, im_X7_isFish, se_X7_isFish, in_X7, cd_X7_isFish, ⟨by decide +kernel, by decide +kernel, by decide +kernel⟩⟩
theorem lk_L_73 : LkV RL 73 RX7 yX7_catchIt cX7_catchIt 2 (some .int) 1 := ⟨ml_L_73, im_X7_catchIt, se_X7_catchIt, in_X7, cd_X7_catchIt, ⟨by decide +kernel, by decide +kernel, by decide +kernel⟩⟩
theorem lk_L_77 : LkV RL 77 RX7 yX7_book cX7_book 3 (some .int) 2 := ⟨ml_L_77, im_X7_book, se_X7_book, in_X7, cd_X7_book, ⟨by decide +kernel, by decide +kernel, by decide +kernel⟩⟩
theorem lk_X7_203 : LkV RX7 203 RX7 yX7_fishAt cX7_fishAt 4 (some .int) 1 := ⟨ml_X7_203, im_X7_fishAt, se_X7_fishAt, in_X7, cd_X7_fishAt, ⟨by decide +kernel, by decide +kernel, by decide +kernel⟩⟩
theorem lk_L_81 : LkV RL 81 RX7 yX7_fish cX7_fish 3 (some .int) 2 := ⟨ml_L_81, im_X7_fish, se_X7_fish, in_X7, cd_X7_fish, ⟨by decide +kernel, by decide +kernel, by decide +kernel⟩⟩
theorem lk_L_85 : LkV RL 85 RX7 yX7_stand cX7_stand 2 (some .int) 1 := ⟨ml_L_85, im_X7_stand, se_X7_stand, in_X7, cd_X7_stand, ⟨by decide +kernel, by decide +kernel, by decide +kernel⟩⟩
theorem lk_L_89 : LkV RL 89 RX7 yX7_ahead cX7_ahead 5 (some .int) 3 := ⟨ml_L_89, im_X7_ahead, se_X7_ahead, in_X7, cd_X7_ahead, ⟨by decide +kernel, by decide +kernel, by decide +kernel⟩⟩
theorem lk_X7_216 : LkS RX7 216 yX7_isWhat cX7_isWhat 1 (some .boolean) 1 := ⟨ml_X7_216, sm_X7_isWhat, in_X7, cd_X7_isWhat, ⟨by decide +kernel, by decide +kernel, by decide +kernel⟩⟩
theorem lk_X7_219 : LkV RX7 219 RX7 yX7_putAside cX7_putAside 2 none 0 := ⟨ml_X7_219, im_X7_putAside, se_X7_putAside, in_X7, cd_X7_putAside, ⟨by decide +kernel, by decide +kernel, by decide +kernel⟩⟩
theorem lk_X7_208 : LkV RX7 208 RX7 yX7_goOn cX7_goOn 3 none 1 := ⟨ml_X7_208, im_X7_goOn, se_X7_goOn, in_X7, cd_X7_goOn, ⟨by decide +kernel, by decide +kernel, by decide +kernel⟩⟩
theorem lk_X7_211 : LkV RX7 211 RX7 yX7_takeBack cX7_takeBack 2 none 0 := ⟨ml_X7_211, im_X7_takeBack, se_X7_takeBack, in_X7, cd_X7_takeBack, ⟨by decide +kernel, by decide +kernel, by decide +kernel⟩⟩
theorem lk_L_93 : LkV RL 93 RX7 yX7_later cX7_later 5 (some .int) 3 := ⟨ml_L_93, im_X7_later, se_X7_later, in_X7, cd_X7_later, ⟨by decide +kernel, by decide +kernel, by decide +kernel⟩⟩
theorem lk_L_97 : LkV RL 97 RX7 yX7_when cX7_when 4 (some .int) 1 := ⟨ml_L_97, im_X7_when, se_X7_when, in_X7, cd_X7_when, ⟨by decide +kernel, by decide +kernel, by decide +kernel⟩⟩
theorem lk_L_101 : LkV RL 101 RX7 yX7_first cX7_first 5 (some .int) 1 := ⟨ml_L_101, im_X7_first, se_X7_first, in_X7, cd_X7_first, ⟨by decide +kernel, by decide +kernel, by decide +kernel⟩⟩
theorem lk_X7_222 : LkV RX7 222 RX7 yX7_emptySet cX7_emptySet 3 (some .int) 0 := ⟨ml_X7_222, im_X7_emptySet, se_X7_emptySet, in_X7, cd_X7_emptySet, ⟨by decide +kernel, by decide +kernel, by decide +kernel⟩⟩
theorem lk_X7_225 : LkS RX7 225 yX7_least cX7_least 2 (some .int) 1 := ⟨ml_X7_225, sm_X7_least, in_X7, cd_X7_least, ⟨by decide +kernel, by decide +kernel, by decide +kernel⟩⟩
theorem lk_L_105 : LkV RL 105 RX7 yX7_hole cX7_hole 3 (some .int) 2 := ⟨ml_L_105, im_X7_hole, se_X7_hole, in_X7, cd_X7_hole, ⟨by decide +kernel, by decide +kernel, by decide +kernel⟩⟩
theorem lk_L_109 : LkV RL 109 RX7 yX7_order cX7_order 8 (some .int) 3 := ⟨ml_L_109, im_X7_order, se_X7_order, in_X7, cd_X7_order, ⟨by decide +kernel, by decide +kernel, by decide +kernel⟩⟩
theorem lk_X7_236 : LkV RX7 236 RX7 yX7_pagesOf cX7_pagesOf 4 (some .int) 1 := ⟨ml_X7_236, im_X7_pagesOf, se_X7_pagesOf, in_X7, cd_X7_pagesOf, ⟨by decide +kernel, by decide +kernel, by decide +kernel⟩⟩
theorem lk_X7_239 : LkV RX7 239 RX7 yX7_isNext cX7_isNext 6 (some .boolean) 1 := ⟨ml_X7_239, im_X7_isNext, se_X7_isNext, in_X7, cd_X7_isNext, ⟨by decide +kernel, by decide +kernel, by decide +kernel⟩⟩
theorem lk_X7_228 : LkV RX7 228 RX7 yX7_exchange cX7_exchange 4 none 2 := ⟨ml_X7_228, im_X7_exchange, se_X7_exchange, in_X7, cd_X7_exchange, ⟨by decide +kernel, by decide +kernel, by decide +kernel⟩⟩
theorem lk_L_113 : LkV RL 113 RX7 yX7_lamp cX7_lamp 8 (some .int) 3 := ⟨ml_L_113, im_X7_lamp, se_X7_lamp, in_X7, cd_X7_lamp, ⟨by decide +kernel, by decide +kernel, by decide +kernel⟩⟩
theorem lk_X7_242 : LkV RX7 242 RX7 yX7_pagesBehind cX7_pagesBehind 4 (some .int) 2 := ⟨ml_X7_242, im_X7_pagesBehind, se_X7_pagesBehind, in_X7, cd_X7_pagesBehind, ⟨by decide +kernel, by decide +kernel, by decide +kernel⟩⟩
theorem lk_L_117 : LkV RL 117 RX7 yX7_caught cX7_caught 6 (some .int) 3 := ⟨ml_L_117, im_X7_caught, se_X7_caught, in_X7, cd_X7_caught, ⟨by decide +kernel, by decide +kernel, by decide +kernel⟩⟩
theorem lk_L_121 : LkV RL 121 RX7 yX7_grams cX7_grams 7 (some .int) 2 := ⟨ml_L_121, im_X7_grams, se_X7_grams, in_X7, cd_X7_grams, ⟨by decide +kernel, by decide +kernel, by decide +kernel⟩⟩
theorem lk_X7_247 : LkV RX7 247 RX7 yX7_dustOf cX7_dustOf 2 (some .int) 1 := ⟨ml_X7_247, im_X7_dustOf, se_X7_dustOf, in_X7, cd_X7_dustOf, ⟨by decide +kernel, by decide +kernel, by decide +kernel⟩⟩
theorem lk_L_126 : LkV RL 126 RX7 yX7_who cX7_who 8 (some .int) 6 := ⟨ml_L_126, im_X7_who, se_X7_who, in_X7, cd_X7_who, ⟨by decide +kernel, by decide +kernel, by decide +kernel⟩⟩
theorem lk_X7_254 : LkV RX7 254 RX7 yX7_lacks cX7_lacks 4 (some .int) 3 := ⟨ml_X7_254, im_X7_lacks, se_X7_lacks, in_X7, cd_X7_lacks, ⟨by decide +kernel, by decide +kernel, by decide +kernel⟩⟩
theorem lk_X7_258 : LkV RX7 258 RX7 yX7_fits cX7_fits 9 (some .int) 6 := ⟨ml_X7_258, im_X7_fits, se_X7_fits, in_X7, cd_X7_fits, ⟨by decide +kernel, by decide +kernel, by decide +kernel⟩⟩
theorem lk_X7_250 : LkV RX7 250 RX7 yX7_isSo cX7_isSo 6 (some .boolean) 3 := ⟨ml_X7_250, im_X7_isSo, se_X7_isSo, in_X7, cd_X7_isSo, ⟨by decide +kernel, by decide +kernel, by decide +kernel⟩⟩
theorem lk_L_130 : LkV RL 130 RX7 yX7_paste cX7_paste 7 (some .int) 5 := ⟨ml_L_130, im_X7_paste, se_X7_paste, in_X7, cd_X7_paste, ⟨by decide +kernel, by decide +kernel, by decide +kernel⟩⟩
theorem lk_L_135 : LkV RL 135 RX7 yX7_hungers cX7_hungers 6 (some .int) 4 := ⟨ml_L_135, im_X7_hungers, se_X7_hungers, in_X7, cd_X7_hungers, ⟨by decide +kernel, by decide +kernel, by decide +kernel⟩⟩
theorem lk_L_140 : LkV RL 140 RX7 yX7_dark cX7_dark 16 (some .long) 4 := ⟨ml_L_140, im_X7_dark, se_X7_dark, in_X7, cd_X7_dark, ⟨by decide +kernel, by decide +kernel, by decide +kernel⟩⟩
theorem lk_L_144 : LkV RL 144 RX7 yX7_drawn cX7_drawn 8 (some .int) 3 := ⟨ml_L_144, im_X7_drawn, se_X7_drawn, in_X7, cd_X7_drawn, ⟨by decide +kernel, by decide +kernel, by decide +kernel⟩⟩
theorem lk_L_148 : LkV RL 148 RX7 yX7_image cX7_image 3 (some .int) 1 := ⟨ml_L_148, im_X7_image, se_X7_image, in_X7, cd_X7_image, ⟨by decide +kernel, by decide +kernel, by decide +kernel⟩⟩
theorem lk_L_152 : LkV RL 152 RX7 yX7_restore cX7_restore 3 (some .int) 1 := ⟨ml_L_152, im_X7_restore, se_X7_restore, in_X7, cd_X7_restore, ⟨by decide +kernel, by decide +kernel, by decide +kernel⟩⟩
theorem lk_L_156 : LkV RL 156 RX7 yX7_kind cX7_kind 2 (some .int) 1 := ⟨ml_L_156, im_X7_kind, se_X7_kind, in_X7, cd_X7_kind, ⟨by decide +kernel, by decide +kernel, by decide +kernel⟩⟩
theorem lk_L_160 : LkV RL 160 RX7 yX7_as cX7_as 3 (some .int) 2 := ⟨ml_L_160, im_X7_as, se_X7_as, in_X7, cd_X7_as, ⟨by decide +kernel, by decide +kernel, by decide +kernel⟩⟩
theorem lk_X7_274 : LkS RX7 274 yX7_isKind cX7_isKind 2 (some .boolean) 2 := ⟨ml_X7_274, sm_X7_isKind, in_X7, cd_X7_isKind, ⟨by decide +kernel, by decide +kernel, by decide +kernel⟩⟩
theorem lk_L_164 : LkV RL 164 RX7 yX7_ask cX7_ask 3 (some .int) 2 := ⟨ml_L_164, im_X7_ask, se_X7_ask, in_X7, cd_X7_ask, ⟨by decide +kernel, by decide +kernel, by decide +kernel⟩⟩
theorem lk_X7_301 : LkV RX7 301 RX7 yX7_sizeOf cX7_sizeOf 3 (some .int) 1 := ⟨ml_X7_301, im_X7_sizeOf, se_X7_sizeOf, in_X7, cd_X7_sizeOf, ⟨by decide +kernel, by decide +kernel, by decide +kernel⟩⟩
theorem lk_X7_280 : LkV RX7 280 RX7 yX7_begin cX7_begin 2 none 1 := ⟨ml_X7_280, im_X7_begin, se_X7_begin, in_X7, cd_X7_begin, ⟨by decide +kernel, by decide +kernel, by decide +kernel⟩⟩
theorem lk_X7_298 : LkV RX7 298 RX7 yX7_readerSize cX7_readerSize 3 (some .int) 1 := ⟨ml_X7_298, im_X7_readerSize, se_X7_readerSize, in_X7, cd_X7_readerSize, ⟨by decide +kernel, by decide +kernel, by decide +kernel⟩⟩
theorem lk_X7_283 : LkV RX7 283 RX7 yX7_lent cX7_lent 3 (some .int) 2 := ⟨ml_X7_283, im_X7_lent, se_X7_lent, in_X7, cd_X7_lent, ⟨by decide +kernel, by decide +kernel, by decide +kernel⟩⟩
theorem lk_X7_295 : LkV RX7 295 RX7 yX7_markOf cX7_markOf 4 (some .int) 1 := ⟨ml_X7_295, im_X7_markOf, se_X7_markOf, in_X7, cd_X7_markOf, ⟨by decide +kernel, by decide +kernel, by decide +kernel⟩⟩
theorem lk_X7_289 : LkV RX7 289 RX7 yX7_readerMark cX7_readerMark 2 (some .int) 1 := ⟨ml_X7_289, im_X7_readerMark, se_X7_readerMark, in_X7, cd_X7_readerMark, ⟨by decide +kernel, by decide +kernel, by decide +kernel⟩⟩
theorem lk_X7_292 : LkV RX7 292 RX7 yX7_sizeOfWanderer cX7_sizeOfWanderer 2 (some .int) 1 := ⟨ml_X7_292, im_X7_sizeOfWanderer, se_X7_sizeOfWanderer, in_X7, cd_X7_sizeOfWanderer, ⟨by decide +kernel, by decide +kernel, by decide +kernel⟩⟩
theorem lk_X7_286 : LkV RX7 286 RX7 yX7_wandererSize cX7_wandererSize 2 (some .int) 1 := ⟨ml_X7_286, im_X7_wandererSize, se_X7_wandererSize, in_X7, cd_X7_wandererSize, ⟨by decide +kernel, by decide +kernel, by decide +kernel⟩⟩
theorem lk_L_168 : LkV RL 168 RX7 yX7_trace cX7_trace 2 (some .int) 1 := ⟨ml_L_168, im_X7_trace, se_X7_trace, in_X7, cd_X7_trace, ⟨by decide +kernel, by decide +kernel, by decide +kernel⟩⟩
theorem lk_L_172 : LkV RL 172 RX7 yX7_count cX7_count 5 (some .int) 1 := ⟨ml_L_172, im_X7_count, se_X7_count, in_X7, cd_X7_count, ⟨by decide +kernel, by decide +kernel, by decide +kernel⟩⟩
theorem lk_L_176 : LkV RL 176 RX7 yX7_status cX7_status 1 (some .int) 0 := ⟨ml_L_176, im_X7_status, se_X7_status, in_X7, cd_X7_status, ⟨by decide +kernel, by decide +kernel, by decide +kernel⟩⟩
theorem lk_X2_123 {G : Gw} : LkN G RX2 123 yX6_power RX6 cX6_power 5 (some .long) 2 := ⟨fun U h => h.2.2.2.2.1, sm_X6_power, in_X6, cd_X6_power, ⟨by decide +kernel, by decide +kernel, by decide +kernel⟩⟩
theorem lk_X1_32 {G : Gw} : LkN G RX1 32 yX6_isKind RX6 cX6_isKind 4 (some .boolean) 2 := ⟨fun U h => h.2.2.2.2.2.1, sm_X6_isKind, in_X6, cd_X6_isKind, ⟨by decide +kernel, by decide +kernel, by decide +kernel⟩⟩
end
