section
-- ===== PART A: goes FIRST, ahead of the names: the tables' words, and 'selects' of the private methods out of them =====
/-- a private method of a class that the tables say can be made, by its rows of tables_1 -/
def lw_okq (q : MethodName × Nat) : Prop := (q.1.cls ≠ "java/lang/invoke/MethodHandle" ∧ q.1.cls ≠ "java/lang/invoke/VarHandle") ∧ Cond.instantiable q.1.cls q.2 ∈ tables_1 ∧ Cond.privateMethod q.1 ∈ tables_1 ∧ Cond.instanceMethod q.1 ∈ tables_1
theorem lw_p0 : lw_okq (⟨"RansomHymn$Tokens", "packWords", "(Ljava/lang/String;I)V"⟩, 9) := ⟨⟨by decide +kernel, by decide +kernel⟩, List.mem_of_getElem? (i := 218) (by decide +kernel), List.mem_of_getElem? (i := 225) (by decide +kernel), List.mem_of_getElem? (i := 226) (by decide +kernel)⟩
theorem lw_p1 : lw_okq (⟨"RansomHymn", "tapeNumber", "(I)V"⟩, 15) := ⟨⟨by decide +kernel, by decide +kernel⟩, List.mem_of_getElem? (i := 29) (by decide +kernel), List.mem_of_getElem? (i := 607) (by decide +kernel), List.mem_of_getElem? (i := 608) (by decide +kernel)⟩
theorem lw_p2 : lw_okq (⟨"RansomHymn$Tokens", "readWord", "()V"⟩, 9) := ⟨⟨by decide +kernel, by decide +kernel⟩, List.mem_of_getElem? (i := 218) (by decide +kernel), List.mem_of_getElem? (i := 642) (by decide +kernel), List.mem_of_getElem? (i := 643) (by decide +kernel)⟩
theorem lw_p3 : lw_okq (⟨"RansomHymn$Tokens", "readNumber", "()V"⟩, 9) := ⟨⟨by decide +kernel, by decide +kernel⟩, List.mem_of_getElem? (i := 218) (by decide +kernel), List.mem_of_getElem? (i := 649) (by decide +kernel), List.mem_of_getElem? (i := 650) (by decide +kernel)⟩
theorem lw_p4 : lw_okq (⟨"RansomHymn$Tokens", "readSign", "()V"⟩, 9) := ⟨⟨by decide +kernel, by decide +kernel⟩, List.mem_of_getElem? (i := 218) (by decide +kernel), List.mem_of_getElem? (i := 654) (by decide +kernel), List.mem_of_getElem? (i := 655) (by decide +kernel)⟩
theorem lw_p5 : lw_okq (⟨"RansomHymn$Teller", "readTavern", "()V"⟩, 4) := ⟨⟨by decide +kernel, by decide +kernel⟩, List.mem_of_getElem? (i := 216) (by decide +kernel), List.mem_of_getElem? (i := 661) (by decide +kernel), List.mem_of_getElem? (i := 662) (by decide +kernel)⟩
theorem lw_p6 : lw_okq (⟨"RansomHymn$Teller", "begin", "(LRansomHymn$Roll;)I"⟩, 4) := ⟨⟨by decide +kernel, by decide +kernel⟩, List.mem_of_getElem? (i := 216) (by decide +kernel), List.mem_of_getElem? (i := 665) (by decide +kernel), List.mem_of_getElem? (i := 666) (by decide +kernel)⟩
theorem lw_p7 : lw_okq (⟨"RansomHymn$Teller", "number", "(II)I"⟩, 4) := ⟨⟨by decide +kernel, by decide +kernel⟩, List.mem_of_getElem? (i := 216) (by decide +kernel), List.mem_of_getElem? (i := 687) (by decide +kernel), List.mem_of_getElem? (i := 688) (by decide +kernel)⟩
theorem lw_p8 : lw_okq (⟨"RansomHymn$Teller", "readVoice", "()V"⟩, 4) := ⟨⟨by decide +kernel, by decide +kernel⟩, List.mem_of_getElem? (i := 216) (by decide +kernel), List.mem_of_getElem? (i := 691) (by decide +kernel), List.mem_of_getElem? (i := 692) (by decide +kernel)⟩
theorem lw_p9 : lw_okq (⟨"RansomHymn$Teller", "skips", "(I)Z"⟩, 4) := ⟨⟨by decide +kernel, by decide +kernel⟩, List.mem_of_getElem? (i := 216) (by decide +kernel), List.mem_of_getElem? (i := 695) (by decide +kernel), List.mem_of_getElem? (i := 696) (by decide +kernel)⟩
theorem lw_p10 : lw_okq (⟨"RansomHymn$Teller", "toldTavern", "()I"⟩, 4) := ⟨⟨by decide +kernel, by decide +kernel⟩, List.mem_of_getElem? (i := 216) (by decide +kernel), List.mem_of_getElem? (i := 699) (by decide +kernel), List.mem_of_getElem? (i := 700) (by decide +kernel)⟩
theorem lw_p11 : lw_okq (⟨"RansomHymn$Teller", "readVerse", "()V"⟩, 4) := ⟨⟨by decide +kernel, by decide +kernel⟩, List.mem_of_getElem? (i := 216) (by decide +kernel), List.mem_of_getElem? (i := 703) (by decide +kernel), List.mem_of_getElem? (i := 704) (by decide +kernel)⟩
theorem lw_p12 : lw_okq (⟨"RansomHymn$Teller", "readPart", "(I)V"⟩, 4) := ⟨⟨by decide +kernel, by decide +kernel⟩, List.mem_of_getElem? (i := 216) (by decide +kernel), List.mem_of_getElem? (i := 710) (by decide +kernel), List.mem_of_getElem? (i := 711) (by decide +kernel)⟩
theorem lw_p13 : lw_okq (⟨"RansomHymn$Teller", "readBaker", "()V"⟩, 4) := ⟨⟨by decide +kernel, by decide +kernel⟩, List.mem_of_getElem? (i := 216) (by decide +kernel), List.mem_of_getElem? (i := 714) (by decide +kernel), List.mem_of_getElem? (i := 715) (by decide +kernel)⟩
theorem lw_p14 : lw_okq (⟨"RansomHymn$Formulas", "readValue", "(LRansomHymn$Tokens;)Z"⟩, 10) := ⟨⟨by decide +kernel, by decide +kernel⟩, List.mem_of_getElem? (i := 64) (by decide +kernel), List.mem_of_getElem? (i := 722) (by decide +kernel), List.mem_of_getElem? (i := 723) (by decide +kernel)⟩
theorem lw_p15 : lw_okq (⟨"RansomHymn$Formulas", "hold", "(I)Z"⟩, 10) := ⟨⟨by decide +kernel, by decide +kernel⟩, List.mem_of_getElem? (i := 64) (by decide +kernel), List.mem_of_getElem? (i := 726) (by decide +kernel), List.mem_of_getElem? (i := 727) (by decide +kernel)⟩
def lw_privs_1 : List (MethodName × Nat) := [(⟨"RansomHymn$Tokens", "packWords", "(Ljava/lang/String;I)V"⟩, 9), (⟨"RansomHymn", "tapeNumber", "(I)V"⟩, 15), (⟨"RansomHymn$Tokens", "readWord", "()V"⟩, 9), (⟨"RansomHymn$Tokens", "readNumber", "()V"⟩, 9), (⟨"RansomHymn$Tokens", "readSign", "()V"⟩, 9), (⟨"RansomHymn$Teller", "readTavern", "()V"⟩, 4), (⟨"RansomHymn$Teller", "begin", "(LRansomHymn$Roll;)I"⟩, 4), (⟨"RansomHymn$Teller", "number", "(II)I"⟩, 4), (⟨"RansomHymn$Teller", "readVoice", "()V"⟩, 4), (⟨"RansomHymn$Teller", "skips", "(I)Z"⟩, 4), (⟨"RansomHymn$Teller", "toldTavern", "()I"⟩, 4), (⟨"RansomHymn$Teller", "readVerse", "()V"⟩, 4), (⟨"RansomHymn$Teller", "readPart", "(I)V"⟩, 4), (⟨"RansomHymn$Teller", "readBaker", "()V"⟩, 4), (⟨"RansomHymn$Formulas", "readValue", "(LRansomHymn$Tokens;)Z"⟩, 10), (⟨"RansomHymn$Formulas", "hold", "(I)Z"⟩, 10)]
theorem lw_r1 : ∀ q ∈ lw_privs_1, lw_okq q := List.forall_mem_cons.mpr ⟨lw_p0, List.forall_mem_cons.mpr ⟨lw_p1, List.forall_mem_cons.mpr ⟨lw_p2, List.forall_mem_cons.mpr ⟨lw_p3, List.forall_mem_cons.mpr ⟨lw_p4, List.forall_mem_cons.mpr ⟨lw_p5, List.forall_mem_cons.mpr ⟨lw_p6, List.forall_mem_cons.mpr ⟨lw_p7, List.forall_mem_cons.mpr ⟨lw_p8, List.forall_mem_cons.mpr ⟨lw_p9, List.forall_mem_cons.mpr ⟨lw_p10, List.forall_mem_cons.mpr ⟨lw_p11, List.forall_mem_cons.mpr ⟨lw_p12, List.forall_mem_cons.mpr ⟨lw_p13, List.forall_mem_cons.mpr ⟨lw_p14, List.forall_mem_cons.mpr ⟨lw_p15, fun _ h => absurd h List.not_mem_nil⟩⟩⟩⟩⟩⟩⟩⟩⟩⟩⟩⟩⟩⟩⟩⟩
theorem lw_p16 : lw_okq (⟨"RansomHymn$Formulas", "topLevel", "()I"⟩, 10) := ⟨⟨by decide +kernel, by decide +kernel⟩, List.mem_of_getElem? (i := 64) (by decide +kernel), List.mem_of_getElem? (i := 731) (by decide +kernel), List.mem_of_getElem? (i := 732) (by decide +kernel)⟩
theorem lw_p17 : lw_okq (⟨"RansomHymn$Formulas", "isRoom", "(LRansomHymn$Tokens;)Z"⟩, 10) := ⟨⟨by decide +kernel, by decide +kernel⟩, List.mem_of_getElem? (i := 64) (by decide +kernel), List.mem_of_getElem? (i := 738) (by decide +kernel), List.mem_of_getElem? (i := 739) (by decide +kernel)⟩
theorem lw_p18 : lw_okq (⟨"RansomHymn$Formulas", "put", "(II)Z"⟩, 10) := ⟨⟨by decide +kernel, by decide +kernel⟩, List.mem_of_getElem? (i := 64) (by decide +kernel), List.mem_of_getElem? (i := 742) (by decide +kernel), List.mem_of_getElem? (i := 743) (by decide +kernel)⟩
theorem lw_p19 : lw_okq (⟨"RansomHymn$Formulas", "readSign", "(LRansomHymn$Tokens;)Z"⟩, 10) := ⟨⟨by decide +kernel, by decide +kernel⟩, List.mem_of_getElem? (i := 64) (by decide +kernel), List.mem_of_getElem? (i := 746) (by decide +kernel), List.mem_of_getElem? (i := 747) (by decide +kernel)⟩
theorem lw_p20 : lw_okq (⟨"RansomHymn$Formulas", "settle", "(I)V"⟩, 10) := ⟨⟨by decide +kernel, by decide +kernel⟩, List.mem_of_getElem? (i := 64) (by decide +kernel), List.mem_of_getElem? (i := 750) (by decide +kernel), List.mem_of_getElem? (i := 751) (by decide +kernel)⟩
theorem lw_p21 : lw_okq (⟨"RansomHymn$Teller", "loneNumber", "(ZI)I"⟩, 4) := ⟨⟨by decide +kernel, by decide +kernel⟩, List.mem_of_getElem? (i := 216) (by decide +kernel), List.mem_of_getElem? (i := 755) (by decide +kernel), List.mem_of_getElem? (i := 756) (by decide +kernel)⟩
theorem lw_p22 : lw_okq (⟨"RansomHymn$Teller", "readLaw", "()V"⟩, 4) := ⟨⟨by decide +kernel, by decide +kernel⟩, List.mem_of_getElem? (i := 216) (by decide +kernel), List.mem_of_getElem? (i := 760) (by decide +kernel), List.mem_of_getElem? (i := 761) (by decide +kernel)⟩
theorem lw_p23 : lw_okq (⟨"RansomHymn", "claimsOn", "(I)I"⟩, 15) := ⟨⟨by decide +kernel, by decide +kernel⟩, List.mem_of_getElem? (i := 29) (by decide +kernel), List.mem_of_getElem? (i := 800) (by decide +kernel), List.mem_of_getElem? (i := 801) (by decide +kernel)⟩
theorem lw_p24 : lw_okq (⟨"RansomHymn$Laws", "setOwner", "(III)V"⟩, 6) := ⟨⟨by decide +kernel, by decide +kernel⟩, List.mem_of_getElem? (i := 406) (by decide +kernel), List.mem_of_getElem? (i := 850) (by decide +kernel), List.mem_of_getElem? (i := 851) (by decide +kernel)⟩
theorem lw_p25 : lw_okq (⟨"RansomHymn$Laws", "setMusic", "(IIII)V"⟩, 6) := ⟨⟨by decide +kernel, by decide +kernel⟩, List.mem_of_getElem? (i := 406) (by decide +kernel), List.mem_of_getElem? (i := 865) (by decide +kernel), List.mem_of_getElem? (i := 866) (by decide +kernel)⟩
theorem lw_p26 : lw_okq (⟨"RansomHymn$Laws", "reckon", "(III)I"⟩, 6) := ⟨⟨by decide +kernel, by decide +kernel⟩, List.mem_of_getElem? (i := 406) (by decide +kernel), List.mem_of_getElem? (i := 869) (by decide +kernel), List.mem_of_getElem? (i := 870) (by decide +kernel)⟩
theorem lw_p27 : lw_okq (⟨"RansomHymn$Laws", "apply", "(II)V"⟩, 6) := ⟨⟨by decide +kernel, by decide +kernel⟩, List.mem_of_getElem? (i := 406) (by decide +kernel), List.mem_of_getElem? (i := 874) (by decide +kernel), List.mem_of_getElem? (i := 875) (by decide +kernel)⟩
theorem lw_p28 : lw_okq (⟨"RansomHymn$Laws", "push", "(J)V"⟩, 6) := ⟨⟨by decide +kernel, by decide +kernel⟩, List.mem_of_getElem? (i := 406) (by decide +kernel), List.mem_of_getElem? (i := 878) (by decide +kernel), List.mem_of_getElem? (i := 879) (by decide +kernel)⟩
theorem lw_p29 : lw_okq (⟨"RansomHymn$Laws", "pop", "()J"⟩, 6) := ⟨⟨by decide +kernel, by decide +kernel⟩, List.mem_of_getElem? (i := 406) (by decide +kernel), List.mem_of_getElem? (i := 884) (by decide +kernel), List.mem_of_getElem? (i := 885) (by decide +kernel)⟩
theorem lw_p30 : lw_okq (⟨"RansomHymn$Laws", "scale", "(IJJ)J"⟩, 6) := ⟨⟨by decide +kernel, by decide +kernel⟩, List.mem_of_getElem? (i := 406) (by decide +kernel), List.mem_of_getElem? (i := 888) (by decide +kernel), List.mem_of_getElem? (i := 889) (by decide +kernel)⟩
theorem lw_p31 : lw_okq (⟨"RansomHymn", "singsIn", "(II)Z"⟩, 15) := ⟨⟨by decide +kernel, by decide +kernel⟩, List.mem_of_getElem? (i := 29) (by decide +kernel), List.mem_of_getElem? (i := 933) (by decide +kernel), List.mem_of_getElem? (i := 934) (by decide +kernel)⟩
def lw_privs_2 : List (MethodName × Nat) := [(⟨"RansomHymn$Formulas", "topLevel", "()I"⟩, 10), (⟨"RansomHymn$Formulas", "isRoom", "(LRansomHymn$Tokens;)Z"⟩, 10), (⟨"RansomHymn$Formulas", "put", "(II)Z"⟩, 10), (⟨"RansomHymn$Formulas", "readSign", "(LRansomHymn$Tokens;)Z"⟩, 10), (⟨"RansomHymn$Formulas", "settle", "(I)V"⟩, 10), (⟨"RansomHymn$Teller", "loneNumber", "(ZI)I"⟩, 4), (⟨"RansomHymn$Teller", "readLaw", "()V"⟩, 4), (⟨"RansomHymn", "claimsOn", "(I)I"⟩, 15), (⟨"RansomHymn$Laws", "setOwner", "(III)V"⟩, 6), (⟨"RansomHymn$Laws", "setMusic", "(IIII)V"⟩, 6), (⟨"RansomHymn$Laws", "reckon", "(III)I"⟩, 6), (⟨"RansomHymn$Laws", "apply", "(II)V"⟩, 6), (⟨"RansomHymn$Laws", "push", "(J)V"⟩, 6), (⟨"RansomHymn$Laws", "pop", "()J"⟩, 6), (⟨"RansomHymn$Laws", "scale", "(IJJ)J"⟩, 6), (⟨"RansomHymn", "singsIn", "(II)Z"⟩, 15)]
theorem lw_r2 : ∀ q ∈ lw_privs_2, lw_okq q := List.forall_mem_cons.mpr ⟨lw_p16, List.forall_mem_cons.mpr ⟨lw_p17, List.forall_mem_cons.mpr ⟨lw_p18, List.forall_mem_cons.mpr ⟨lw_p19, List.forall_mem_cons.mpr ⟨lw_p20, List.forall_mem_cons.mpr ⟨lw_p21, List.forall_mem_cons.mpr ⟨lw_p22, List.forall_mem_cons.mpr ⟨lw_p23, List.forall_mem_cons.mpr ⟨lw_p24, List.forall_mem_cons.mpr ⟨lw_p25, List.forall_mem_cons.mpr ⟨lw_p26, List.forall_mem_cons.mpr ⟨lw_p27, List.forall_mem_cons.mpr ⟨lw_p28, List.forall_mem_cons.mpr ⟨lw_p29, List.forall_mem_cons.mpr ⟨lw_p30, List.forall_mem_cons.mpr ⟨lw_p31, fun _ h => absurd h List.not_mem_nil⟩⟩⟩⟩⟩⟩⟩⟩⟩⟩⟩⟩⟩⟩⟩⟩
theorem lw_p32 : lw_okq (⟨"RansomHymn", "singPart", "(I)I"⟩, 15) := ⟨⟨by decide +kernel, by decide +kernel⟩, List.mem_of_getElem? (i := 29) (by decide +kernel), List.mem_of_getElem? (i := 961) (by decide +kernel), List.mem_of_getElem? (i := 962) (by decide +kernel)⟩
theorem lw_p33 : lw_okq (⟨"RansomHymn", "crackBoys", "()V"⟩, 15) := ⟨⟨by decide +kernel, by decide +kernel⟩, List.mem_of_getElem? (i := 29) (by decide +kernel), List.mem_of_getElem? (i := 967) (by decide +kernel), List.mem_of_getElem? (i := 968) (by decide +kernel)⟩
theorem lw_p34 : lw_okq (⟨"RansomHymn$Choice", "weighPart", "(II)V"⟩, 11) := ⟨⟨by decide +kernel, by decide +kernel⟩, List.mem_of_getElem? (i := 432) (by decide +kernel), List.mem_of_getElem? (i := 993) (by decide +kernel), List.mem_of_getElem? (i := 994) (by decide +kernel)⟩
theorem lw_p35 : lw_okq (⟨"RansomHymn$Choice", "weighRows", "(I)V"⟩, 11) := ⟨⟨by decide +kernel, by decide +kernel⟩, List.mem_of_getElem? (i := 432) (by decide +kernel), List.mem_of_getElem? (i := 1001) (by decide +kernel), List.mem_of_getElem? (i := 1002) (by decide +kernel)⟩
theorem lw_p36 : lw_okq (⟨"RansomHymn$Choice", "rowsOf", "(I)I"⟩, 11) := ⟨⟨by decide +kernel, by decide +kernel⟩, List.mem_of_getElem? (i := 432) (by decide +kernel), List.mem_of_getElem? (i := 1005) (by decide +kernel), List.mem_of_getElem? (i := 1006) (by decide +kernel)⟩
theorem lw_p37 : lw_okq (⟨"RansomHymn$Choice", "fits", "(II)Z"⟩, 11) := ⟨⟨by decide +kernel, by decide +kernel⟩, List.mem_of_getElem? (i := 432) (by decide +kernel), List.mem_of_getElem? (i := 1009) (by decide +kernel), List.mem_of_getElem? (i := 1010) (by decide +kernel)⟩
theorem lw_p38 : lw_okq (⟨"RansomHymn$Choice", "joinRest", "(I)V"⟩, 11) := ⟨⟨by decide +kernel, by decide +kernel⟩, List.mem_of_getElem? (i := 432) (by decide +kernel), List.mem_of_getElem? (i := 1013) (by decide +kernel), List.mem_of_getElem? (i := 1014) (by decide +kernel)⟩
theorem lw_p39 : lw_okq (⟨"RansomHymn$Choice", "isBest", "(II)Z"⟩, 11) := ⟨⟨by decide +kernel, by decide +kernel⟩, List.mem_of_getElem? (i := 432) (by decide +kernel), List.mem_of_getElem? (i := 1035) (by decide +kernel), List.mem_of_getElem? (i := 1036) (by decide +kernel)⟩
theorem lw_p40 : lw_okq (⟨"RansomHymn$Sale", "sellVerse", "(I)V"⟩, 6) := ⟨⟨by decide +kernel, by decide +kernel⟩, List.mem_of_getElem? (i := 476) (by decide +kernel), List.mem_of_getElem? (i := 1052) (by decide +kernel), List.mem_of_getElem? (i := 1053) (by decide +kernel)⟩
theorem lw_p41 : lw_okq (⟨"RansomHymn", "knownCount", "()I"⟩, 15) := ⟨⟨by decide +kernel, by decide +kernel⟩, List.mem_of_getElem? (i := 29) (by decide +kernel), List.mem_of_getElem? (i := 1082) (by decide +kernel), List.mem_of_getElem? (i := 1083) (by decide +kernel)⟩
theorem lw_p42 : lw_okq (⟨"RansomHymn", "reachOf", "(I)J"⟩, 15) := ⟨⟨by decide +kernel, by decide +kernel⟩, List.mem_of_getElem? (i := 29) (by decide +kernel), List.mem_of_getElem? (i := 1109) (by decide +kernel), List.mem_of_getElem? (i := 1110) (by decide +kernel)⟩
theorem lw_p43 : lw_okq (⟨"RansomHymn", "isRound", "(IIII)Z"⟩, 15) := ⟨⟨by decide +kernel, by decide +kernel⟩, List.mem_of_getElem? (i := 29) (by decide +kernel), List.mem_of_getElem? (i := 1117) (by decide +kernel), List.mem_of_getElem? (i := 1118) (by decide +kernel)⟩
theorem lw_p44 : lw_okq (⟨"RansomHymn$Canon", "fill", "(IIJ)V"⟩, 10) := ⟨⟨by decide +kernel, by decide +kernel⟩, List.mem_of_getElem? (i := 504) (by decide +kernel), List.mem_of_getElem? (i := 1127) (by decide +kernel), List.mem_of_getElem? (i := 1128) (by decide +kernel)⟩
theorem lw_p45 : lw_okq (⟨"RansomHymn", "shareOf", "(II)I"⟩, 15) := ⟨⟨by decide +kernel, by decide +kernel⟩, List.mem_of_getElem? (i := 29) (by decide +kernel), List.mem_of_getElem? (i := 1146) (by decide +kernel), List.mem_of_getElem? (i := 1147) (by decide +kernel)⟩
theorem lw_p46 : lw_okq (⟨"java/lang/Throwable", "fillInStackTrace", "(I)Ljava/lang/Throwable;"⟩, 6) := ⟨⟨by decide +kernel, by decide +kernel⟩, List.mem_of_getElem? (i := 1226) (by decide +kernel), List.mem_of_getElem? (i := 1224) (by decide +kernel), List.mem_of_getElem? (i := 1225) (by decide +kernel)⟩
theorem lw_p47 : lw_okq (⟨"RansomHymnModel", "begins", "()V"⟩, 69) := ⟨⟨by decide +kernel, by decide +kernel⟩, List.mem_of_getElem? (i := 1271) (by decide +kernel), List.mem_of_getElem? (i := 1277) (by decide +kernel), List.mem_of_getElem? (i := 1278) (by decide +kernel)⟩
def lw_privs_3 : List (MethodName × Nat) := [(⟨"RansomHymn", "singPart", "(I)I"⟩, 15), (⟨"RansomHymn", "crackBoys", "()V"⟩, 15), (⟨"RansomHymn$Choice", "weighPart", "(II)V"⟩, 11), (⟨"RansomHymn$Choice", "weighRows", "(I)V"⟩, 11), (⟨"RansomHymn$Choice", "rowsOf", "(I)I"⟩, 11), (⟨"RansomHymn$Choice", "fits", "(II)Z"⟩, 11), (⟨"RansomHymn$Choice", "joinRest", "(I)V"⟩, 11), (⟨"RansomHymn$Choice", "isBest", "(II)Z"⟩, 11), (⟨"RansomHymn$Sale", "sellVerse", "(I)V"⟩, 6), (⟨"RansomHymn", "knownCount", "()I"⟩, 15), (⟨"RansomHymn", "reachOf", "(I)J"⟩, 15), (⟨"RansomHymn", "isRound", "(IIII)Z"⟩, 15), (⟨"RansomHymn$Canon", "fill", "(IIJ)V"⟩, 10), (⟨"RansomHymn", "shareOf", "(II)I"⟩, 15), (⟨"java/lang/Throwable", "fillInStackTrace", "(I)Ljava/lang/Throwable;"⟩, 6), (⟨"RansomHymnModel", "begins", "()V"⟩, 69)]
theorem lw_r3 : ∀ q ∈ lw_privs_3, lw_okq q := List.forall_mem_cons.mpr ⟨lw_p32, List.forall_mem_cons.mpr ⟨lw_p33, List.forall_mem_cons.mpr ⟨lw_p34, List.forall_mem_cons.mpr ⟨lw_p35, List.forall_mem_cons.mpr ⟨lw_p36, List.forall_mem_cons.mpr ⟨lw_p37, List.forall_mem_cons.mpr ⟨lw_p38, List.forall_mem_cons.mpr ⟨lw_p39, List.forall_mem_cons.mpr ⟨lw_p40, List.forall_mem_cons.mpr ⟨lw_p41, List.forall_mem_cons.mpr ⟨lw_p42, List.forall_mem_cons.mpr ⟨lw_p43, List.forall_mem_cons.mpr ⟨lw_p44, List.forall_mem_cons.mpr ⟨lw_p45, List.forall_mem_cons.mpr ⟨lw_p46, List.forall_mem_cons.mpr ⟨lw_p47, fun _ h => absurd h List.not_mem_nil⟩⟩⟩⟩⟩⟩⟩⟩⟩⟩⟩⟩⟩⟩⟩⟩
theorem lw_p48 : lw_okq (⟨"RansomHymnModel", "reads", "(II)V"⟩, 69) := ⟨⟨by decide +kernel, by decide +kernel⟩, List.mem_of_getElem? (i := 1271) (by decide +kernel), List.mem_of_getElem? (i := 1502) (by decide +kernel), List.mem_of_getElem? (i := 1503) (by decide +kernel)⟩
theorem lw_p49 : lw_okq (⟨"RansomHymnModel", "token", "()V"⟩, 69) := ⟨⟨by decide +kernel, by decide +kernel⟩, List.mem_of_getElem? (i := 1271) (by decide +kernel), List.mem_of_getElem? (i := 1506) (by decide +kernel), List.mem_of_getElem? (i := 1507) (by decide +kernel)⟩
theorem lw_p50 : lw_okq (⟨"RansomHymnModel", "here", "()I"⟩, 69) := ⟨⟨by decide +kernel, by decide +kernel⟩, List.mem_of_getElem? (i := 1271) (by decide +kernel), List.mem_of_getElem? (i := 1510) (by decide +kernel), List.mem_of_getElem? (i := 1511) (by decide +kernel)⟩
theorem lw_p51 : lw_okq (⟨"RansomHymnModel", "word", "()I"⟩, 69) := ⟨⟨by decide +kernel, by decide +kernel⟩, List.mem_of_getElem? (i := 1271) (by decide +kernel), List.mem_of_getElem? (i := 1517) (by decide +kernel), List.mem_of_getElem? (i := 1518) (by decide +kernel)⟩
theorem lw_p52 : lw_okq (⟨"RansomHymnModel", "name", "()V"⟩, 69) := ⟨⟨by decide +kernel, by decide +kernel⟩, List.mem_of_getElem? (i := 1271) (by decide +kernel), List.mem_of_getElem? (i := 1524) (by decide +kernel), List.mem_of_getElem? (i := 1525) (by decide +kernel)⟩
theorem lw_p53 : lw_okq (⟨"RansomHymnModel", "sign", "(I)V"⟩, 69) := ⟨⟨by decide +kernel, by decide +kernel⟩, List.mem_of_getElem? (i := 1271) (by decide +kernel), List.mem_of_getElem? (i := 1532) (by decide +kernel), List.mem_of_getElem? (i := 1533) (by decide +kernel)⟩
theorem lw_p54 : lw_okq (⟨"RansomHymnModel", "line", "()V"⟩, 69) := ⟨⟨by decide +kernel, by decide +kernel⟩, List.mem_of_getElem? (i := 1271) (by decide +kernel), List.mem_of_getElem? (i := 1536) (by decide +kernel), List.mem_of_getElem? (i := 1537) (by decide +kernel)⟩
theorem lw_p55 : lw_okq (⟨"RansomHymnModel", "wrong", "(I)V"⟩, 69) := ⟨⟨by decide +kernel, by decide +kernel⟩, List.mem_of_getElem? (i := 1271) (by decide +kernel), List.mem_of_getElem? (i := 1540) (by decide +kernel), List.mem_of_getElem? (i := 1541) (by decide +kernel)⟩
theorem lw_p56 : lw_okq (⟨"RansomHymnModel", "isFull", "(I)Z"⟩, 69) := ⟨⟨by decide +kernel, by decide +kernel⟩, List.mem_of_getElem? (i := 1271) (by decide +kernel), List.mem_of_getElem? (i := 1544) (by decide +kernel), List.mem_of_getElem? (i := 1545) (by decide +kernel)⟩
theorem lw_p57 : lw_okq (⟨"RansomHymnModel", "fresher", "(I)I"⟩, 69) := ⟨⟨by decide +kernel, by decide +kernel⟩, List.mem_of_getElem? (i := 1271) (by decide +kernel), List.mem_of_getElem? (i := 1548) (by decide +kernel), List.mem_of_getElem? (i := 1549) (by decide +kernel)⟩
theorem lw_p58 : lw_okq (⟨"RansomHymnModel", "fresh", "([III)I"⟩, 69) := ⟨⟨by decide +kernel, by decide +kernel⟩, List.mem_of_getElem? (i := 1271) (by decide +kernel), List.mem_of_getElem? (i := 1552) (by decide +kernel), List.mem_of_getElem? (i := 1553) (by decide +kernel)⟩
theorem lw_p59 : lw_okq (⟨"RansomHymnModel", "numeral", "(II)I"⟩, 69) := ⟨⟨by decide +kernel, by decide +kernel⟩, List.mem_of_getElem? (i := 1271) (by decide +kernel), List.mem_of_getElem? (i := 1559) (by decide +kernel), List.mem_of_getElem? (i := 1560) (by decide +kernel)⟩
theorem lw_p60 : lw_okq (⟨"RansomHymnModel", "voiceLine", "(I)V"⟩, 69) := ⟨⟨by decide +kernel, by decide +kernel⟩, List.mem_of_getElem? (i := 1271) (by decide +kernel), List.mem_of_getElem? (i := 1563) (by decide +kernel), List.mem_of_getElem? (i := 1564) (by decide +kernel)⟩
theorem lw_p61 : lw_okq (⟨"RansomHymnModel", "isWord", "(I)Z"⟩, 69) := ⟨⟨by decide +kernel, by decide +kernel⟩, List.mem_of_getElem? (i := 1271) (by decide +kernel), List.mem_of_getElem? (i := 1567) (by decide +kernel), List.mem_of_getElem? (i := 1568) (by decide +kernel)⟩
theorem lw_p62 : lw_okq (⟨"RansomHymnModel", "tavernAhead", "()I"⟩, 69) := ⟨⟨by decide +kernel, by decide +kernel⟩, List.mem_of_getElem? (i := 1271) (by decide +kernel), List.mem_of_getElem? (i := 1571) (by decide +kernel), List.mem_of_getElem? (i := 1572) (by decide +kernel)⟩
theorem lw_p63 : lw_okq (⟨"RansomHymnModel", "goOn", "()V"⟩, 69) := ⟨⟨by decide +kernel, by decide +kernel⟩, List.mem_of_getElem? (i := 1271) (by decide +kernel), List.mem_of_getElem? (i := 1575) (by decide +kernel), List.mem_of_getElem? (i := 1576) (by decide +kernel)⟩
def lw_privs_4 : List (MethodName × Nat) := [(⟨"RansomHymnModel", "reads", "(II)V"⟩, 69), (⟨"RansomHymnModel", "token", "()V"⟩, 69), (⟨"RansomHymnModel", "here", "()I"⟩, 69), (⟨"RansomHymnModel", "word", "()I"⟩, 69), (⟨"RansomHymnModel", "name", "()V"⟩, 69), (⟨"RansomHymnModel", "sign", "(I)V"⟩, 69), (⟨"RansomHymnModel", "line", "()V"⟩, 69), (⟨"RansomHymnModel", "wrong", "(I)V"⟩, 69), (⟨"RansomHymnModel", "isFull", "(I)Z"⟩, 69), (⟨"RansomHymnModel", "fresher", "(I)I"⟩, 69), (⟨"RansomHymnModel", "fresh", "([III)I"⟩, 69), (⟨"RansomHymnModel", "numeral", "(II)I"⟩, 69), (⟨"RansomHymnModel", "voiceLine", "(I)V"⟩, 69), (⟨"RansomHymnModel", "isWord", "(I)Z"⟩, 69), (⟨"RansomHymnModel", "tavernAhead", "()I"⟩, 69), (⟨"RansomHymnModel", "goOn", "()V"⟩, 69)]
theorem lw_r4 : ∀ q ∈ lw_privs_4, lw_okq q := List.forall_mem_cons.mpr ⟨lw_p48, List.forall_mem_cons.mpr ⟨lw_p49, List.forall_mem_cons.mpr ⟨lw_p50, List.forall_mem_cons.mpr ⟨lw_p51, List.forall_mem_cons.mpr ⟨lw_p52, List.forall_mem_cons.mpr ⟨lw_p53, List.forall_mem_cons.mpr ⟨lw_p54, List.forall_mem_cons.mpr ⟨lw_p55, List.forall_mem_cons.mpr ⟨lw_p56, List.forall_mem_cons.mpr ⟨lw_p57, List.forall_mem_cons.mpr ⟨lw_p58, List.forall_mem_cons.mpr ⟨lw_p59, List.forall_mem_cons.mpr ⟨lw_p60, List.forall_mem_cons.mpr ⟨lw_p61, List.forall_mem_cons.mpr ⟨lw_p62, List.forall_mem_cons.mpr ⟨lw_p63, fun _ h => absurd h List.not_mem_nil⟩⟩⟩⟩⟩⟩⟩⟩⟩⟩⟩⟩⟩⟩⟩⟩
theorem lw_p64 : lw_okq (⟨"RansomHymnModel", "verseLine", "(I)V"⟩, 69) := ⟨⟨by decide +kernel, by decide +kernel⟩, List.mem_of_getElem? (i := 1271) (by decide +kernel), List.mem_of_getElem? (i := 1579) (by decide +kernel), List.mem_of_getElem? (i := 1580) (by decide +kernel)⟩
theorem lw_p65 : lw_okq (⟨"RansomHymnModel", "partLine", "(I)V"⟩, 69) := ⟨⟨by decide +kernel, by decide +kernel⟩, List.mem_of_getElem? (i := 1271) (by decide +kernel), List.mem_of_getElem? (i := 1583) (by decide +kernel), List.mem_of_getElem? (i := 1584) (by decide +kernel)⟩
theorem lw_p66 : lw_okq (⟨"RansomHymnModel", "sumOf", "(I)V"⟩, 69) := ⟨⟨by decide +kernel, by decide +kernel⟩, List.mem_of_getElem? (i := 1271) (by decide +kernel), List.mem_of_getElem? (i := 1587) (by decide +kernel), List.mem_of_getElem? (i := 1588) (by decide +kernel)⟩
theorem lw_p67 : lw_okq (⟨"RansomHymnModel", "expression", "()V"⟩, 69) := ⟨⟨by decide +kernel, by decide +kernel⟩, List.mem_of_getElem? (i := 1271) (by decide +kernel), List.mem_of_getElem? (i := 1591) (by decide +kernel), List.mem_of_getElem? (i := 1592) (by decide +kernel)⟩
theorem lw_p68 : lw_okq (⟨"RansomHymnModel", "conjunction", "()V"⟩, 69) := ⟨⟨by decide +kernel, by decide +kernel⟩, List.mem_of_getElem? (i := 1271) (by decide +kernel), List.mem_of_getElem? (i := 1595) (by decide +kernel), List.mem_of_getElem? (i := 1596) (by decide +kernel)⟩
theorem lw_p69 : lw_okq (⟨"RansomHymnModel", "negation", "()V"⟩, 69) := ⟨⟨by decide +kernel, by decide +kernel⟩, List.mem_of_getElem? (i := 1271) (by decide +kernel), List.mem_of_getElem? (i := 1599) (by decide +kernel), List.mem_of_getElem? (i := 1600) (by decide +kernel)⟩
theorem lw_p70 : lw_okq (⟨"RansomHymnModel", "knot", "()V"⟩, 69) := ⟨⟨by decide +kernel, by decide +kernel⟩, List.mem_of_getElem? (i := 1271) (by decide +kernel), List.mem_of_getElem? (i := 1603) (by decide +kernel), List.mem_of_getElem? (i := 1604) (by decide +kernel)⟩
theorem lw_p71 : lw_okq (⟨"RansomHymnModel", "puts", "(II)V"⟩, 69) := ⟨⟨by decide +kernel, by decide +kernel⟩, List.mem_of_getElem? (i := 1271) (by decide +kernel), List.mem_of_getElem? (i := 1607) (by decide +kernel), List.mem_of_getElem? (i := 1608) (by decide +kernel)⟩
theorem lw_p72 : lw_okq (⟨"RansomHymnModel", "sum", "()V"⟩, 69) := ⟨⟨by decide +kernel, by decide +kernel⟩, List.mem_of_getElem? (i := 1271) (by decide +kernel), List.mem_of_getElem? (i := 1611) (by decide +kernel), List.mem_of_getElem? (i := 1612) (by decide +kernel)⟩
theorem lw_p73 : lw_okq (⟨"RansomHymnModel", "product", "()V"⟩, 69) := ⟨⟨by decide +kernel, by decide +kernel⟩, List.mem_of_getElem? (i := 1271) (by decide +kernel), List.mem_of_getElem? (i := 1615) (by decide +kernel), List.mem_of_getElem? (i := 1616) (by decide +kernel)⟩
theorem lw_p74 : lw_okq (⟨"RansomHymnModel", "primary", "()V"⟩, 69) := ⟨⟨by decide +kernel, by decide +kernel⟩, List.mem_of_getElem? (i := 1271) (by decide +kernel), List.mem_of_getElem? (i := 1619) (by decide +kernel), List.mem_of_getElem? (i := 1620) (by decide +kernel)⟩
theorem lw_p75 : lw_okq (⟨"RansomHymnModel", "isSign", "(I)Z"⟩, 69) := ⟨⟨by decide +kernel, by decide +kernel⟩, List.mem_of_getElem? (i := 1271) (by decide +kernel), List.mem_of_getElem? (i := 1623) (by decide +kernel), List.mem_of_getElem? (i := 1624) (by decide +kernel)⟩
theorem lw_p76 : lw_okq (⟨"RansomHymnModel", "lawLine", "()V"⟩, 69) := ⟨⟨by decide +kernel, by decide +kernel⟩, List.mem_of_getElem? (i := 1271) (by decide +kernel), List.mem_of_getElem? (i := 1627) (by decide +kernel), List.mem_of_getElem? (i := 1628) (by decide +kernel)⟩
theorem lw_p77 : lw_okq (⟨"RansomHymnModel", "isVoice", "(I)Z"⟩, 69) := ⟨⟨by decide +kernel, by decide +kernel⟩, List.mem_of_getElem? (i := 1271) (by decide +kernel), List.mem_of_getElem? (i := 1646) (by decide +kernel), List.mem_of_getElem? (i := 1647) (by decide +kernel)⟩
theorem lw_p78 : lw_okq (⟨"RansomHymnModel", "isCracked", "(I)Z"⟩, 69) := ⟨⟨by decide +kernel, by decide +kernel⟩, List.mem_of_getElem? (i := 1271) (by decide +kernel), List.mem_of_getElem? (i := 1650) (by decide +kernel), List.mem_of_getElem? (i := 1651) (by decide +kernel)⟩
theorem lw_p79 : lw_okq (⟨"RansomHymnModel", "isTavern", "(I)Z"⟩, 69) := ⟨⟨by decide +kernel, by decide +kernel⟩, List.mem_of_getElem? (i := 1271) (by decide +kernel), List.mem_of_getElem? (i := 1658) (by decide +kernel), List.mem_of_getElem? (i := 1659) (by decide +kernel)⟩
def lw_privs_5 : List (MethodName × Nat) := [(⟨"RansomHymnModel", "verseLine", "(I)V"⟩, 69), (⟨"RansomHymnModel", "partLine", "(I)V"⟩, 69), (⟨"RansomHymnModel", "sumOf", "(I)V"⟩, 69), (⟨"RansomHymnModel", "expression", "()V"⟩, 69), (⟨"RansomHymnModel", "conjunction", "()V"⟩, 69), (⟨"RansomHymnModel", "negation", "()V"⟩, 69), (⟨"RansomHymnModel", "knot", "()V"⟩, 69), (⟨"RansomHymnModel", "puts", "(II)V"⟩, 69), (⟨"RansomHymnModel", "sum", "()V"⟩, 69), (⟨"RansomHymnModel", "product", "()V"⟩, 69), (⟨"RansomHymnModel", "primary", "()V"⟩, 69), (⟨"RansomHymnModel", "isSign", "(I)Z"⟩, 69), (⟨"RansomHymnModel", "lawLine", "()V"⟩, 69), (⟨"RansomHymnModel", "isVoice", "(I)Z"⟩, 69), (⟨"RansomHymnModel", "isCracked", "(I)Z"⟩, 69), (⟨"RansomHymnModel", "isTavern", "(I)Z"⟩, 69)]
theorem lw_r5 : ∀ q ∈ lw_privs_5, lw_okq q := List.forall_mem_cons.mpr ⟨lw_p64, List.forall_mem_cons.mpr ⟨lw_p65, List.forall_mem_cons.mpr ⟨lw_p66, List.forall_mem_cons.mpr ⟨lw_p67, List.forall_mem_cons.mpr ⟨lw_p68, List.forall_mem_cons.mpr ⟨lw_p69, List.forall_mem_cons.mpr ⟨lw_p70, List.forall_mem_cons.mpr ⟨lw_p71, List.forall_mem_cons.mpr ⟨lw_p72, List.forall_mem_cons.mpr ⟨lw_p73, List.forall_mem_cons.mpr ⟨lw_p74, List.forall_mem_cons.mpr ⟨lw_p75, List.forall_mem_cons.mpr ⟨lw_p76, List.forall_mem_cons.mpr ⟨lw_p77, List.forall_mem_cons.mpr ⟨lw_p78, List.forall_mem_cons.mpr ⟨lw_p79, fun _ h => absurd h List.not_mem_nil⟩⟩⟩⟩⟩⟩⟩⟩⟩⟩⟩⟩⟩⟩⟩⟩
theorem lw_p80 : lw_okq (⟨"RansomHymnModel", "isVerse", "(I)Z"⟩, 69) := ⟨⟨by decide +kernel, by decide +kernel⟩, List.mem_of_getElem? (i := 1271) (by decide +kernel), List.mem_of_getElem? (i := 1666) (by decide +kernel), List.mem_of_getElem? (i := 1667) (by decide +kernel)⟩
theorem lw_p81 : lw_okq (⟨"RansomHymnModel", "isPart", "(II)Z"⟩, 69) := ⟨⟨by decide +kernel, by decide +kernel⟩, List.mem_of_getElem? (i := 1271) (by decide +kernel), List.mem_of_getElem? (i := 1670) (by decide +kernel), List.mem_of_getElem? (i := 1671) (by decide +kernel)⟩
theorem lw_p82 : lw_okq (⟨"RansomHymnModel", "dueOf", "(II)I"⟩, 69) := ⟨⟨by decide +kernel, by decide +kernel⟩, List.mem_of_getElem? (i := 1271) (by decide +kernel), List.mem_of_getElem? (i := 1682) (by decide +kernel), List.mem_of_getElem? (i := 1683) (by decide +kernel)⟩
theorem lw_p83 : lw_okq (⟨"RansomHymnModel", "calls", "(I)V"⟩, 69) := ⟨⟨by decide +kernel, by decide +kernel⟩, List.mem_of_getElem? (i := 1271) (by decide +kernel), List.mem_of_getElem? (i := 1686) (by decide +kernel), List.mem_of_getElem? (i := 1687) (by decide +kernel)⟩
theorem lw_p84 : lw_okq (⟨"RansomHymnModel", "soundsOf", "(II)I"⟩, 69) := ⟨⟨by decide +kernel, by decide +kernel⟩, List.mem_of_getElem? (i := 1271) (by decide +kernel), List.mem_of_getElem? (i := 1690) (by decide +kernel), List.mem_of_getElem? (i := 1691) (by decide +kernel)⟩
theorem lw_p85 : lw_okq (⟨"RansomHymnModel", "isSounded", "(III)Z"⟩, 69) := ⟨⟨by decide +kernel, by decide +kernel⟩, List.mem_of_getElem? (i := 1271) (by decide +kernel), List.mem_of_getElem? (i := 1694) (by decide +kernel), List.mem_of_getElem? (i := 1695) (by decide +kernel)⟩
theorem lw_p86 : lw_okq (⟨"RansomHymnModel", "reaches", "(II)Z"⟩, 69) := ⟨⟨by decide +kernel, by decide +kernel⟩, List.mem_of_getElem? (i := 1271) (by decide +kernel), List.mem_of_getElem? (i := 1698) (by decide +kernel), List.mem_of_getElem? (i := 1699) (by decide +kernel)⟩
theorem lw_p87 : lw_okq (⟨"RansomHymnModel", "restsOf", "(I)I"⟩, 69) := ⟨⟨by decide +kernel, by decide +kernel⟩, List.mem_of_getElem? (i := 1271) (by decide +kernel), List.mem_of_getElem? (i := 1702) (by decide +kernel), List.mem_of_getElem? (i := 1703) (by decide +kernel)⟩
theorem lw_p88 : lw_okq (⟨"RansomHymnModel", "highOf", "(I)I"⟩, 69) := ⟨⟨by decide +kernel, by decide +kernel⟩, List.mem_of_getElem? (i := 1271) (by decide +kernel), List.mem_of_getElem? (i := 1706) (by decide +kernel), List.mem_of_getElem? (i := 1707) (by decide +kernel)⟩
theorem lw_p89 : lw_okq (⟨"RansomHymnModel", "within", "(III)I"⟩, 69) := ⟨⟨by decide +kernel, by decide +kernel⟩, List.mem_of_getElem? (i := 1271) (by decide +kernel), List.mem_of_getElem? (i := 1711) (by decide +kernel), List.mem_of_getElem? (i := 1712) (by decide +kernel)⟩
theorem lw_p90 : lw_okq (⟨"RansomHymnModel", "goes", "(I)Z"⟩, 69) := ⟨⟨by decide +kernel, by decide +kernel⟩, List.mem_of_getElem? (i := 1271) (by decide +kernel), List.mem_of_getElem? (i := 1715) (by decide +kernel), List.mem_of_getElem? (i := 1716) (by decide +kernel)⟩
theorem lw_p91 : lw_okq (⟨"RansomHymnModel", "works", "(I)Z"⟩, 69) := ⟨⟨by decide +kernel, by decide +kernel⟩, List.mem_of_getElem? (i := 1271) (by decide +kernel), List.mem_of_getElem? (i := 1719) (by decide +kernel), List.mem_of_getElem? (i := 1720) (by decide +kernel)⟩
theorem lw_p92 : lw_okq (⟨"RansomHymnModel", "bidOf", "(III)I"⟩, 69) := ⟨⟨by decide +kernel, by decide +kernel⟩, List.mem_of_getElem? (i := 1271) (by decide +kernel), List.mem_of_getElem? (i := 1739) (by decide +kernel), List.mem_of_getElem? (i := 1740) (by decide +kernel)⟩
theorem lw_p93 : lw_okq (⟨"RansomHymnModel", "crackOf", "(II)I"⟩, 69) := ⟨⟨by decide +kernel, by decide +kernel⟩, List.mem_of_getElem? (i := 1271) (by decide +kernel), List.mem_of_getElem? (i := 1748) (by decide +kernel), List.mem_of_getElem? (i := 1749) (by decide +kernel)⟩
theorem lw_p94 : lw_okq (⟨"RansomHymnModel", "singsIn", "(II)Z"⟩, 69) := ⟨⟨by decide +kernel, by decide +kernel⟩, List.mem_of_getElem? (i := 1271) (by decide +kernel), List.mem_of_getElem? (i := 1756) (by decide +kernel), List.mem_of_getElem? (i := 1757) (by decide +kernel)⟩
theorem lw_p95 : lw_okq (⟨"RansomHymnModel", "draw", "()I"⟩, 69) := ⟨⟨by decide +kernel, by decide +kernel⟩, List.mem_of_getElem? (i := 1271) (by decide +kernel), List.mem_of_getElem? (i := 1776) (by decide +kernel), List.mem_of_getElem? (i := 1777) (by decide +kernel)⟩
def lw_privs_6 : List (MethodName × Nat) := [(⟨"RansomHymnModel", "isVerse", "(I)Z"⟩, 69), (⟨"RansomHymnModel", "isPart", "(II)Z"⟩, 69), (⟨"RansomHymnModel", "dueOf", "(II)I"⟩, 69), (⟨"RansomHymnModel", "calls", "(I)V"⟩, 69), (⟨"RansomHymnModel", "soundsOf", "(II)I"⟩, 69), (⟨"RansomHymnModel", "isSounded", "(III)Z"⟩, 69), (⟨"RansomHymnModel", "reaches", "(II)Z"⟩, 69), (⟨"RansomHymnModel", "restsOf", "(I)I"⟩, 69), (⟨"RansomHymnModel", "highOf", "(I)I"⟩, 69), (⟨"RansomHymnModel", "within", "(III)I"⟩, 69), (⟨"RansomHymnModel", "goes", "(I)Z"⟩, 69), (⟨"RansomHymnModel", "works", "(I)Z"⟩, 69), (⟨"RansomHymnModel", "bidOf", "(III)I"⟩, 69), (⟨"RansomHymnModel", "crackOf", "(II)I"⟩, 69), (⟨"RansomHymnModel", "singsIn", "(II)Z"⟩, 69), (⟨"RansomHymnModel", "draw", "()I"⟩, 69)]
theorem lw_r6 : ∀ q ∈ lw_privs_6, lw_okq q := List.forall_mem_cons.mpr ⟨lw_p80, List.forall_mem_cons.mpr ⟨lw_p81, List.forall_mem_cons.mpr ⟨lw_p82, List.forall_mem_cons.mpr ⟨lw_p83, List.forall_mem_cons.mpr ⟨lw_p84, List.forall_mem_cons.mpr ⟨lw_p85, List.forall_mem_cons.mpr ⟨lw_p86, List.forall_mem_cons.mpr ⟨lw_p87, List.forall_mem_cons.mpr ⟨lw_p88, List.forall_mem_cons.mpr ⟨lw_p89, List.forall_mem_cons.mpr ⟨lw_p90, List.forall_mem_cons.mpr ⟨lw_p91, List.forall_mem_cons.mpr ⟨lw_p92, List.forall_mem_cons.mpr ⟨lw_p93, List.forall_mem_cons.mpr ⟨lw_p94, List.forall_mem_cons.mpr ⟨lw_p95, fun _ h => absurd h List.not_mem_nil⟩⟩⟩⟩⟩⟩⟩⟩⟩⟩⟩⟩⟩⟩⟩⟩
theorem lw_p96 : lw_okq (⟨"RansomHymnModel", "layBest", "(I)V"⟩, 69) := ⟨⟨by decide +kernel, by decide +kernel⟩, List.mem_of_getElem? (i := 1271) (by decide +kernel), List.mem_of_getElem? (i := 1789) (by decide +kernel), List.mem_of_getElem? (i := 1790) (by decide +kernel)⟩
theorem lw_p97 : lw_okq (⟨"RansomHymnModel", "layDues", "()V"⟩, 69) := ⟨⟨by decide +kernel, by decide +kernel⟩, List.mem_of_getElem? (i := 1271) (by decide +kernel), List.mem_of_getElem? (i := 1793) (by decide +kernel), List.mem_of_getElem? (i := 1794) (by decide +kernel)⟩
theorem lw_p98 : lw_okq (⟨"RansomHymnModel", "starts", "()V"⟩, 69) := ⟨⟨by decide +kernel, by decide +kernel⟩, List.mem_of_getElem? (i := 1271) (by decide +kernel), List.mem_of_getElem? (i := 1797) (by decide +kernel), List.mem_of_getElem? (i := 1798) (by decide +kernel)⟩
theorem lw_p99 : lw_okq (⟨"RansomHymnModel", "mayBe", "(I)Z"⟩, 69) := ⟨⟨by decide +kernel, by decide +kernel⟩, List.mem_of_getElem? (i := 1271) (by decide +kernel), List.mem_of_getElem? (i := 1801) (by decide +kernel), List.mem_of_getElem? (i := 1802) (by decide +kernel)⟩
theorem lw_p100 : lw_okq (⟨"RansomHymnModel", "costOf", "(I)I"⟩, 69) := ⟨⟨by decide +kernel, by decide +kernel⟩, List.mem_of_getElem? (i := 1271) (by decide +kernel), List.mem_of_getElem? (i := 1805) (by decide +kernel), List.mem_of_getElem? (i := 1806) (by decide +kernel)⟩
theorem lw_p101 : lw_okq (⟨"RansomHymnModel", "gainOf", "(I)I"⟩, 69) := ⟨⟨by decide +kernel, by decide +kernel⟩, List.mem_of_getElem? (i := 1271) (by decide +kernel), List.mem_of_getElem? (i := 1809) (by decide +kernel), List.mem_of_getElem? (i := 1810) (by decide +kernel)⟩
theorem lw_p102 : lw_okq (⟨"RansomHymnModel", "tries", "(IIII)V"⟩, 69) := ⟨⟨by decide +kernel, by decide +kernel⟩, List.mem_of_getElem? (i := 1271) (by decide +kernel), List.mem_of_getElem? (i := 1813) (by decide +kernel), List.mem_of_getElem? (i := 1814) (by decide +kernel)⟩
theorem lw_p103 : lw_okq (⟨"RansomHymnModel", "goesNext", "(I)Z"⟩, 69) := ⟨⟨by decide +kernel, by decide +kernel⟩, List.mem_of_getElem? (i := 1271) (by decide +kernel), List.mem_of_getElem? (i := 1817) (by decide +kernel), List.mem_of_getElem? (i := 1818) (by decide +kernel)⟩
theorem lw_p104 : lw_okq (⟨"RansomHymnModel", "isBest", "(II)Z"⟩, 69) := ⟨⟨by decide +kernel, by decide +kernel⟩, List.mem_of_getElem? (i := 1271) (by decide +kernel), List.mem_of_getElem? (i := 1825) (by decide +kernel), List.mem_of_getElem? (i := 1826) (by decide +kernel)⟩
theorem lw_p105 : lw_okq (⟨"RansomHymnModel", "areVerses", "(I)Z"⟩, 69) := ⟨⟨by decide +kernel, by decide +kernel⟩, List.mem_of_getElem? (i := 1271) (by decide +kernel), List.mem_of_getElem? (i := 1833) (by decide +kernel), List.mem_of_getElem? (i := 1834) (by decide +kernel)⟩
theorem lw_p106 : lw_okq (⟨"RansomHymnModel", "sells", "(II)I"⟩, 69) := ⟨⟨by decide +kernel, by decide +kernel⟩, List.mem_of_getElem? (i := 1271) (by decide +kernel), List.mem_of_getElem? (i := 1837) (by decide +kernel), List.mem_of_getElem? (i := 1838) (by decide +kernel)⟩
theorem lw_p107 : lw_okq (⟨"RansomHymnModel", "strikes", "()V"⟩, 69) := ⟨⟨by decide +kernel, by decide +kernel⟩, List.mem_of_getElem? (i := 1271) (by decide +kernel), List.mem_of_getElem? (i := 1861) (by decide +kernel), List.mem_of_getElem? (i := 1862) (by decide +kernel)⟩
theorem lw_p108 : lw_okq (⟨"RansomHymnModel", "knownMany", "()I"⟩, 69) := ⟨⟨by decide +kernel, by decide +kernel⟩, List.mem_of_getElem? (i := 1271) (by decide +kernel), List.mem_of_getElem? (i := 1865) (by decide +kernel), List.mem_of_getElem? (i := 1866) (by decide +kernel)⟩
theorem lw_p109 : lw_okq (⟨"RansomHymnModel", "isThief", "(I)Z"⟩, 69) := ⟨⟨by decide +kernel, by decide +kernel⟩, List.mem_of_getElem? (i := 1271) (by decide +kernel), List.mem_of_getElem? (i := 1869) (by decide +kernel), List.mem_of_getElem? (i := 1870) (by decide +kernel)⟩
theorem lw_p110 : lw_okq (⟨"RansomHymnModel", "isHummed", "(I)Z"⟩, 69) := ⟨⟨by decide +kernel, by decide +kernel⟩, List.mem_of_getElem? (i := 1271) (by decide +kernel), List.mem_of_getElem? (i := 1873) (by decide +kernel), List.mem_of_getElem? (i := 1874) (by decide +kernel)⟩
theorem lw_p111 : lw_okq (⟨"RansomHymnModel", "isGang", "(I)Z"⟩, 69) := ⟨⟨by decide +kernel, by decide +kernel⟩, List.mem_of_getElem? (i := 1271) (by decide +kernel), List.mem_of_getElem? (i := 1892) (by decide +kernel), List.mem_of_getElem? (i := 1893) (by decide +kernel)⟩
def lw_privs_7 : List (MethodName × Nat) := [(⟨"RansomHymnModel", "layBest", "(I)V"⟩, 69), (⟨"RansomHymnModel", "layDues", "()V"⟩, 69), (⟨"RansomHymnModel", "starts", "()V"⟩, 69), (⟨"RansomHymnModel", "mayBe", "(I)Z"⟩, 69), (⟨"RansomHymnModel", "costOf", "(I)I"⟩, 69), (⟨"RansomHymnModel", "gainOf", "(I)I"⟩, 69), (⟨"RansomHymnModel", "tries", "(IIII)V"⟩, 69), (⟨"RansomHymnModel", "goesNext", "(I)Z"⟩, 69), (⟨"RansomHymnModel", "isBest", "(II)Z"⟩, 69), (⟨"RansomHymnModel", "areVerses", "(I)Z"⟩, 69), (⟨"RansomHymnModel", "sells", "(II)I"⟩, 69), (⟨"RansomHymnModel", "strikes", "()V"⟩, 69), (⟨"RansomHymnModel", "knownMany", "()I"⟩, 69), (⟨"RansomHymnModel", "isThief", "(I)Z"⟩, 69), (⟨"RansomHymnModel", "isHummed", "(I)Z"⟩, 69), (⟨"RansomHymnModel", "isGang", "(I)Z"⟩, 69)]
theorem lw_r7 : ∀ q ∈ lw_privs_7, lw_okq q := List.forall_mem_cons.mpr ⟨lw_p96, List.forall_mem_cons.mpr ⟨lw_p97, List.forall_mem_cons.mpr ⟨lw_p98, List.forall_mem_cons.mpr ⟨lw_p99, List.forall_mem_cons.mpr ⟨lw_p100, List.forall_mem_cons.mpr ⟨lw_p101, List.forall_mem_cons.mpr ⟨lw_p102, List.forall_mem_cons.mpr ⟨lw_p103, List.forall_mem_cons.mpr ⟨lw_p104, List.forall_mem_cons.mpr ⟨lw_p105, List.forall_mem_cons.mpr ⟨lw_p106, List.forall_mem_cons.mpr ⟨lw_p107, List.forall_mem_cons.mpr ⟨lw_p108, List.forall_mem_cons.mpr ⟨lw_p109, List.forall_mem_cons.mpr ⟨lw_p110, List.forall_mem_cons.mpr ⟨lw_p111, fun _ h => absurd h List.not_mem_nil⟩⟩⟩⟩⟩⟩⟩⟩⟩⟩⟩⟩⟩⟩⟩⟩
theorem lw_p112 : lw_okq (⟨"RansomHymnModel", "rows", "(IIIII)V"⟩, 69) := ⟨⟨by decide +kernel, by decide +kernel⟩, List.mem_of_getElem? (i := 1271) (by decide +kernel), List.mem_of_getElem? (i := 1903) (by decide +kernel), List.mem_of_getElem? (i := 1904) (by decide +kernel)⟩
theorem lw_p113 : lw_okq (⟨"RansomHymnModel", "hasOf", "(II)I"⟩, 69) := ⟨⟨by decide +kernel, by decide +kernel⟩, List.mem_of_getElem? (i := 1271) (by decide +kernel), List.mem_of_getElem? (i := 1915) (by decide +kernel), List.mem_of_getElem? (i := 1916) (by decide +kernel)⟩
theorem lw_p114 : lw_okq (⟨"RansomHymnModel", "copies", "(II)V"⟩, 69) := ⟨⟨by decide +kernel, by decide +kernel⟩, List.mem_of_getElem? (i := 1271) (by decide +kernel), List.mem_of_getElem? (i := 1933) (by decide +kernel), List.mem_of_getElem? (i := 1934) (by decide +kernel)⟩
def lw_privs_8 : List (MethodName × Nat) := [(⟨"RansomHymnModel", "rows", "(IIIII)V"⟩, 69), (⟨"RansomHymnModel", "hasOf", "(II)I"⟩, 69), (⟨"RansomHymnModel", "copies", "(II)V"⟩, 69)]
theorem lw_r8 : ∀ q ∈ lw_privs_8, lw_okq q := List.forall_mem_cons.mpr ⟨lw_p112, List.forall_mem_cons.mpr ⟨lw_p113, List.forall_mem_cons.mpr ⟨lw_p114, fun _ h => absurd h List.not_mem_nil⟩⟩⟩
def lw_privs : List (MethodName × Nat) := lw_privs_1 ++ (lw_privs_2 ++ (lw_privs_3 ++ (lw_privs_4 ++ (lw_privs_5 ++ (lw_privs_6 ++ (lw_privs_7 ++ (lw_privs_8)))))))
def lw_tbl : List Cond := k2_sels lw_privs ++ tables_1
theorem lw_privs_ok : ∀ q ∈ lw_privs, lw_okq q := by
  show ∀ q ∈ lw_privs_1 ++ (lw_privs_2 ++ (lw_privs_3 ++ (lw_privs_4 ++ (lw_privs_5 ++ (lw_privs_6 ++ (lw_privs_7 ++ (lw_privs_8))))))), lw_okq q
  exact List.forall_mem_append.mpr ⟨lw_r1, List.forall_mem_append.mpr ⟨lw_r2, List.forall_mem_append.mpr ⟨lw_r3, List.forall_mem_append.mpr ⟨lw_r4, List.forall_mem_append.mpr ⟨lw_r5, List.forall_mem_append.mpr ⟨lw_r6, List.forall_mem_append.mpr ⟨lw_r7, lw_r8⟩⟩⟩⟩⟩⟩⟩
end
section
/-! ===== BEGIN words of one list among another's, by their places ===== -/
theorem goodIn_r {big : List Cond} (ws : List Cond) (ps : List Nat) (hp : ws = ps.filterMap (fun i => big[i]?)) (h : ws.all goodWord = true) : GoodIn big ws := by
  intro w hw
  have h1 := List.all_eq_true.mp h w hw
  rw [hp] at hw
  obtain ⟨i, -, hi⟩ := List.mem_filterMap.mp hw
  have hm : w ∈ big := by first | exact List.mem_of_getElem? hi | exact List.getElem?_mem hi
  exact ⟨hm, good_of_word h1⟩
theorem goodIn_app {big a b : List Cond} (ha : GoodIn big a) (hb : GoodIn big b) : GoodIn big (a ++ b) := fun w h => (List.mem_append.mp h).elim (ha w) (hb w)
theorem goodIn_ca {big a b : List Cond} {c : Cond} (ha : GoodIn big (c :: a)) (hb : GoodIn big b) : GoodIn big (c :: (a ++ b)) := fun w h => (List.mem_cons.mp h).elim (fun e => ha w (List.mem_cons.mpr (Or.inl e))) (fun h => (List.mem_append.mp h).elim (fun h => ha w (List.mem_cons.mpr (Or.inr h))) (hb w))
theorem goodIn_sub {big ws : List Cond} (hm : ∀ w ∈ ws, w ∈ big) (h : ws.all goodWord = true) : GoodIn big ws := fun w hw => ⟨hm w hw, good_of_word (List.all_eq_true.mp h w hw)⟩
/-! ===== END ===== -/
end
section
def RX0 : String := "RansomHymn$Canon"
def TX0 : u_T := fun k => match k with
  | 0 => ("RansomHymn$Canon", "hymn", "LRansomHymn$Hymn;", true)
  | 1 => ("RansomHymn$Canon", "now", "LRansomHymn$World;", true)
  | 2 => ("RansomHymn$Canon", "laws", "LRansomHymn$Laws;", true)
  | 3 => ("RansomHymn$Canon", "heardBars", "[I", true)
  | 4 => ("RansomHymn$Canon", "row", "[I", true)
  | 5 => ("RansomHymn$Canon", "bestRow", "[I", true)
  | 6 => ("RansomHymn$Canon", "many", "I", false)
  | 7 => ("RansomHymn$Canon", "behind", "I", false)
  | 8 => ("RansomHymn$Canon", "length", "I", false)
  | _ => ("RansomHymn$Canon", "fewest", "I", false)
def tyX0 : Nat → FieldType := fun k => match k with
  | 0 => .object "RansomHymn$Hymn"
  | 1 => .object "RansomHymn$World"
  | 2 => .object "RansomHymn$Laws"
  | 3 => .array .int
  | 4 => .array .int
  | 5 => .array .int
  | 6 => .int
  | 7 => .int
  | 8 => .int
  | _ => .int
abbrev wsX00 : List Cond := u_ws RX0 TX0 10
theorem nmX0 : ∀ a, a < 10 → ∀ b, b < 10 → a ≠ b → (TX0 a).2.1 ≠ (TX0 b).2.1 := by decide +kernel
theorem tyX0_ok : ∀ k, k < 10 → parseFieldDescriptor (TX0 k).2.2.1 = some (tyX0 k) := by decide +kernel
abbrev cX0_init : ByteArray := prog_2_method_1_code
def yX0_init : MethodName := ⟨RX0, "<init>", "(LRansomHymn$Hymn;LRansomHymn$World;LRansomHymn$Laws;)V"⟩
abbrev cX0_fewestGaps : ByteArray := prog_2_method_2_code
def yX0_fewestGaps : MethodName := ⟨RX0, "fewestGaps", "(III)I"⟩
abbrev cX0_fill : ByteArray := prog_2_method_3_code
def yX0_fill : MethodName := ⟨RX0, "fill", "(IIJ)V"⟩
def RX1 : String := "RansomHymn$Choice"
def TX1 : u_T := fun k => match k with
  | 0 => ("RansomHymn$Choice", "hymn", "LRansomHymn$Hymn;", true)
  | 1 => ("RansomHymn$Choice", "now", "LRansomHymn$World;", true)
  | 2 => ("RansomHymn$Choice", "laws", "LRansomHymn$Laws;", true)
  | 3 => ("RansomHymn$Choice", "notes", "[I", true)
  | 4 => ("RansomHymn$Choice", "crowns", "[I", true)
  | 5 => ("RansomHymn$Choice", "verseCrowns", "[I", true)
  | 6 => ("RansomHymn$Choice", "restCrowns", "[[I", true)
  | 7 => ("RansomHymn$Choice", "singers", "[I", true)
  | 8 => ("RansomHymn$Choice", "rowNotes", "I", false)
  | 9 => ("RansomHymn$Choice", "rowCrowns", "I", false)
  | _ => ("RansomHymn$Choice", "weighed", "Z", false)
def tyX1 : Nat → FieldType := fun k => match k with
  | 0 => .object "RansomHymn$Hymn"
  | 1 => .object "RansomHymn$World"
  | 2 => .object "RansomHymn$Laws"
  | 3 => .array .int
  | 4 => .array .int
  | 5 => .array .int
  | 6 => .array (.array .int)
  | 7 => .array .int
  | 8 => .int
  | 9 => .int
  | _ => .boolean
abbrev wsX10 : List Cond := u_ws RX1 TX1 11
theorem nmX1 : ∀ a, a < 11 → ∀ b, b < 11 → a ≠ b → (TX1 a).2.1 ≠ (TX1 b).2.1 := by decide +kernel
theorem tyX1_ok : ∀ k, k < 11 → parseFieldDescriptor (TX1 k).2.2.1 = some (tyX1 k) := by decide +kernel
abbrev cX1_init : ByteArray := prog_3_method_1_code
def yX1_init : MethodName := ⟨RX1, "<init>", "(LRansomHymn$Hymn;LRansomHymn$World;LRansomHymn$Laws;)V"⟩
abbrev cX1_mostNotes : ByteArray := prog_3_method_2_code
def yX1_mostNotes : MethodName := ⟨RX1, "mostNotes", "(I)I"⟩
abbrev cX1_crownsFor : ByteArray := prog_3_method_3_code
def yX1_crownsFor : MethodName := ⟨RX1, "crownsFor", "(I)I"⟩
abbrev cX1_weigh : ByteArray := prog_3_method_4_code
def yX1_weigh : MethodName := ⟨RX1, "weigh", "()V"⟩
abbrev cX1_choose : ByteArray := prog_3_method_5_code
def yX1_choose : MethodName := ⟨RX1, "choose", "(I)V"⟩
abbrev cX1_isBest : ByteArray := prog_3_method_6_code
def yX1_isBest : MethodName := ⟨RX1, "isBest", "(II)Z"⟩
abbrev cX1_weighPart : ByteArray := prog_3_method_7_code
def yX1_weighPart : MethodName := ⟨RX1, "weighPart", "(II)V"⟩
abbrev cX1_weighRows : ByteArray := prog_3_method_8_code
def yX1_weighRows : MethodName := ⟨RX1, "weighRows", "(I)V"⟩
abbrev cX1_joinRest : ByteArray := prog_3_method_9_code
def yX1_joinRest : MethodName := ⟨RX1, "joinRest", "(I)V"⟩
abbrev cX1_rowsOf : ByteArray := prog_3_method_10_code
def yX1_rowsOf : MethodName := ⟨RX1, "rowsOf", "(I)I"⟩
abbrev cX1_fits : ByteArray := prog_3_method_11_code
def yX1_fits : MethodName := ⟨RX1, "fits", "(II)Z"⟩
def RX2 : String := "RansomHymn$Formulas"
def TX2 : u_T := fun k => match k with
  | 0 => ("RansomHymn$Formulas", "kinds", "[I", true)
  | 1 => ("RansomHymn$Formulas", "values", "[I", true)
  | 2 => ("RansomHymn$Formulas", "from", "[I", true)
  | 3 => ("RansomHymn$Formulas", "to", "[I", true)
  | 4 => ("RansomHymn$Formulas", "size", "I", false)
  | 5 => ("RansomHymn$Formulas", "waiting", "[I", true)
  | 6 => ("RansomHymn$Formulas", "depth", "I", false)
  | 7 => ("RansomHymn$Formulas", "open", "I", false)
  | 8 => ("RansomHymn$Formulas", "knots", "I", false)
  | _ => ("RansomHymn$Formulas", "wantsValue", "Z", false)
def tyX2 : Nat → FieldType := fun k => match k with
  | 0 => .array .int
  | 1 => .array .int
  | 2 => .array .int
  | 3 => .array .int
  | 4 => .int
  | 5 => .array .int
  | 6 => .int
  | 7 => .int
  | 8 => .int
  | _ => .boolean
abbrev wsX20 : List Cond := u_ws RX2 TX2 10
theorem nmX2 : ∀ a, a < 10 → ∀ b, b < 10 → a ≠ b → (TX2 a).2.1 ≠ (TX2 b).2.1 := by decide +kernel
theorem tyX2_ok : ∀ k, k < 10 → parseFieldDescriptor (TX2 k).2.2.1 = some (tyX2 k) := by decide +kernel
abbrev cX2_init : ByteArray := prog_4_method_1_code
def yX2_init : MethodName := ⟨RX2, "<init>", "()V"⟩
abbrev cX2_clear : ByteArray := prog_4_method_2_code
def yX2_clear : MethodName := ⟨RX2, "clear", "()V"⟩
abbrev cX2_take : ByteArray := prog_4_method_3_code
def yX2_take : MethodName := ⟨RX2, "take", "(LRansomHymn$Formulas;)V"⟩
abbrev cX2_isTold : ByteArray := prog_4_method_4_code
def yX2_isTold : MethodName := ⟨RX2, "isTold", "(I)Z"⟩
abbrev cX2_tell : ByteArray := prog_4_method_5_code
def yX2_tell : MethodName := ⟨RX2, "tell", "(ILRansomHymn$Tokens;)V"⟩
abbrev cX2_readValue : ByteArray := prog_4_method_6_code
def yX2_readValue : MethodName := ⟨RX2, "readValue", "(LRansomHymn$Tokens;)Z"⟩
abbrev cX2_readSign : ByteArray := prog_4_method_7_code
def yX2_readSign : MethodName := ⟨RX2, "readSign", "(LRansomHymn$Tokens;)Z"⟩
abbrev cX2_isRoom : ByteArray := prog_4_method_8_code
def yX2_isRoom : MethodName := ⟨RX2, "isRoom", "(LRansomHymn$Tokens;)Z"⟩
abbrev cX2_hold : ByteArray := prog_4_method_9_code
def yX2_hold : MethodName := ⟨RX2, "hold", "(I)Z"⟩
abbrev cX2_topLevel : ByteArray := prog_4_method_10_code
def yX2_topLevel : MethodName := ⟨RX2, "topLevel", "()I"⟩
abbrev cX2_settle : ByteArray := prog_4_method_11_code
def yX2_settle : MethodName := ⟨RX2, "settle", "(I)V"⟩
abbrev cX2_put : ByteArray := prog_4_method_12_code
def yX2_put : MethodName := ⟨RX2, "put", "(II)Z"⟩
abbrev cX2_levelOf : ByteArray := prog_4_method_13_code
def yX2_levelOf : MethodName := ⟨RX2, "levelOf", "(I)I"⟩
def RX3 : String := "RansomHymn$Hums"
def TX3 : u_T := fun k => match k with
  | 0 => ("RansomHymn$Hums", "hummed", "[I", true)
  | _ => ("RansomHymn$Hums", "size", "I", false)
def tyX3 : Nat → FieldType := fun k => match k with
  | 0 => .array .int
  | _ => .int
abbrev wsX30 : List Cond := u_ws RX3 TX3 2
theorem nmX3 : ∀ a, a < 2 → ∀ b, b < 2 → a ≠ b → (TX3 a).2.1 ≠ (TX3 b).2.1 := by decide +kernel
theorem tyX3_ok : ∀ k, k < 2 → parseFieldDescriptor (TX3 k).2.2.1 = some (tyX3 k) := by decide +kernel
abbrev cX3_init : ByteArray := prog_5_method_1_code
def yX3_init : MethodName := ⟨RX3, "<init>", "()V"⟩
abbrev cX3_add : ByteArray := prog_5_method_2_code
def yX3_add : MethodName := ⟨RX3, "add", "(I)I"⟩
abbrev cX3_pitches : ByteArray := prog_5_method_3_code
def yX3_pitches : MethodName := ⟨RX3, "pitches", "(I)J"⟩
def RX4 : String := "RansomHymn$Hymn"
def TX4 : u_T := fun k => match k with
  | 0 => ("RansomHymn$Hymn", "taverns", "LRansomHymn$Roll;", true)
  | 1 => ("RansomHymn$Hymn", "voices", "LRansomHymn$Roll;", true)
  | 2 => ("RansomHymn$Hymn", "verses", "LRansomHymn$Roll;", true)
  | 3 => ("RansomHymn$Hymn", "bakers", "LRansomHymn$Roll;", true)
  | 4 => ("RansomHymn$Hymn", "rates", "[I", true)
  | 5 => ("RansomHymn$Hymn", "tills", "[I", true)
  | 6 => ("RansomHymn$Hymn", "lows", "[I", true)
  | 7 => ("RansomHymn$Hymn", "highs", "[I", true)
  | 8 => ("RansomHymn$Hymn", "homes", "[I", true)
  | 9 => ("RansomHymn$Hymn", "debts", "[I", true)
  | 10 => ("RansomHymn$Hymn", "chances", "[I", true)
  | 11 => ("RansomHymn$Hymn", "partsOf", "[I", true)
  | 12 => ("RansomHymn$Hymn", "barsOf", "[I", true)
  | 13 => ("RansomHymn$Hymn", "pitches", "[I", true)
  | 14 => ("RansomHymn$Hymn", "bakerPurses", "[I", true)
  | 15 => ("RansomHymn$Hymn", "formulas", "LRansomHymn$Formulas;", true)
  | 16 => ("RansomHymn$Hymn", "boys", "I", false)
  | 17 => ("RansomHymn$Hymn", "purse", "I", false)
  | _ => ("RansomHymn$Hymn", "seed", "I", false)
def tyX4 : Nat → FieldType := fun k => match k with
  | 0 => .object "RansomHymn$Roll"
  | 1 => .object "RansomHymn$Roll"
  | 2 => .object "RansomHymn$Roll"
  | 3 => .object "RansomHymn$Roll"
  | 4 => .array .int
  | 5 => .array .int
  | 6 => .array .int
  | 7 => .array .int
  | 8 => .array .int
  | 9 => .array .int
  | 10 => .array .int
  | 11 => .array .int
  | 12 => .array .int
  | 13 => .array .int
  | 14 => .array .int
  | 15 => .object "RansomHymn$Formulas"
  | 16 => .int
  | 17 => .int
  | _ => .int
abbrev wsX40 : List Cond := u_ws RX4 TX4 19
theorem nmX4 : ∀ a, a < 19 → ∀ b, b < 19 → a ≠ b → (TX4 a).2.1 ≠ (TX4 b).2.1 := by decide +kernel
theorem tyX4_ok : ∀ k, k < 19 → parseFieldDescriptor (TX4 k).2.2.1 = some (tyX4 k) := by decide +kernel
abbrev cX4_init : ByteArray := prog_6_method_1_code
def yX4_init : MethodName := ⟨RX4, "<init>", "()V"⟩
abbrev cX4_clear : ByteArray := prog_6_method_2_code
def yX4_clear : MethodName := ⟨RX4, "clear", "()V"⟩
abbrev cX4_take : ByteArray := prog_6_method_3_code
def yX4_take : MethodName := ⟨RX4, "take", "(LRansomHymn$Hymn;)V"⟩
abbrev cX4_hasPart : ByteArray := prog_6_method_4_code
def yX4_hasPart : MethodName := ⟨RX4, "hasPart", "(II)Z"⟩
abbrev cX4_hasVerses : ByteArray := prog_6_method_5_code
def yX4_hasVerses : MethodName := ⟨RX4, "hasVerses", "(I)Z"⟩
abbrev cX4_isBoy : ByteArray := prog_6_method_6_code
def yX4_isBoy : MethodName := ⟨RX4, "isBoy", "(I)Z"⟩
abbrev cX4_pitchAt : ByteArray := prog_6_method_7_code
def yX4_pitchAt : MethodName := ⟨RX4, "pitchAt", "(II)I"⟩
abbrev cX4_restsIn : ByteArray := prog_6_method_8_code
def yX4_restsIn : MethodName := ⟨RX4, "restsIn", "(I)I"⟩
abbrev cX4_highestIn : ByteArray := prog_6_method_9_code
def yX4_highestIn : MethodName := ⟨RX4, "highestIn", "(I)I"⟩
abbrev cX4_reach : ByteArray := prog_6_method_10_code
def yX4_reach : MethodName := ⟨RX4, "reach", "(I)J"⟩
abbrev cX4_reachedBars : ByteArray := prog_6_method_11_code
def yX4_reachedBars : MethodName := ⟨RX4, "reachedBars", "(II)I"⟩
def RX5 : String := "RansomHymn$Laws"
def TX5 : u_T := fun k => match k with
  | 0 => ("RansomHymn$Laws", "hymn", "LRansomHymn$Hymn;", true)
  | 1 => ("RansomHymn$Laws", "now", "LRansomHymn$World;", true)
  | 2 => ("RansomHymn$Laws", "names", "[J", true)
  | 3 => ("RansomHymn$Laws", "stack", "[J", true)
  | 4 => ("RansomHymn$Laws", "top", "I", false)
  | _ => ("RansomHymn$Laws", "error", "Z", false)
def tyX5 : Nat → FieldType := fun k => match k with
  | 0 => .object "RansomHymn$Hymn"
  | 1 => .object "RansomHymn$World"
  | 2 => .array .long
  | 3 => .array .long
  | 4 => .int
  | _ => .boolean
abbrev wsX50 : List Cond := u_ws RX5 TX5 6
theorem nmX5 : ∀ a, a < 6 → ∀ b, b < 6 → a ≠ b → (TX5 a).2.1 ≠ (TX5 b).2.1 := by decide +kernel
theorem tyX5_ok : ∀ k, k < 6 → parseFieldDescriptor (TX5 k).2.2.1 = some (tyX5 k) := by decide +kernel
abbrev cX5_init : ByteArray := prog_7_method_1_code
def yX5_init : MethodName := ⟨RX5, "<init>", "(LRansomHymn$Hymn;LRansomHymn$World;)V"⟩
abbrev cX5_soundBits : ByteArray := prog_7_method_2_code
def yX5_soundBits : MethodName := ⟨RX5, "soundBits", "(II)I"⟩
abbrev cX5_dueFor : ByteArray := prog_7_method_3_code
def yX5_dueFor : MethodName := ⟨RX5, "dueFor", "(III)I"⟩
abbrev cX5_crackFor : ByteArray := prog_7_method_4_code
def yX5_crackFor : MethodName := ⟨RX5, "crackFor", "(II)I"⟩
abbrev cX5_bidFor : ByteArray := prog_7_method_5_code
def yX5_bidFor : MethodName := ⟨RX5, "bidFor", "(III)I"⟩
abbrev cX5_setOwner : ByteArray := prog_7_method_6_code
def yX5_setOwner : MethodName := ⟨RX5, "setOwner", "(III)V"⟩
abbrev cX5_setMusic : ByteArray := prog_7_method_7_code
def yX5_setMusic : MethodName := ⟨RX5, "setMusic", "(IIII)V"⟩
abbrev cX5_reckon : ByteArray := prog_7_method_8_code
def yX5_reckon : MethodName := ⟨RX5, "reckon", "(III)I"⟩
abbrev cX5_apply : ByteArray := prog_7_method_9_code
def yX5_apply : MethodName := ⟨RX5, "apply", "(II)V"⟩
abbrev cX5_scale : ByteArray := prog_7_method_10_code
def yX5_scale : MethodName := ⟨RX5, "scale", "(IJJ)J"⟩
abbrev cX5_join : ByteArray := prog_7_method_11_code
def yX5_join : MethodName := ⟨RX5, "join", "(IJJ)J"⟩
abbrev cX5_push : ByteArray := prog_7_method_12_code
def yX5_push : MethodName := ⟨RX5, "push", "(J)V"⟩
abbrev cX5_pop : ByteArray := prog_7_method_13_code
def yX5_pop : MethodName := ⟨RX5, "pop", "()J"⟩
def RX6 : String := "RansomHymn$Roll"
def TX6 : u_T := fun k => match k with
  | 0 => ("RansomHymn$Roll", "names", "[I", true)
  | _ => ("RansomHymn$Roll", "size", "I", false)
def tyX6 : Nat → FieldType := fun k => match k with
  | 0 => .array .int
  | _ => .int
abbrev wsX60 : List Cond := u_ws RX6 TX6 2
theorem nmX6 : ∀ a, a < 2 → ∀ b, b < 2 → a ≠ b → (TX6 a).2.1 ≠ (TX6 b).2.1 := by decide +kernel
theorem tyX6_ok : ∀ k, k < 2 → parseFieldDescriptor (TX6 k).2.2.1 = some (tyX6 k) := by decide +kernel
abbrev cX6_init : ByteArray := prog_8_method_1_code
def yX6_init : MethodName := ⟨RX6, "<init>", "(I)V"⟩
abbrev cX6_isFull : ByteArray := prog_8_method_2_code
def yX6_isFull : MethodName := ⟨RX6, "isFull", "()Z"⟩
abbrev cX6_holds : ByteArray := prog_8_method_3_code
def yX6_holds : MethodName := ⟨RX6, "holds", "(I)Z"⟩
abbrev cX6_find : ByteArray := prog_8_method_4_code
def yX6_find : MethodName := ⟨RX6, "find", "(I)I"⟩
abbrev cX6_add : ByteArray := prog_8_method_5_code
def yX6_add : MethodName := ⟨RX6, "add", "(I)I"⟩
abbrev cX6_take : ByteArray := prog_8_method_6_code
def yX6_take : MethodName := ⟨RX6, "take", "(LRansomHymn$Roll;)V"⟩
def RX7 : String := "RansomHymn$Sale"
def TX7 : u_T := fun k => match k with
  | 0 => ("RansomHymn$Sale", "hymn", "LRansomHymn$Hymn;", true)
  | 1 => ("RansomHymn$Sale", "now", "LRansomHymn$World;", true)
  | 2 => ("RansomHymn$Sale", "laws", "LRansomHymn$Laws;", true)
  | 3 => ("RansomHymn$Sale", "owners", "[I", true)
  | 4 => ("RansomHymn$Sale", "prices", "[I", true)
  | _ => ("RansomHymn$Sale", "left", "[I", true)
def tyX7 : Nat → FieldType := fun k => match k with
  | 0 => .object "RansomHymn$Hymn"
  | 1 => .object "RansomHymn$World"
  | 2 => .object "RansomHymn$Laws"
  | 3 => .array .int
  | 4 => .array .int
  | _ => .array .int
abbrev wsX70 : List Cond := u_ws RX7 TX7 6
theorem nmX7 : ∀ a, a < 6 → ∀ b, b < 6 → a ≠ b → (TX7 a).2.1 ≠ (TX7 b).2.1 := by decide +kernel
theorem tyX7_ok : ∀ k, k < 6 → parseFieldDescriptor (TX7 k).2.2.1 = some (tyX7 k) := by decide +kernel
abbrev cX7_init : ByteArray := prog_9_method_1_code
def yX7_init : MethodName := ⟨RX7, "<init>", "(LRansomHymn$Hymn;LRansomHymn$World;LRansomHymn$Laws;)V"⟩
abbrev cX7_hold : ByteArray := prog_9_method_2_code
def yX7_hold : MethodName := ⟨RX7, "hold", "(I)I"⟩
abbrev cX7_sellVerse : ByteArray := prog_9_method_3_code
def yX7_sellVerse : MethodName := ⟨RX7, "sellVerse", "(I)V"⟩
def RX8 : String := "RansomHymn$Teller"
def TX8 : u_T := fun k => match k with
  | 0 => ("RansomHymn$Teller", "tokens", "LRansomHymn$Tokens;", true)
  | 1 => ("RansomHymn$Teller", "hymn", "LRansomHymn$Hymn;", true)
  | 2 => ("RansomHymn$Teller", "purseTold", "Z", false)
  | _ => ("RansomHymn$Teller", "seedTold", "Z", false)
def tyX8 : Nat → FieldType := fun k => match k with
  | 0 => .object "RansomHymn$Tokens"
  | 1 => .object "RansomHymn$Hymn"
  | 2 => .boolean
  | _ => .boolean
abbrev wsX80 : List Cond := u_ws RX8 TX8 4
theorem nmX8 : ∀ a, a < 4 → ∀ b, b < 4 → a ≠ b → (TX8 a).2.1 ≠ (TX8 b).2.1 := by decide +kernel
theorem tyX8_ok : ∀ k, k < 4 → parseFieldDescriptor (TX8 k).2.2.1 = some (tyX8 k) := by decide +kernel
abbrev cX8_init : ByteArray := prog_10_method_1_code
def yX8_init : MethodName := ⟨RX8, "<init>", "(LRansomHymn$Tokens;LRansomHymn$Hymn;)V"⟩
abbrev cX8_tell : ByteArray := prog_10_method_2_code
def yX8_tell : MethodName := ⟨RX8, "tell", "(I)I"⟩
abbrev cX8_readTavern : ByteArray := prog_10_method_3_code
def yX8_readTavern : MethodName := ⟨RX8, "readTavern", "()V"⟩
abbrev cX8_readVoice : ByteArray := prog_10_method_4_code
def yX8_readVoice : MethodName := ⟨RX8, "readVoice", "()V"⟩
abbrev cX8_readVerse : ByteArray := prog_10_method_5_code
def yX8_readVerse : MethodName := ⟨RX8, "readVerse", "()V"⟩
abbrev cX8_readPart : ByteArray := prog_10_method_6_code
def yX8_readPart : MethodName := ⟨RX8, "readPart", "(I)V"⟩
abbrev cX8_readBaker : ByteArray := prog_10_method_7_code
def yX8_readBaker : MethodName := ⟨RX8, "readBaker", "()V"⟩
abbrev cX8_loneNumber : ByteArray := prog_10_method_8_code
def yX8_loneNumber : MethodName := ⟨RX8, "loneNumber", "(ZI)I"⟩
abbrev cX8_readLaw : ByteArray := prog_10_method_9_code
def yX8_readLaw : MethodName := ⟨RX8, "readLaw", "()V"⟩
abbrev cX8_begin : ByteArray := prog_10_method_10_code
def yX8_begin : MethodName := ⟨RX8, "begin", "(LRansomHymn$Roll;)I"⟩
abbrev cX8_toldTavern : ByteArray := prog_10_method_11_code
def yX8_toldTavern : MethodName := ⟨RX8, "toldTavern", "()I"⟩
abbrev cX8_number : ByteArray := prog_10_method_12_code
def yX8_number : MethodName := ⟨RX8, "number", "(II)I"⟩
abbrev cX8_skips : ByteArray := prog_10_method_13_code
def yX8_skips : MethodName := ⟨RX8, "skips", "(I)Z"⟩
def RX9 : String := "RansomHymn$Tokens"
def TX9 : u_T := fun k => match k with
  | 0 => ("RansomHymn$Tokens", "bytes", "[B", true)
  | 1 => ("RansomHymn$Tokens", "words", "[I", true)
  | 2 => ("RansomHymn$Tokens", "end", "I", false)
  | 3 => ("RansomHymn$Tokens", "at", "I", false)
  | 4 => ("RansomHymn$Tokens", "kind", "I", false)
  | 5 => ("RansomHymn$Tokens", "place", "I", false)
  | 6 => ("RansomHymn$Tokens", "value", "I", false)
  | 7 => ("RansomHymn$Tokens", "faultKind", "I", false)
  | _ => ("RansomHymn$Tokens", "faultPlace", "I", false)
def tyX9 : Nat → FieldType := fun k => match k with
  | 0 => .array .byte
  | 1 => .array .int
  | 2 => .int
  | 3 => .int
  | 4 => .int
  | 5 => .int
  | 6 => .int
  | 7 => .int
  | _ => .int
abbrev wsX90 : List Cond := u_ws RX9 TX9 9
theorem nmX9 : ∀ a, a < 9 → ∀ b, b < 9 → a ≠ b → (TX9 a).2.1 ≠ (TX9 b).2.1 := by decide +kernel
theorem tyX9_ok : ∀ k, k < 9 → parseFieldDescriptor (TX9 k).2.2.1 = some (tyX9 k) := by decide +kernel
abbrev cX9_init : ByteArray := prog_11_method_1_code
def yX9_init : MethodName := ⟨RX9, "<init>", "([B)V"⟩
abbrev cX9_packWords : ByteArray := prog_11_method_2_code
def yX9_packWords : MethodName := ⟨RX9, "packWords", "(Ljava/lang/String;I)V"⟩
abbrev cX9_start : ByteArray := prog_11_method_3_code
def yX9_start : MethodName := ⟨RX9, "start", "(I)V"⟩
abbrev cX9_fail : ByteArray := prog_11_method_4_code
def yX9_fail : MethodName := ⟨RX9, "fail", "(I)Z"⟩
abbrev cX9_next : ByteArray := prog_11_method_5_code
def yX9_next : MethodName := ⟨RX9, "next", "()V"⟩
abbrev cX9_isLetter : ByteArray := prog_11_method_6_code
def yX9_isLetter : MethodName := ⟨RX9, "isLetter", "(I)Z"⟩
abbrev cX9_isDigit : ByteArray := prog_11_method_7_code
def yX9_isDigit : MethodName := ⟨RX9, "isDigit", "(I)Z"⟩
abbrev cX9_readWord : ByteArray := prog_11_method_8_code
def yX9_readWord : MethodName := ⟨RX9, "readWord", "()V"⟩
abbrev cX9_readNumber : ByteArray := prog_11_method_9_code
def yX9_readNumber : MethodName := ⟨RX9, "readNumber", "()V"⟩
abbrev cX9_readSign : ByteArray := prog_11_method_10_code
def yX9_readSign : MethodName := ⟨RX9, "readSign", "()V"⟩
abbrev cX9_signKind : ByteArray := prog_11_method_11_code
def yX9_signKind : MethodName := ⟨RX9, "signKind", "(II)I"⟩
def RX10 : String := "RansomHymn$World"
def TX10 : u_T := fun k => match k with
  | 0 => ("RansomHymn$World", "tills", "[I", true)
  | 1 => ("RansomHymn$World", "claims", "[I", true)
  | 2 => ("RansomHymn$World", "bakerPurses", "[I", true)
  | 3 => ("RansomHymn$World", "singers", "[I", true)
  | 4 => ("RansomHymn$World", "slots", "[I", true)
  | 5 => ("RansomHymn$World", "paid", "[I", true)
  | 6 => ("RansomHymn$World", "redeemed", "I", false)
  | 7 => ("RansomHymn$World", "week", "I", false)
  | 8 => ("RansomHymn$World", "purse", "I", false)
  | 9 => ("RansomHymn$World", "paidOut", "I", false)
  | 10 => ("RansomHymn$World", "cracked", "I", false)
  | 11 => ("RansomHymn$World", "knownBy", "I", false)
  | _ => ("RansomHymn$World", "random", "I", false)
def tyX10 : Nat → FieldType := fun k => match k with
  | 0 => .array .int
  | 1 => .array .int
  | 2 => .array .int
  | 3 => .array .int
  | 4 => .array .int
  | 5 => .array .int
  | 6 => .int
  | 7 => .int
  | 8 => .int
  | 9 => .int
  | 10 => .int
  | 11 => .int
  | _ => .int
abbrev wsX100 : List Cond := u_ws RX10 TX10 13
theorem nmX10 : ∀ a, a < 13 → ∀ b, b < 13 → a ≠ b → (TX10 a).2.1 ≠ (TX10 b).2.1 := by decide +kernel
theorem tyX10_ok : ∀ k, k < 13 → parseFieldDescriptor (TX10 k).2.2.1 = some (tyX10 k) := by decide +kernel
abbrev cX10_init : ByteArray := prog_12_method_1_code
def yX10_init : MethodName := ⟨RX10, "<init>", "()V"⟩
abbrev cX10_begin : ByteArray := prog_12_method_2_code
def yX10_begin : MethodName := ⟨RX10, "begin", "(LRansomHymn$Hymn;)V"⟩
abbrev cX10_take : ByteArray := prog_12_method_3_code
def yX10_take : MethodName := ⟨RX10, "take", "(LRansomHymn$World;)V"⟩
abbrev cX10_isCracked : ByteArray := prog_12_method_4_code
def yX10_isCracked : MethodName := ⟨RX10, "isCracked", "(I)Z"⟩
abbrev cX10_enlist : ByteArray := prog_12_method_5_code
def yX10_enlist : MethodName := ⟨RX10, "enlist", "(IIII)V"⟩
abbrev cX10_dismiss : ByteArray := prog_12_method_6_code
def yX10_dismiss : MethodName := ⟨RX10, "dismiss", "(I)V"⟩
abbrev cX10_dismissAll : ByteArray := prog_12_method_7_code
def yX10_dismissAll : MethodName := ⟨RX10, "dismissAll", "()V"⟩
abbrev cX10_nextNumber : ByteArray := prog_12_method_8_code
def yX10_nextNumber : MethodName := ⟨RX10, "nextNumber", "()I"⟩
abbrev cX10_allCoin : ByteArray := prog_12_method_9_code
def yX10_allCoin : MethodName := ⟨RX10, "allCoin", "()I"⟩
def RX11 : String := "RansomHymn"
def TX11 : u_T := fun k => match k with
  | 0 => ("RansomHymn", "tape", "[B", true)
  | 1 => ("RansomHymn", "hymn", "LRansomHymn$Hymn;", true)
  | 2 => ("RansomHymn", "draft", "LRansomHymn$Hymn;", true)
  | 3 => ("RansomHymn", "teller", "LRansomHymn$Teller;", true)
  | 4 => ("RansomHymn", "now", "LRansomHymn$World;", true)
  | 5 => ("RansomHymn", "image", "LRansomHymn$World;", true)
  | 6 => ("RansomHymn", "hums", "LRansomHymn$Hums;", true)
  | 7 => ("RansomHymn", "laws", "LRansomHymn$Laws;", true)
  | 8 => ("RansomHymn", "choice", "LRansomHymn$Choice;", true)
  | 9 => ("RansomHymn", "sale", "LRansomHymn$Sale;", true)
  | 10 => ("RansomHymn", "canon", "LRansomHymn$Canon;", true)
  | 11 => ("RansomHymn", "taped", "I", false)
  | 12 => ("RansomHymn", "faultKind", "I", false)
  | 13 => ("RansomHymn", "faultPlace", "I", false)
  | _ => ("RansomHymn", "kept", "Z", false)
def tyX11 : Nat → FieldType := fun k => match k with
  | 0 => .array .byte
  | 1 => .object "RansomHymn$Hymn"
  | 2 => .object "RansomHymn$Hymn"
  | 3 => .object "RansomHymn$Teller"
  | 4 => .object "RansomHymn$World"
  | 5 => .object "RansomHymn$World"
  | 6 => .object "RansomHymn$Hums"
  | 7 => .object "RansomHymn$Laws"
  | 8 => .object "RansomHymn$Choice"
  | 9 => .object "RansomHymn$Sale"
  | 10 => .object "RansomHymn$Canon"
  | 11 => .int
  | 12 => .int
  | 13 => .int
  | _ => .boolean
abbrev wsX110 : List Cond := u_ws RX11 TX11 15
theorem nmX11 : ∀ a, a < 15 → ∀ b, b < 15 → a ≠ b → (TX11 a).2.1 ≠ (TX11 b).2.1 := by decide +kernel
theorem tyX11_ok : ∀ k, k < 15 → parseFieldDescriptor (TX11 k).2.2.1 = some (tyX11 k) := by decide +kernel
abbrev cX11_init : ByteArray := prog_1_method_1_code
def yX11_init : MethodName := ⟨RX11, "<init>", "()V"⟩
abbrev cX11_feed : ByteArray := prog_1_method_2_code
def yX11_feed : MethodName := ⟨RX11, "feed", "(IIIII)I"⟩
abbrev cX11_text : ByteArray := prog_1_method_3_code
def yX11_text : MethodName := ⟨RX11, "text", "(I)I"⟩
abbrev cX11_fault : ByteArray := prog_1_method_4_code
def yX11_fault : MethodName := ⟨RX11, "fault", "(I)I"⟩
abbrev cX11_named : ByteArray := prog_1_method_5_code
def yX11_named : MethodName := ⟨RX11, "named", "(II)I"⟩
abbrev cX11_look : ByteArray := prog_1_method_6_code
def yX11_look : MethodName := ⟨RX11, "look", "(II)I"⟩
abbrev cX11_tavern : ByteArray := prog_1_method_7_code
def yX11_tavern : MethodName := ⟨RX11, "tavern", "(II)I"⟩
abbrev cX11_verse : ByteArray := prog_1_method_8_code
def yX11_verse : MethodName := ⟨RX11, "verse", "(II)I"⟩
abbrev cX11_pitch : ByteArray := prog_1_method_9_code
def yX11_pitch : MethodName := ⟨RX11, "pitch", "(III)I"⟩
abbrev cX11_due : ByteArray := prog_1_method_10_code
def yX11_due : MethodName := ⟨RX11, "due", "(III)I"⟩
abbrev cX11_sounds : ByteArray := prog_1_method_11_code
def yX11_sounds : MethodName := ⟨RX11, "sounds", "(III)I"⟩
abbrev cX11_bids : ByteArray := prog_1_method_12_code
def yX11_bids : MethodName := ⟨RX11, "bids", "(II)I"⟩
abbrev cX11_cracks : ByteArray := prog_1_method_13_code
def yX11_cracks : MethodName := ⟨RX11, "cracks", "(I)I"⟩
abbrev cX11_redeem : ByteArray := prog_1_method_14_code
def yX11_redeem : MethodName := ⟨RX11, "redeem", "(III)I"⟩
abbrev cX11_undo : ByteArray := prog_1_method_15_code
def yX11_undo : MethodName := ⟨RX11, "undo", "()I"⟩
abbrev cX11_sings : ByteArray := prog_1_method_16_code
def yX11_sings : MethodName := ⟨RX11, "sings", "(II)I"⟩
abbrev cX11_bar : ByteArray := prog_1_method_17_code
def yX11_bar : MethodName := ⟨RX11, "bar", "(II)I"⟩
abbrev cX11_sunday : ByteArray := prog_1_method_18_code
def yX11_sunday : MethodName := ⟨RX11, "sunday", "()I"⟩
abbrev cX11_best : ByteArray := prog_1_method_19_code
def yX11_best : MethodName := ⟨RX11, "best", "(II)I"⟩
abbrev cX11_chosen : ByteArray := prog_1_method_20_code
def yX11_chosen : MethodName := ⟨RX11, "chosen", "(III)I"⟩
abbrev cX11_sold : ByteArray := prog_1_method_21_code
def yX11_sold : MethodName := ⟨RX11, "sold", "(III)I"⟩
abbrev cX11_easter : ByteArray := prog_1_method_22_code
def yX11_easter : MethodName := ⟨RX11, "easter", "(I)I"⟩
abbrev cX11_hum : ByteArray := prog_1_method_23_code
def yX11_hum : MethodName := ⟨RX11, "hum", "(I)I"⟩
abbrev cX11_strike : ByteArray := prog_1_method_24_code
def yX11_strike : MethodName := ⟨RX11, "strike", "(I)I"⟩
abbrev cX11_known : ByteArray := prog_1_method_25_code
def yX11_known : MethodName := ⟨RX11, "known", "(I)Z"⟩
abbrev cX11_thieves : ByteArray := prog_1_method_26_code
def yX11_thieves : MethodName := ⟨RX11, "thieves", "()I"⟩
abbrev cX11_odds : ByteArray := prog_1_method_27_code
def yX11_odds : MethodName := ⟨RX11, "odds", "(II)I"⟩
abbrev cX11_gang : ByteArray := prog_1_method_28_code
def yX11_gang : MethodName := ⟨RX11, "gang", "()I"⟩
abbrev cX11_round : ByteArray := prog_1_method_29_code
def yX11_round : MethodName := ⟨RX11, "round", "(IIII)I"⟩
abbrev cX11_entry : ByteArray := prog_1_method_30_code
def yX11_entry : MethodName := ⟨RX11, "entry", "(IIIII)I"⟩
abbrev cX11_run : ByteArray := prog_1_method_31_code
def yX11_run : MethodName := ⟨RX11, "run", "(II)I"⟩
abbrev cX11_pay : ByteArray := prog_1_method_32_code
def yX11_pay : MethodName := ⟨RX11, "pay", "(I)I"⟩
abbrev cX11_whole : ByteArray := prog_1_method_33_code
def yX11_whole : MethodName := ⟨RX11, "whole", "(III)J"⟩
abbrev cX11_keep : ByteArray := prog_1_method_34_code
def yX11_keep : MethodName := ⟨RX11, "keep", "()I"⟩
abbrev cX11_back : ByteArray := prog_1_method_35_code
def yX11_back : MethodName := ⟨RX11, "back", "()I"⟩
abbrev cX11_count : ByteArray := prog_1_method_36_code
def yX11_count : MethodName := ⟨RX11, "count", "(I)I"⟩
abbrev cX11_slotOf : ByteArray := prog_1_method_37_code
def yX11_slotOf : MethodName := ⟨RX11, "slotOf", "(II)I"⟩
abbrev cX11_tapeNumber : ByteArray := prog_1_method_38_code
def yX11_tapeNumber : MethodName := ⟨RX11, "tapeNumber", "(I)V"⟩
abbrev cX11_claimsOn : ByteArray := prog_1_method_39_code
def yX11_claimsOn : MethodName := ⟨RX11, "claimsOn", "(I)I"⟩
abbrev cX11_singsIn : ByteArray := prog_1_method_40_code
def yX11_singsIn : MethodName := ⟨RX11, "singsIn", "(II)Z"⟩
abbrev cX11_singPart : ByteArray := prog_1_method_41_code
def yX11_singPart : MethodName := ⟨RX11, "singPart", "(I)I"⟩
abbrev cX11_crackBoys : ByteArray := prog_1_method_42_code
def yX11_crackBoys : MethodName := ⟨RX11, "crackBoys", "()V"⟩
abbrev cX11_knownCount : ByteArray := prog_1_method_43_code
def yX11_knownCount : MethodName := ⟨RX11, "knownCount", "()I"⟩
abbrev cX11_reachOf : ByteArray := prog_1_method_44_code
def yX11_reachOf : MethodName := ⟨RX11, "reachOf", "(I)J"⟩
abbrev cX11_isRound : ByteArray := prog_1_method_45_code
def yX11_isRound : MethodName := ⟨RX11, "isRound", "(IIII)Z"⟩
abbrev cX11_shareOf : ByteArray := prog_1_method_46_code
def yX11_shareOf : MethodName := ⟨RX11, "shareOf", "(II)I"⟩
abbrev cX11_leastTerm : ByteArray := prog_1_method_47_code
def yX11_leastTerm : MethodName := ⟨RX11, "leastTerm", "(JJI)J"⟩
def RX12 : String := "RansomHymnModel"
def TX12 : u_T := fun k => match k with
  | 0 => ("RansomHymnModel", "thrown", "I", false)
  | 1 => ("RansomHymnModel", "tape", "[I", true)
  | 2 => ("RansomHymnModel", "taped", "I", false)
  | 3 => ("RansomHymnModel", "number", "[I", true)
  | 4 => ("RansomHymnModel", "tavernName", "[I", true)
  | 5 => ("RansomHymnModel", "tavernRate", "[I", true)
  | 6 => ("RansomHymnModel", "tavernTill", "[I", true)
  | 7 => ("RansomHymnModel", "voiceName", "[I", true)
  | 8 => ("RansomHymnModel", "voiceLow", "[I", true)
  | 9 => ("RansomHymnModel", "voiceHigh", "[I", true)
  | 10 => ("RansomHymnModel", "isBoy", "[Z", true)
  | 11 => ("RansomHymnModel", "pawnAt", "[I", true)
  | 12 => ("RansomHymnModel", "voiceDebt", "[I", true)
  | 13 => ("RansomHymnModel", "voiceOdds", "[I", true)
  | 14 => ("RansomHymnModel", "verseName", "[I", true)
  | 15 => ("RansomHymnModel", "verseParts", "[I", true)
  | 16 => ("RansomHymnModel", "barMany", "[I", true)
  | 17 => ("RansomHymnModel", "pitches", "[I", true)
  | 18 => ("RansomHymnModel", "bakerName", "[I", true)
  | 19 => ("RansomHymnModel", "bakerPurse", "[I", true)
  | 20 => ("RansomHymnModel", "sumFrom", "[I", true)
  | 21 => ("RansomHymnModel", "sumTo", "[I", true)
  | 22 => ("RansomHymnModel", "knotSort", "[I", true)
  | 23 => ("RansomHymnModel", "knotValue", "[I", true)
  | 24 => ("RansomHymnModel", "told", "I", false)
  | 25 => ("RansomHymnModel", "lines", "I", false)
  | 26 => ("RansomHymnModel", "size", "I", false)
  | 27 => ("RansomHymnModel", "at", "I", false)
  | 28 => ("RansomHymnModel", "place", "I", false)
  | 29 => ("RansomHymnModel", "sort", "I", false)
  | 30 => ("RansomHymnModel", "value", "I", false)
  | 31 => ("RansomHymnModel", "fault", "I", false)
  | 32 => ("RansomHymnModel", "faultPlace", "I", false)
  | 33 => ("RansomHymnModel", "lastFault", "I", false)
  | 34 => ("RansomHymnModel", "lastPlace", "I", false)
  | 35 => ("RansomHymnModel", "open", "I", false)
  | 36 => ("RansomHymnModel", "counted", "I", false)
  | 37 => ("RansomHymnModel", "week", "[I", true)
  | 38 => ("RansomHymnModel", "purse", "[I", true)
  | 39 => ("RansomHymnModel", "drawn", "[I", true)
  | 40 => ("RansomHymnModel", "runsPaid", "[I", true)
  | 41 => ("RansomHymnModel", "cracked", "[I", true)
  | 42 => ("RansomHymnModel", "till", "[I", true)
  | 43 => ("RansomHymnModel", "bakerNow", "[I", true)
  | 44 => ("RansomHymnModel", "claim", "[I", true)
  | 45 => ("RansomHymnModel", "sung", "[I", true)
  | 46 => ("RansomHymnModel", "doneMany", "[I", true)
  | 47 => ("RansomHymnModel", "donePart", "[I", true)
  | 48 => ("RansomHymnModel", "donePaid", "[I", true)
  | 49 => ("RansomHymnModel", "hasImage", "Z", false)
  | 50 => ("RansomHymnModel", "names", "[J", true)
  | 51 => ("RansomHymnModel", "worked", "[J", true)
  | 52 => ("RansomHymnModel", "workedMany", "I", false)
  | 53 => ("RansomHymnModel", "bestNotes", "[I", true)
  | 54 => ("RansomHymnModel", "bestCrowns", "[I", true)
  | 55 => ("RansomHymnModel", "dues", "[I", true)
  | 56 => ("RansomHymnModel", "notesBy", "[I", true)
  | 57 => ("RansomHymnModel", "who", "[I", true)
  | 58 => ("RansomHymnModel", "leftOf", "[I", true)
  | 59 => ("RansomHymnModel", "soldTo", "I", false)
  | 60 => ("RansomHymnModel", "soldFor", "I", false)
  | 61 => ("RansomHymnModel", "heard", "I", false)
  | 62 => ("RansomHymnModel", "knownBy", "I", false)
  | 63 => ("RansomHymnModel", "humPitch", "[I", true)
  | 64 => ("RansomHymnModel", "humStrike", "[I", true)
  | 65 => ("RansomHymnModel", "isStruck", "[Z", true)
  | 66 => ("RansomHymnModel", "entries", "[I", true)
  | 67 => ("RansomHymnModel", "bestEntries", "[I", true)
  | _ => ("RansomHymnModel", "gaps", "I", false)
def tyX12 : Nat → FieldType := fun k => match k with
  | 0 => .int
  | 1 => .array .int
  | 2 => .int
  | 3 => .array .int
  | 4 => .array .int
  | 5 => .array .int
  | 6 => .array .int
  | 7 => .array .int
  | 8 => .array .int
  | 9 => .array .int
  | 10 => .array .boolean
  | 11 => .array .int
  | 12 => .array .int
  | 13 => .array .int
  | 14 => .array .int
  | 15 => .array .int
  | 16 => .array .int
  | 17 => .array .int
  | 18 => .array .int
  | 19 => .array .int
  | 20 => .array .int
  | 21 => .array .int
  | 22 => .array .int
  | 23 => .array .int
  | 24 => .int
  | 25 => .int
  | 26 => .int
  | 27 => .int
  | 28 => .int
  | 29 => .int
  | 30 => .int
  | 31 => .int
  | 32 => .int
  | 33 => .int
  | 34 => .int
  | 35 => .int
  | 36 => .int
  | 37 => .array .int
  | 38 => .array .int
  | 39 => .array .int
  | 40 => .array .int
  | 41 => .array .int
  | 42 => .array .int
  | 43 => .array .int
  | 44 => .array .int
  | 45 => .array .int
  | 46 => .array .int
  | 47 => .array .int
  | 48 => .array .int
  | 49 => .boolean
  | 50 => .array .long
  | 51 => .array .long
  | 52 => .int
  | 53 => .array .int
  | 54 => .array .int
  | 55 => .array .int
  | 56 => .array .int
  | 57 => .array .int
  | 58 => .array .int
  | 59 => .int
  | 60 => .int
  | 61 => .int
  | 62 => .int
  | 63 => .array .int
  | 64 => .array .int
  | 65 => .array .boolean
  | 66 => .array .int
  | 67 => .array .int
  | _ => .int
abbrev wsX120 : List Cond := u_ws RX12 TX12 69
theorem nmX12 : ∀ a, a < 69 → ∀ b, b < 69 → a ≠ b → (TX12 a).2.1 ≠ (TX12 b).2.1 := by decide +kernel
theorem tyX12_ok : ∀ k, k < 69 → parseFieldDescriptor (TX12 k).2.2.1 = some (tyX12 k) := by decide +kernel
abbrev cX12_init : ByteArray := prog_14_method_1_code
def yX12_init : MethodName := ⟨RX12, "<init>", "()V"⟩
abbrev cX12_thrown : ByteArray := prog_14_method_2_code
def yX12_thrown : MethodName := ⟨RX12, "thrown", "()I"⟩
abbrev cX12_feed : ByteArray := prog_14_method_3_code
def yX12_feed : MethodName := ⟨RX12, "feed", "(IIIII)I"⟩
abbrev cX12_here : ByteArray := prog_14_method_4_code
def yX12_here : MethodName := ⟨RX12, "here", "()I"⟩
abbrev cX12_isSmall : ByteArray := prog_14_method_5_code
def yX12_isSmall : MethodName := ⟨RX12, "isSmall", "(I)Z"⟩
abbrev cX12_isDigit : ByteArray := prog_14_method_6_code
def yX12_isDigit : MethodName := ⟨RX12, "isDigit", "(I)Z"⟩
abbrev cX12_token : ByteArray := prog_14_method_7_code
def yX12_token : MethodName := ⟨RX12, "token", "()V"⟩
abbrev cX12_sign : ByteArray := prog_14_method_8_code
def yX12_sign : MethodName := ⟨RX12, "sign", "(I)V"⟩
abbrev cX12_word : ByteArray := prog_14_method_9_code
def yX12_word : MethodName := ⟨RX12, "word", "()I"⟩
abbrev cX12_name : ByteArray := prog_14_method_10_code
def yX12_name : MethodName := ⟨RX12, "name", "()V"⟩
abbrev cX12_wrong : ByteArray := prog_14_method_11_code
def yX12_wrong : MethodName := ⟨RX12, "wrong", "(I)V"⟩
abbrev cX12_isWord : ByteArray := prog_14_method_12_code
def yX12_isWord : MethodName := ⟨RX12, "isWord", "(I)Z"⟩
abbrev cX12_isSign : ByteArray := prog_14_method_13_code
def yX12_isSign : MethodName := ⟨RX12, "isSign", "(I)Z"⟩
abbrev cX12_goOn : ByteArray := prog_14_method_14_code
def yX12_goOn : MethodName := ⟨RX12, "goOn", "()V"⟩
abbrev cX12_numeral : ByteArray := prog_14_method_15_code
def yX12_numeral : MethodName := ⟨RX12, "numeral", "(II)I"⟩
abbrev cX12_found : ByteArray := prog_14_method_16_code
def yX12_found : MethodName := ⟨RX12, "found", "([IIII)I"⟩
abbrev cX12_fresh : ByteArray := prog_14_method_17_code
def yX12_fresh : MethodName := ⟨RX12, "fresh", "([III)I"⟩
abbrev cX12_tavernAhead : ByteArray := prog_14_method_18_code
def yX12_tavernAhead : MethodName := ⟨RX12, "tavernAhead", "()I"⟩
abbrev cX12_fresher : ByteArray := prog_14_method_19_code
def yX12_fresher : MethodName := ⟨RX12, "fresher", "(I)I"⟩
abbrev cX12_reads : ByteArray := prog_14_method_20_code
def yX12_reads : MethodName := ⟨RX12, "reads", "(II)V"⟩
abbrev cX12_isFull : ByteArray := prog_14_method_21_code
def yX12_isFull : MethodName := ⟨RX12, "isFull", "(I)Z"⟩
abbrev cX12_line : ByteArray := prog_14_method_22_code
def yX12_line : MethodName := ⟨RX12, "line", "()V"⟩
abbrev cX12_sumOf : ByteArray := prog_14_method_23_code
def yX12_sumOf : MethodName := ⟨RX12, "sumOf", "(I)V"⟩
abbrev cX12_voiceLine : ByteArray := prog_14_method_24_code
def yX12_voiceLine : MethodName := ⟨RX12, "voiceLine", "(I)V"⟩
abbrev cX12_verseLine : ByteArray := prog_14_method_25_code
def yX12_verseLine : MethodName := ⟨RX12, "verseLine", "(I)V"⟩
abbrev cX12_partLine : ByteArray := prog_14_method_26_code
def yX12_partLine : MethodName := ⟨RX12, "partLine", "(I)V"⟩
abbrev cX12_lawLine : ByteArray := prog_14_method_27_code
def yX12_lawLine : MethodName := ⟨RX12, "lawLine", "()V"⟩
abbrev cX12_puts : ByteArray := prog_14_method_28_code
def yX12_puts : MethodName := ⟨RX12, "puts", "(II)V"⟩
abbrev cX12_knot : ByteArray := prog_14_method_29_code
def yX12_knot : MethodName := ⟨RX12, "knot", "()V"⟩
abbrev cX12_expression : ByteArray := prog_14_method_30_code
def yX12_expression : MethodName := ⟨RX12, "expression", "()V"⟩
abbrev cX12_conjunction : ByteArray := prog_14_method_31_code
def yX12_conjunction : MethodName := ⟨RX12, "conjunction", "()V"⟩
abbrev cX12_negation : ByteArray := prog_14_method_32_code
def yX12_negation : MethodName := ⟨RX12, "negation", "()V"⟩
abbrev cX12_sum : ByteArray := prog_14_method_33_code
def yX12_sum : MethodName := ⟨RX12, "sum", "()V"⟩
abbrev cX12_product : ByteArray := prog_14_method_34_code
def yX12_product : MethodName := ⟨RX12, "product", "()V"⟩
abbrev cX12_primary : ByteArray := prog_14_method_35_code
def yX12_primary : MethodName := ⟨RX12, "primary", "()V"⟩
abbrev cX12_half : ByteArray := prog_14_method_36_code
def yX12_half : MethodName := ⟨RX12, "half", "([I)V"⟩
abbrev cX12_text : ByteArray := prog_14_method_37_code
def yX12_text : MethodName := ⟨RX12, "text", "(I)I"⟩
abbrev cX12_fault : ByteArray := prog_14_method_38_code
def yX12_fault : MethodName := ⟨RX12, "fault", "(I)I"⟩
abbrev cX12_named : ByteArray := prog_14_method_39_code
def yX12_named : MethodName := ⟨RX12, "named", "(II)I"⟩
abbrev cX12_begins : ByteArray := prog_14_method_40_code
def yX12_begins : MethodName := ⟨RX12, "begins", "()V"⟩
abbrev cX12_copies : ByteArray := prog_14_method_41_code
def yX12_copies : MethodName := ⟨RX12, "copies", "(II)V"⟩
abbrev cX12_isTavern : ByteArray := prog_14_method_42_code
def yX12_isTavern : MethodName := ⟨RX12, "isTavern", "(I)Z"⟩
abbrev cX12_isVoice : ByteArray := prog_14_method_43_code
def yX12_isVoice : MethodName := ⟨RX12, "isVoice", "(I)Z"⟩
abbrev cX12_isVerse : ByteArray := prog_14_method_44_code
def yX12_isVerse : MethodName := ⟨RX12, "isVerse", "(I)Z"⟩
abbrev cX12_isPart : ByteArray := prog_14_method_45_code
def yX12_isPart : MethodName := ⟨RX12, "isPart", "(II)Z"⟩
abbrev cX12_isCracked : ByteArray := prog_14_method_46_code
def yX12_isCracked : MethodName := ⟨RX12, "isCracked", "(I)Z"⟩
abbrev cX12_look : ByteArray := prog_14_method_47_code
def yX12_look : MethodName := ⟨RX12, "look", "(II)I"⟩
abbrev cX12_tavern : ByteArray := prog_14_method_48_code
def yX12_tavern : MethodName := ⟨RX12, "tavern", "(II)I"⟩
abbrev cX12_verse : ByteArray := prog_14_method_49_code
def yX12_verse : MethodName := ⟨RX12, "verse", "(II)I"⟩
abbrev cX12_pitch : ByteArray := prog_14_method_50_code
def yX12_pitch : MethodName := ⟨RX12, "pitch", "(III)I"⟩
abbrev cX12_is : ByteArray := prog_14_method_51_code
def yX12_is : MethodName := ⟨RX12, "is", "(Z)J"⟩
abbrev cX12_works : ByteArray := prog_14_method_52_code
def yX12_works : MethodName := ⟨RX12, "works", "(I)Z"⟩
abbrev cX12_goes : ByteArray := prog_14_method_53_code
def yX12_goes : MethodName := ⟨RX12, "goes", "(I)Z"⟩
abbrev cX12_within : ByteArray := prog_14_method_54_code
def yX12_within : MethodName := ⟨RX12, "within", "(III)I"⟩
abbrev cX12_reaches : ByteArray := prog_14_method_55_code
def yX12_reaches : MethodName := ⟨RX12, "reaches", "(II)Z"⟩
abbrev cX12_isSounded : ByteArray := prog_14_method_56_code
def yX12_isSounded : MethodName := ⟨RX12, "isSounded", "(III)Z"⟩
abbrev cX12_soundsOf : ByteArray := prog_14_method_57_code
def yX12_soundsOf : MethodName := ⟨RX12, "soundsOf", "(II)I"⟩
abbrev cX12_restsOf : ByteArray := prog_14_method_58_code
def yX12_restsOf : MethodName := ⟨RX12, "restsOf", "(I)I"⟩
abbrev cX12_highOf : ByteArray := prog_14_method_59_code
def yX12_highOf : MethodName := ⟨RX12, "highOf", "(I)I"⟩
abbrev cX12_calls : ByteArray := prog_14_method_60_code
def yX12_calls : MethodName := ⟨RX12, "calls", "(I)V"⟩
abbrev cX12_dueOf : ByteArray := prog_14_method_61_code
def yX12_dueOf : MethodName := ⟨RX12, "dueOf", "(II)I"⟩
abbrev cX12_crackOf : ByteArray := prog_14_method_62_code
def yX12_crackOf : MethodName := ⟨RX12, "crackOf", "(II)I"⟩
abbrev cX12_bidOf : ByteArray := prog_14_method_63_code
def yX12_bidOf : MethodName := ⟨RX12, "bidOf", "(III)I"⟩
abbrev cX12_due : ByteArray := prog_14_method_64_code
def yX12_due : MethodName := ⟨RX12, "due", "(III)I"⟩
abbrev cX12_sounds : ByteArray := prog_14_method_65_code
def yX12_sounds : MethodName := ⟨RX12, "sounds", "(III)I"⟩
abbrev cX12_bids : ByteArray := prog_14_method_66_code
def yX12_bids : MethodName := ⟨RX12, "bids", "(II)I"⟩
abbrev cX12_cracks : ByteArray := prog_14_method_67_code
def yX12_cracks : MethodName := ⟨RX12, "cracks", "(I)I"⟩
abbrev cX12_singsIn : ByteArray := prog_14_method_68_code
def yX12_singsIn : MethodName := ⟨RX12, "singsIn", "(II)Z"⟩
abbrev cX12_redeem : ByteArray := prog_14_method_69_code
def yX12_redeem : MethodName := ⟨RX12, "redeem", "(III)I"⟩
abbrev cX12_undo : ByteArray := prog_14_method_70_code
def yX12_undo : MethodName := ⟨RX12, "undo", "()I"⟩
abbrev cX12_sings : ByteArray := prog_14_method_71_code
def yX12_sings : MethodName := ⟨RX12, "sings", "(II)I"⟩
abbrev cX12_bar : ByteArray := prog_14_method_72_code
def yX12_bar : MethodName := ⟨RX12, "bar", "(II)I"⟩
abbrev cX12_draw : ByteArray := prog_14_method_73_code
def yX12_draw : MethodName := ⟨RX12, "draw", "()I"⟩
abbrev cX12_sunday : ByteArray := prog_14_method_74_code
def yX12_sunday : MethodName := ⟨RX12, "sunday", "()I"⟩
abbrev cX12_layDues : ByteArray := prog_14_method_75_code
def yX12_layDues : MethodName := ⟨RX12, "layDues", "()V"⟩
abbrev cX12_costOf : ByteArray := prog_14_method_76_code
def yX12_costOf : MethodName := ⟨RX12, "costOf", "(I)I"⟩
abbrev cX12_gainOf : ByteArray := prog_14_method_77_code
def yX12_gainOf : MethodName := ⟨RX12, "gainOf", "(I)I"⟩
abbrev cX12_mayBe : ByteArray := prog_14_method_78_code
def yX12_mayBe : MethodName := ⟨RX12, "mayBe", "(I)Z"⟩
abbrev cX12_goesNext : ByteArray := prog_14_method_79_code
def yX12_goesNext : MethodName := ⟨RX12, "goesNext", "(I)Z"⟩
abbrev cX12_starts : ByteArray := prog_14_method_80_code
def yX12_starts : MethodName := ⟨RX12, "starts", "()V"⟩
abbrev cX12_layBest : ByteArray := prog_14_method_81_code
def yX12_layBest : MethodName := ⟨RX12, "layBest", "(I)V"⟩
abbrev cX12_tries : ByteArray := prog_14_method_82_code
def yX12_tries : MethodName := ⟨RX12, "tries", "(IIII)V"⟩
abbrev cX12_isCrowns : ByteArray := prog_14_method_83_code
def yX12_isCrowns : MethodName := ⟨RX12, "isCrowns", "(I)Z"⟩
abbrev cX12_best : ByteArray := prog_14_method_84_code
def yX12_best : MethodName := ⟨RX12, "best", "(II)I"⟩
abbrev cX12_chosen : ByteArray := prog_14_method_85_code
def yX12_chosen : MethodName := ⟨RX12, "chosen", "(III)I"⟩
abbrev cX12_isBest : ByteArray := prog_14_method_86_code
def yX12_isBest : MethodName := ⟨RX12, "isBest", "(II)Z"⟩
abbrev cX12_sells : ByteArray := prog_14_method_87_code
def yX12_sells : MethodName := ⟨RX12, "sells", "(II)I"⟩
abbrev cX12_areVerses : ByteArray := prog_14_method_88_code
def yX12_areVerses : MethodName := ⟨RX12, "areVerses", "(I)Z"⟩
abbrev cX12_sold : ByteArray := prog_14_method_89_code
def yX12_sold : MethodName := ⟨RX12, "sold", "(III)I"⟩
abbrev cX12_easter : ByteArray := prog_14_method_90_code
def yX12_easter : MethodName := ⟨RX12, "easter", "(I)I"⟩
abbrev cX12_hum : ByteArray := prog_14_method_91_code
def yX12_hum : MethodName := ⟨RX12, "hum", "(I)I"⟩
abbrev cX12_strike : ByteArray := prog_14_method_92_code
def yX12_strike : MethodName := ⟨RX12, "strike", "(I)I"⟩
abbrev cX12_known : ByteArray := prog_14_method_93_code
def yX12_known : MethodName := ⟨RX12, "known", "(I)Z"⟩
abbrev cX12_knownMany : ByteArray := prog_14_method_94_code
def yX12_knownMany : MethodName := ⟨RX12, "knownMany", "()I"⟩
abbrev cX12_strikes : ByteArray := prog_14_method_95_code
def yX12_strikes : MethodName := ⟨RX12, "strikes", "()V"⟩
abbrev cX12_isHummed : ByteArray := prog_14_method_96_code
def yX12_isHummed : MethodName := ⟨RX12, "isHummed", "(I)Z"⟩
abbrev cX12_isThief : ByteArray := prog_14_method_97_code
def yX12_isThief : MethodName := ⟨RX12, "isThief", "(I)Z"⟩
abbrev cX12_thieves : ByteArray := prog_14_method_98_code
def yX12_thieves : MethodName := ⟨RX12, "thieves", "()I"⟩
abbrev cX12_common : ByteArray := prog_14_method_99_code
def yX12_common : MethodName := ⟨RX12, "common", "(JJ)J"⟩
abbrev cX12_odds : ByteArray := prog_14_method_100_code
def yX12_odds : MethodName := ⟨RX12, "odds", "(II)I"⟩
abbrev cX12_isGang : ByteArray := prog_14_method_101_code
def yX12_isGang : MethodName := ⟨RX12, "isGang", "(I)Z"⟩
abbrev cX12_bitsOf : ByteArray := prog_14_method_102_code
def yX12_bitsOf : MethodName := ⟨RX12, "bitsOf", "(I)I"⟩
abbrev cX12_gang : ByteArray := prog_14_method_103_code
def yX12_gang : MethodName := ⟨RX12, "gang", "()I"⟩
abbrev cX12_rows : ByteArray := prog_14_method_104_code
def yX12_rows : MethodName := ⟨RX12, "rows", "(IIIII)V"⟩
abbrev cX12_isRound : ByteArray := prog_14_method_105_code
def yX12_isRound : MethodName := ⟨RX12, "isRound", "(II)Z"⟩
abbrev cX12_round : ByteArray := prog_14_method_106_code
def yX12_round : MethodName := ⟨RX12, "round", "(IIII)I"⟩
abbrev cX12_entry : ByteArray := prog_14_method_107_code
def yX12_entry : MethodName := ⟨RX12, "entry", "(IIIII)I"⟩
abbrev cX12_hasOf : ByteArray := prog_14_method_108_code
def yX12_hasOf : MethodName := ⟨RX12, "hasOf", "(II)I"⟩
abbrev cX12_run : ByteArray := prog_14_method_109_code
def yX12_run : MethodName := ⟨RX12, "run", "(II)I"⟩
abbrev cX12_pay : ByteArray := prog_14_method_110_code
def yX12_pay : MethodName := ⟨RX12, "pay", "(I)I"⟩
abbrev cX12_whole : ByteArray := prog_14_method_111_code
def yX12_whole : MethodName := ⟨RX12, "whole", "(III)J"⟩
abbrev cX12_keep : ByteArray := prog_14_method_112_code
def yX12_keep : MethodName := ⟨RX12, "keep", "()I"⟩
abbrev cX12_back : ByteArray := prog_14_method_113_code
def yX12_back : MethodName := ⟨RX12, "back", "()I"⟩
abbrev cX12_count : ByteArray := prog_14_method_114_code
def yX12_count : MethodName := ⟨RX12, "count", "(I)I"⟩
def RJx145de : String := "java/io/Serializable"
def TJx145de : u_T := fun k => match k with
  | _ => ("", "", "", false)
def tyJx145de : Nat → FieldType := fun k => match k with
  | _ => .int
abbrev wsJx145de0 : List Cond := u_ws RJx145de TJx145de 0
theorem nmJx145de : ∀ a, a < 0 → ∀ b, b < 0 → a ≠ b → (TJx145de a).2.1 ≠ (TJx145de b).2.1 := by decide +kernel
theorem tyJx145de_ok : ∀ k, k < 0 → parseFieldDescriptor (TJx145de k).2.2.1 = some (tyJx145de k) := by decide +kernel
def RJx9f9b0 : String := "java/lang/CharSequence"
def TJx9f9b0 : u_T := fun k => match k with
  | _ => ("", "", "", false)
def tyJx9f9b0 : Nat → FieldType := fun k => match k with
  | _ => .int
abbrev wsJx9f9b00 : List Cond := u_ws RJx9f9b0 TJx9f9b0 0
theorem nmJx9f9b0 : ∀ a, a < 0 → ∀ b, b < 0 → a ≠ b → (TJx9f9b0 a).2.1 ≠ (TJx9f9b0 b).2.1 := by decide +kernel
theorem tyJx9f9b0_ok : ∀ k, k < 0 → parseFieldDescriptor (TJx9f9b0 k).2.2.1 = some (tyJx9f9b0 k) := by decide +kernel
def RJxb160c : String := "java/lang/Comparable"
def TJxb160c : u_T := fun k => match k with
  | _ => ("", "", "", false)
def tyJxb160c : Nat → FieldType := fun k => match k with
  | _ => .int
abbrev wsJxb160c0 : List Cond := u_ws RJxb160c TJxb160c 0
theorem nmJxb160c : ∀ a, a < 0 → ∀ b, b < 0 → a ≠ b → (TJxb160c a).2.1 ≠ (TJxb160c b).2.1 := by decide +kernel
theorem tyJxb160c_ok : ∀ k, k < 0 → parseFieldDescriptor (TJxb160c k).2.2.1 = some (tyJxb160c k) := by decide +kernel
def RJ6 : String := "java/lang/Integer"
def TJ6 : u_T := fun k => match k with
  | _ => ("", "", "", false)
def tyJ6 : Nat → FieldType := fun k => match k with
  | _ => .int
abbrev wsJ60 : List Cond := u_ws RJ6 TJ6 0
theorem nmJ6 : ∀ a, a < 0 → ∀ b, b < 0 → a ≠ b → (TJ6 a).2.1 ≠ (TJ6 b).2.1 := by decide +kernel
theorem tyJ6_ok : ∀ k, k < 0 → parseFieldDescriptor (TJ6 k).2.2.1 = some (tyJ6 k) := by decide +kernel
abbrev cJ6_bitCount_0f7a4 : ByteArray := prog_20_method_49_code
def yJ6_bitCount_0f7a4 : MethodName := ⟨RJ6, "bitCount", "(I)I"⟩
def RJ13 : String := "java/lang/Long"
def TJ13 : u_T := fun k => match k with
  | _ => ("", "", "", false)
def tyJ13 : Nat → FieldType := fun k => match k with
  | _ => .int
abbrev wsJ130 : List Cond := u_ws RJ13 TJ13 0
theorem nmJ13 : ∀ a, a < 0 → ∀ b, b < 0 → a ≠ b → (TJ13 a).2.1 ≠ (TJ13 b).2.1 := by decide +kernel
theorem tyJ13_ok : ∀ k, k < 0 → parseFieldDescriptor (TJ13 k).2.2.1 = some (tyJ13 k) := by decide +kernel
abbrev cJ13_bitCount_95d88 : ByteArray := prog_21_method_50_code
def yJ13_bitCount_95d88 : MethodName := ⟨RJ13, "bitCount", "(J)I"⟩
def RJ9 : String := "java/lang/Math"
def TJ9 : u_T := fun k => match k with
  | _ => ("", "", "", false)
def tyJ9 : Nat → FieldType := fun k => match k with
  | _ => .int
abbrev wsJ90 : List Cond := u_ws RJ9 TJ9 0
theorem nmJ9 : ∀ a, a < 0 → ∀ b, b < 0 → a ≠ b → (TJ9 a).2.1 ≠ (TJ9 b).2.1 := by decide +kernel
theorem tyJ9_ok : ∀ k, k < 0 → parseFieldDescriptor (TJ9 k).2.2.1 = some (tyJ9 k) := by decide +kernel
abbrev cJ9_abs_067f4 : ByteArray := prog_22_method_61_code
def yJ9_abs_067f4 : MethodName := ⟨RJ9, "abs", "(J)J"⟩
abbrev cJ9_max_7cf53 : ByteArray := prog_22_method_65_code
def yJ9_max_7cf53 : MethodName := ⟨RJ9, "max", "(II)I"⟩
abbrev cJ9_max_f86c9 : ByteArray := prog_22_method_66_code
def yJ9_max_f86c9 : MethodName := ⟨RJ9, "max", "(JJ)J"⟩
abbrev cJ9_min_7cf53 : ByteArray := prog_22_method_69_code
def yJ9_min_7cf53 : MethodName := ⟨RJ9, "min", "(II)I"⟩
abbrev cJ9_min_f86c9 : ByteArray := prog_22_method_70_code
def yJ9_min_f86c9 : MethodName := ⟨RJ9, "min", "(JJ)J"⟩
def RJ0 : String := "java/lang/String"
def TJ0 : u_T := fun k => match k with
  | _ => ("", "", "", false)
def tyJ0 : Nat → FieldType := fun k => match k with
  | _ => .int
abbrev wsJ00 : List Cond := u_ws RJ0 TJ0 0
theorem nmJ0 : ∀ a, a < 0 → ∀ b, b < 0 → a ≠ b → (TJ0 a).2.1 ≠ (TJ0 b).2.1 := by decide +kernel
theorem tyJ0_ok : ∀ k, k < 0 → parseFieldDescriptor (TJ0 k).2.2.1 = some (tyJ0 k) := by decide +kernel
abbrev cJ0_length_8abf5 : ByteArray := prog_24_method_54_code
def yJ0_length_8abf5 : MethodName := ⟨RJ0, "length", "()I"⟩
abbrev cJ0_charAt_5068e : ByteArray := prog_24_method_56_code
def yJ0_charAt_5068e : MethodName := ⟨RJ0, "charAt", "(I)C"⟩
abbrev cJ0_coder_7d493 : ByteArray := prog_24_method_152_code
def yJ0_coder_7d493 : MethodName := ⟨RJ0, "coder", "()B"⟩
abbrev cJ0_isLatin1_aae02 : ByteArray := prog_24_method_154_code
def yJ0_isLatin1_aae02 : MethodName := ⟨RJ0, "isLatin1", "()Z"⟩
abbrev cJ0_checkIndex_df160 : ByteArray := prog_24_method_155_code
def yJ0_checkIndex_df160 : MethodName := ⟨RJ0, "checkIndex", "(II)V"⟩
def RJ1 : String := "java/lang/StringLatin1"
def TJ1 : u_T := fun k => match k with
  | _ => ("", "", "", false)
def tyJ1 : Nat → FieldType := fun k => match k with
  | _ => .int
abbrev wsJ10 : List Cond := u_ws RJ1 TJ1 0
theorem nmJ1 : ∀ a, a < 0 → ∀ b, b < 0 → a ≠ b → (TJ1 a).2.1 ≠ (TJ1 b).2.1 := by decide +kernel
theorem tyJ1_ok : ∀ k, k < 0 → parseFieldDescriptor (TJ1 k).2.2.1 = some (tyJ1 k) := by decide +kernel
abbrev cJ1_charAt_3b067 : ByteArray := prog_25_method_2_code
def yJ1_charAt_3b067 : MethodName := ⟨RJ1, "charAt", "([BI)C"⟩
def RJ2 : String := "java/lang/StringUTF16"
def TJ2 : u_T := fun k => match k with
  | _ => ("", "", "", false)
def tyJ2 : Nat → FieldType := fun k => match k with
  | _ => .int
abbrev wsJ20 : List Cond := u_ws RJ2 TJ2 0
theorem nmJ2 : ∀ a, a < 0 → ∀ b, b < 0 → a ≠ b → (TJ2 a).2.1 ≠ (TJ2 b).2.1 := by decide +kernel
theorem tyJ2_ok : ∀ k, k < 0 → parseFieldDescriptor (TJ2 k).2.2.1 = some (tyJ2 k) := by decide +kernel
abbrev cJ2_getChar_3b067 : ByteArray := prog_26_method_5_code
def yJ2_getChar_3b067 : MethodName := ⟨RJ2, "getChar", "([BI)C"⟩
abbrev cJ2_length_9d52b : ByteArray := prog_26_method_6_code
def yJ2_length_9d52b : MethodName := ⟨RJ2, "length", "([B)I"⟩
abbrev cJ2_charAt_3b067 : ByteArray := prog_26_method_83_code
def yJ2_charAt_3b067 : MethodName := ⟨RJ2, "charAt", "([BI)C"⟩
abbrev cJ2_checkIndex_2214a : ByteArray := prog_26_method_91_code
def yJ2_checkIndex_2214a : MethodName := ⟨RJ2, "checkIndex", "(I[B)V"⟩
def RJ10 : String := "java/lang/System"
def TJ10 : u_T := fun k => match k with
  | _ => ("", "", "", false)
def tyJ10 : Nat → FieldType := fun k => match k with
  | _ => .int
abbrev wsJ100 : List Cond := u_ws RJ10 TJ10 0
theorem nmJ10 : ∀ a, a < 0 → ∀ b, b < 0 → a ≠ b → (TJ10 a).2.1 ≠ (TJ10 b).2.1 := by decide +kernel
theorem tyJ10_ok : ∀ k, k < 0 → parseFieldDescriptor (TJ10 k).2.2.1 = some (tyJ10 k) := by decide +kernel
def RJxfd54e : String := "java/lang/constant/Constable"
def TJxfd54e : u_T := fun k => match k with
  | _ => ("", "", "", false)
def tyJxfd54e : Nat → FieldType := fun k => match k with
  | _ => .int
abbrev wsJxfd54e0 : List Cond := u_ws RJxfd54e TJxfd54e 0
theorem nmJxfd54e : ∀ a, a < 0 → ∀ b, b < 0 → a ≠ b → (TJxfd54e a).2.1 ≠ (TJxfd54e b).2.1 := by decide +kernel
theorem tyJxfd54e_ok : ∀ k, k < 0 → parseFieldDescriptor (TJxfd54e k).2.2.1 = some (tyJxfd54e k) := by decide +kernel
def RJx3cf43 : String := "java/lang/constant/ConstantDesc"
def TJx3cf43 : u_T := fun k => match k with
  | _ => ("", "", "", false)
def tyJx3cf43 : Nat → FieldType := fun k => match k with
  | _ => .int
abbrev wsJx3cf430 : List Cond := u_ws RJx3cf43 TJx3cf43 0
theorem nmJx3cf43 : ∀ a, a < 0 → ∀ b, b < 0 → a ≠ b → (TJx3cf43 a).2.1 ≠ (TJx3cf43 b).2.1 := by decide +kernel
theorem tyJx3cf43_ok : ∀ k, k < 0 → parseFieldDescriptor (TJx3cf43 k).2.2.1 = some (tyJx3cf43 k) := by decide +kernel
def RJ7 : String := "java/util/Arrays"
def TJ7 : u_T := fun k => match k with
  | _ => ("", "", "", false)
def tyJ7 : Nat → FieldType := fun k => match k with
  | _ => .int
abbrev wsJ70 : List Cond := u_ws RJ7 TJ7 0
theorem nmJ7 : ∀ a, a < 0 → ∀ b, b < 0 → a ≠ b → (TJ7 a).2.1 ≠ (TJ7 b).2.1 := by decide +kernel
theorem tyJ7_ok : ∀ k, k < 0 → parseFieldDescriptor (TJ7 k).2.2.1 = some (tyJ7 k) := by decide +kernel
abbrev cJ7_fill_53178 : ByteArray := prog_31_method_103_code
def yJ7_fill_53178 : MethodName := ⟨RJ7, "fill", "([II)V"⟩
def RJ3 : String := "jdk/internal/util/Preconditions"
def TJ3 : u_T := fun k => match k with
  | _ => ("", "", "", false)
def tyJ3 : Nat → FieldType := fun k => match k with
  | _ => .int
abbrev wsJ30 : List Cond := u_ws RJ3 TJ3 0
theorem nmJ3 : ∀ a, a < 0 → ∀ b, b < 0 → a ≠ b → (TJ3 a).2.1 ≠ (TJ3 b).2.1 := by decide +kernel
theorem tyJ3_ok : ∀ k, k < 0 → parseFieldDescriptor (TJ3 k).2.2.1 = some (tyJ3 k) := by decide +kernel
abbrev cJ3_checkIndex_8e157 : ByteArray := prog_33_method_11_code
def yJ3_checkIndex_8e157 : MethodName := ⟨RJ3, "checkIndex", "(IILjava/util/function/BiFunction;)I"⟩
def RL : String := "RansomHymnLaw"
abbrev cL_look : ByteArray := method_3_code
def yL_look : MethodName := ⟨RL, "look", "(LRansomHymn;II[J)I"⟩
abbrev cL_law : ByteArray := code
def yL_law : MethodName := ⟨RL, "law", "([I)Z"⟩
abbrev vwCl : List vw_C := [(RX0, TX0, 10), (RX1, TX1, 11), (RX2, TX2, 10), (RX3, TX3, 2), (RX4, TX4, 19), (RX5, TX5, 6), (RX6, TX6, 2), (RX7, TX7, 6), (RX8, TX8, 4), (RX9, TX9, 9), (RX10, TX10, 13), (RX11, TX11, 15), (RX12, TX12, 69)]
def xgt : List Cond := lw_tbl.filter goodWord
theorem xgt_good : ∀ w ∈ xgt, ((w.onTables && w.keeps) = true ∨ ∃ ty, w = .arrayClass ty) := fun w h => good_of_word (List.mem_filter.mp h).2
theorem xgt_in : ∀ w ∈ xgt, w ∈ lw_tbl := fun w h => (List.mem_filter.mp h).1
end
section
/-! A machine of my own over numbers, that a program can run: abstract values (tag, number): (0, n) int, (1, i) the cell number i, (2, _) null, (3, k) the unknown int number k, (4, n) long, (5, k) the constant text number k.
A cell: inl (type, contents) an array, inr (class, fields) an object. -/
abbrev xV : Type := Nat × Nat
abbrev xC : Type := (Nat × List xV) ⊕ (Nat × List xV)
abbrev xH : Type := List xC
abbrev xL : Type := List (Nat × xV)
abbrev xOp : Type := Nat × Nat × Nat × Nat × List (Nat × Nat)
abbrev xM : Type := MethodName × ByteArray × Nat × Option FieldType × Nat × String × Room × List (Nat × xOp)
/-- what is known of the unknown ints: pairs that differ; bounds (moved by 2^31) -/
abbrev xK : Type := List (xV × xV) × List (Nat × Nat)
abbrev xR : Type := xK × Option xV × xH
abbrev xD : Type := List (Nat × xV × xV)
/-! what an abstract thing means -/
def xdi (ρ : Nat → Int32) (v : xV) : Int32 := match v with
  | (0, n) => nI n
  | (3, k) => ρ k
  | _ => 0
def xdl (v : xV) : Int64 := lN v.2
def xdv (b : Nat) (ρ : Nat → Int32) (sa : Nat → Nat) (v : xV) : Value := match v with
  | (0, n) => .int (nI n)
  | (1, i) => .ref (b + i)
  | (2, _) => .null
  | (3, k) => .int (ρ k)
  | (5, k) => .ref (sa k)
  | (_, n) => .long (lN n)
def xdr (b : Nat) (v : xV) : Option Nat := match v with
  | (1, i) => some (b + i)
  | _ => none
def xty (k : Nat) : FieldType := match k with
  | 0 => .int
  | 1 => .byte
  | 2 => .long
  | 3 => .boolean
  | _ => .array .int
def xzero (k : Nat) : xV := match k with
  | 2 => (4, 0)
  | 4 => (2, 0)
  | _ => (0, 0)
def xce (b : Nat) (ρ : Nat → Int32) (sa : Nat → Nat) (dA : Nat → ClassId) (c : xC) : va_E := match c with
  | .inl (2, vs) => .inl (dA 2, vs.length, .inr (.inl (fun j => xdl (vs.getD j (4, 0)))))
  | .inl (4, vs) => .inl (dA 4, vs.length, .inr (.inr (.inr (.inr (fun j => xdr b (vs.getD j (2, 0)))))))
  | .inl (k, vs) => .inl (dA k, vs.length, .inl (fun j => xdi ρ (vs.getD j (0, 0))))
  | .inr (ci, fs) => .inr (ci, fs.map (xdv b ρ sa))
def xcx (b : Nat) (ρ : Nat → Int32) (sa : Nat → Nat) (dA : Nat → ClassId) : Nat → xH → va_W
  | _, [] => []
  | i, c :: K => (b + i, xce b ρ sa dA c) :: xcx b ρ sa dA (i + 1) K
theorem xcx_get {b : Nat} {ρ : Nat → Int32} {sa : Nat → Nat} {dA : Nat → ClassId} : ∀ (K : xH) (o i : Nat), (xcx b ρ sa dA o K)[i]? = K[i]?.map (fun c => (b + (o + i), xce b ρ sa dA c))
  | [], o, i => by simp [xcx]
  | c :: K, o, 0 => by simp [xcx]
  | c :: K, o, i + 1 => by
    simp only [xcx, List.getElem?_cons_succ]
    rw [xcx_get K (o + 1) i, show o + 1 + i = o + (i + 1) by omega]
theorem xcx_set {b : Nat} {ρ : Nat → Int32} {sa : Nat → Nat} {dA : Nat → ClassId} : ∀ (K : xH) (o i : Nat) (c : xC), (xcx b ρ sa dA o K).set i (b + (o + i), xce b ρ sa dA c) = xcx b ρ sa dA o (K.set i c)
  | [], o, i, c => by simp [xcx]
  | d :: K, o, 0, c => by simp [xcx]
  | d :: K, o, i + 1, c => by
    simp only [xcx, List.set_cons_succ]
    rw [← xcx_set K (o + 1) i c, show o + 1 + i = o + (i + 1) by omega]
theorem xcx_push {b : Nat} {ρ : Nat → Int32} {sa : Nat → Nat} {dA : Nat → ClassId} : ∀ (K : xH) (o : Nat) (c : xC), xcx b ρ sa dA o (K ++ [c]) = xcx b ρ sa dA o K ++ [(b + (o + K.length), xce b ρ sa dA c)]
  | [], o, c => by simp [xcx]
  | d :: K, o, c => by
    simp only [List.cons_append, xcx, List.length_cons]
    rw [xcx_push K (o + 1) c, show o + 1 + K.length = o + (K.length + 1) by omega]
theorem xcx_D {b : Nat} {ρ : Nat → Int32} {sa : Nat → Nat} {dA : Nat → ClassId} {A : Nat → Prop} {K : xH} (h : ∀ i, i < K.length → A (b + i)) : va_D A (xcx b ρ sa dA 0 K) := by
  refine ⟨fun i j p q hi hj hpq => ?_, fun k q hk => ?_⟩
  · rw [xcx_get] at hi hj
    cases h1 : K[i]? with
    | none => rw [h1] at hi; cases hi
    | some x =>
      cases h2 : K[j]? with
      | none => rw [h2] at hj; cases hj
      | some y =>
        rw [h1] at hi; rw [h2] at hj
        cases hi; cases hj
        dsimp only at hpq
        omega
  · rw [xcx_get] at hk
    cases h1 : K[k]? with
    | none => rw [h1] at hk; cases hk
    | some x =>
      rw [h1] at hk
      cases hk
      have := (List.getElem?_eq_some_iff.mp h1).1
      rw [show b + (0 + k) = b + k by omega]
      exact h k this
/-! the numbers -/
def xbin (o x y : Nat) : Option Nat := match o with
  | 0 => some ((x + y) % 4294967296)
  | 1 => some ((x + (4294967296 - y % 4294967296)) % 4294967296)
  | 2 => some ((x * y) % 4294967296)
  | 3 => some (Nat.land x y)
  | 4 => some (Nat.lor x y)
  | 5 => some (Nat.xor x y)
  | 6 => if Nat.blt y 32 && Nat.blt (x * 2 ^ y) 4294967296 then some (x * 2 ^ y) else none
  | 7 => if Nat.blt y 32 && Nat.blt x 2147483648 then some (x / 2 ^ y) else none
  | 8 => if Nat.blt y 32 && Nat.blt x 4294967296 then some (x / 2 ^ y) else none
  | 9 => if Nat.blt 0 y && Nat.blt y 2147483648 && Nat.blt x 2147483648 then some (x / y) else none
  | 10 => if Nat.blt 0 y && Nat.blt y 2147483648 && Nat.blt x 2147483648 then some (x % y) else none
  | _ => none
def fbin (o : Nat) (x y : Int32) : Int32 := match o with
  | 0 => x + y
  | 1 => x - y
  | 2 => x * y
  | 3 => x &&& y
  | 4 => x ||| y
  | 5 => x ^^^ y
  | 6 => x <<< (y &&& 31)
  | 7 => x >>> (y &&& 31)
  | 8 => (x.toUInt32 >>> (y.toUInt32 &&& Int32.toUInt32 31)).toInt32
  | 9 => x / y
  | 10 => x - x / y * y
  | _ => 0
theorem nI_m (n : Nat) : nI (n % 4294967296) = nI n := by
  apply Int32.toBitVec_inj.mp
  show BitVec.ofNat 32 _ = BitVec.ofNat 32 _
  apply BitVec.eq_of_toNat_eq
  simp
theorem nI_bv (n : Nat) : (nI n).toBitVec = BitVec.ofNat 32 n := rfl
theorem xs_l : ∀ n, n < 32 → ((nI n &&& 31).toBitVec.smod 32).toNat = n := by decide +kernel
theorem xs_u : ∀ n, n < 32 → (((nI n).toUInt32 &&& Int32.toUInt32 31).toBitVec % 32).toNat = n := by decide +kernel
theorem xbin_ok {o x y z : Nat} (h : xbin o x y = some z) : fbin o (nI x) (nI y) = nI z := by
  match o, h with
  | 0, h => cases h; rw [nI_m]; exact nI_add x y
  | 1, h =>
    cases h
    rw [nI_m, ← nI_add]
    show nI x - nI y = _
    have e : nI (4294967296 - y % 4294967296) + nI y = 0 := by
      rw [← nI_m y, nI_add, show 4294967296 - y % 4294967296 + y % 4294967296 = 4294967296 by omega]
      decide +kernel
    have e2 : nI (4294967296 - y % 4294967296) = - nI y := by
      rw [← Int32.add_zero (-nI y), ← e, Int32.add_comm, Int32.add_assoc, Int32.add_right_neg, Int32.add_zero]
    rw [e2, Int32.sub_eq_add_neg]
  | 2, h => cases h; rw [nI_m]; exact pk_mul x y
  | 3, h =>
    cases h
    apply Int32.toBitVec_inj.mp
    show BitVec.ofNat 32 x &&& BitVec.ofNat 32 y = BitVec.ofNat 32 (x &&& y)
    apply BitVec.eq_of_toNat_eq
    simp [Nat.and_mod_two_pow]
  | 4, h =>
    cases h
    apply Int32.toBitVec_inj.mp
    show BitVec.ofNat 32 x ||| BitVec.ofNat 32 y = BitVec.ofNat 32 (x ||| y)
    apply BitVec.eq_of_toNat_eq
    simp [Nat.or_mod_two_pow]
  | 5, h =>
    cases h
    apply Int32.toBitVec_inj.mp
    show BitVec.ofNat 32 x ^^^ BitVec.ofNat 32 y = BitVec.ofNat 32 (x ^^^ y)
    apply BitVec.eq_of_toNat_eq
    simp [Nat.xor_mod_two_pow]
  | 6, h =>
    simp only [xbin] at h
    split at h
    · next hc =>
      simp only [Bool.and_eq_true, Nat.blt_eq] at hc
      cases h
      exact pk_shlN _ y (xs_l y hc.1) hc.2
    · cases h
  | 7, h =>
    simp only [xbin] at h
    split at h
    · next hc =>
      simp only [Bool.and_eq_true, Nat.blt_eq] at hc
      cases h
      exact pk_shrN hc.2 _ y (xs_l y hc.1)
    · cases h
  | 8, h =>
    simp only [xbin] at h
    split at h
    · next hc =>
      simp only [Bool.and_eq_true, Nat.blt_eq] at hc
      cases h
      exact pk_ushrN hc.2 _ y (xs_u y hc.1)
    · cases h
  | 9, h =>
    simp only [xbin] at h
    split at h
    · next hc =>
      simp only [Bool.and_eq_true, Nat.blt_eq] at hc
      cases h
      exact pk_div hc.2 hc.1.1 hc.1.2
    · cases h
  | 10, h =>
    simp only [xbin] at h
    split at h
    · next hc =>
      simp only [Bool.and_eq_true, Nat.blt_eq] at hc
      cases h
      exact pk_rem hc.2 hc.1.1 hc.1.2
    · cases h
/-- comparing: 0 =, 1 not =, 2 <, 3 >=, 4 >, 5 <= -/
def xcp (c : Nat) (x y : Int32) : Prop := match c with
  | 0 => x = y
  | 1 => ¬ x = y
  | 2 => x < y
  | 3 => y ≤ x
  | 4 => y < x
  | _ => x ≤ y
def xsg (n : Nat) : Nat := (n + 2147483648) % 4294967296
def xcb (c x y : Nat) : Bool := match c with
  | 0 => Nat.beq x y
  | 1 => !(Nat.beq x y)
  | 2 => Nat.blt (xsg x) (xsg y)
  | 3 => Nat.ble (xsg y) (xsg x)
  | 4 => Nat.blt (xsg y) (xsg x)
  | _ => Nat.ble (xsg x) (xsg y)
theorem xti {n : Nat} (h : n < 4294967296) : (nI n).toInt = (xsg n : Int) - 2147483648 := by
  show (BitVec.ofNat 32 n).toInt = _
  rw [BitVec.toInt_eq_toNat_cond]
  simp only [BitVec.toNat_ofNat, xsg]
  have e : n % 2 ^ 32 = n := Nat.mod_eq_of_lt h
  rw [e]
  split <;> omega
theorem xcb_ok {c x y : Nat} (hx : x < 4294967296) (hy : y < 4294967296) : xcb c x y = true ↔ xcp c (nI x) (nI y) := by
  have ex := xti hx
  have ey := xti hy
  have eq : nI x = nI y ↔ x = y := by
    refine ⟨fun h => ?_, fun h => by rw [h]⟩
    have h2 : (nI x).toInt = (nI y).toInt := by rw [h]
    rw [ex, ey] at h2
    simp only [xsg] at h2
    omega
  match c with
  | 0 =>
    show Nat.beq x y = true ↔ nI x = nI y
    rw [eq, Nat.beq_eq]
  | 1 =>
    show (!(Nat.beq x y)) = true ↔ ¬ nI x = nI y
    rw [eq, ← Nat.beq_eq]
    cases Nat.beq x y <;> simp
  | 2 =>
    show Nat.blt (xsg x) (xsg y) = true ↔ nI x < nI y
    rw [Nat.blt_eq, Int32.lt_iff_toInt_lt, ex, ey]; omega
  | 3 =>
    show Nat.ble (xsg y) (xsg x) = true ↔ nI y ≤ nI x
    rw [Nat.ble_eq, Int32.le_iff_toInt_le, ex, ey]; omega
  | 4 =>
    show Nat.blt (xsg y) (xsg x) = true ↔ nI y < nI x
    rw [Nat.blt_eq, Int32.lt_iff_toInt_lt, ex, ey]; omega
  | c + 5 =>
    show Nat.ble (xsg x) (xsg y) = true ↔ nI x ≤ nI y
    rw [Nat.ble_eq, Int32.le_iff_toInt_le, ex, ey]; omega
/-! what is known of the unknown ints -/
def sgI (x : Int32) : Nat := (x.toInt + 2147483648).toNat
theorem sgI_i (x : Int32) : (sgI x : Int) = x.toInt + 2147483648 := by
  have h := Int32.le_toInt x
  simp only [sgI]
  omega
theorem sgI_lt (x : Int32) : sgI x < 4294967296 := by
  have h := Int32.toInt_lt x
  have h2 := sgI_i x
  omega
theorem sgI_nI {n : Nat} (h : n < 4294967296) : sgI (nI n) = xsg n := by
  have h1 := sgI_i (nI n)
  rw [xti h] at h1
  omega
theorem xsg2 {n : Nat} (h : n < 4294967296) : xsg (xsg n) = n := by
  simp only [xsg]
  omega
theorem xsg_lt (n : Nat) : xsg n < 4294967296 := Nat.mod_lt _ (by decide)
theorem sgI_inj {x y : Int32} (h : sgI x = sgI y) : x = y := by
  apply Int32.toInt_inj.mp
  have h1 := sgI_i x
  have h2 := sgI_i y
  omega
theorem sgI_eq {x : Int32} {n : Nat} (hn : n < 4294967296) (h : sgI x = n) : x = nI (xsg n) := sgI_inj (by rw [sgI_nI (xsg_lt n), xsg2 hn]; exact h)
theorem sgI_ltI (x y : Int32) : x < y ↔ sgI x < sgI y := by
  have h1 := sgI_i x
  have h2 := sgI_i y
  rw [Int32.lt_iff_toInt_lt]
  omega
def xKok (ρ : Nat → Int32) (κ : xK) : Prop := (∀ q ∈ κ.1, ¬ xdi ρ q.1 = xdi ρ q.2) ∧ ∀ (k lo hi : Nat), κ.2[k]? = some (lo, hi) → lo ≤ sgI (ρ k) ∧ sgI (ρ k) ≤ hi
/-- an int -/
def xint (v : xV) : Bool := match v with
  | (0, n) => Nat.blt n 4294967296
  | (3, _) => true
  | _ => false
def xrng (iv : List (Nat × Nat)) (v : xV) : Nat × Nat := match v with
  | (0, n) => (xsg n, xsg n)
  | (3, k) => iv.getD k (0, 4294967295)
  | _ => (0, 4294967295)
theorem xrng_ok {ρ : Nat → Int32} {κ : xK} (h : xKok ρ κ) {v : xV} (hv : xint v = true) : (xrng κ.2 v).1 ≤ sgI (xdi ρ v) ∧ sgI (xdi ρ v) ≤ (xrng κ.2 v).2 := by
  match v, hv with
  | (0, n), hv =>
    have hn : n < 4294967296 := by simpa [xint, Nat.blt_eq] using hv
    simp only [xrng, xdi]
    rw [sgI_nI hn]
    exact ⟨Nat.le_refl _, Nat.le_refl _⟩
  | (3, k), _ =>
    simp only [xrng, xdi]
    rw [List.getD_eq_getElem?_getD]
    cases hk : κ.2[k]? with
    | none =>
      have := sgI_lt (ρ k)
      exact ⟨Nat.zero_le _, by simp; omega⟩
    | some q => exact h.2 k q.1 q.2 hk
/-- a known unknown -/
def xnm (iv : List (Nat × Nat)) (v : xV) : xV := match v with
  | (3, k) => match iv[k]? with
    | some (lo, hi) => if Nat.beq lo hi then (0, xsg lo) else (3, k)
    | none => (3, k)
  | v => v
theorem xnm_ok {ρ : Nat → Int32} {κ : xK} (h : xKok ρ κ) {b : Nat} {sa : Nat → Nat} (v : xV) : xdv b ρ sa (xnm κ.2 v) = xdv b ρ sa v ∧ xdi ρ (xnm κ.2 v) = xdi ρ v := by
  match v with
  | (0, _) | (1, _) | (2, _) | (4, _) | (5, _) => exact ⟨rfl, rfl⟩
  | (n + 6, _) => exact ⟨rfl, rfl⟩
  | (3, k) =>
    simp only [xnm]
    cases hk : κ.2[k]? with
    | none => exact ⟨rfl, rfl⟩
    | some q =>
      obtain ⟨lo, hi⟩ := q
      dsimp only
      split
      · next he =>
        have he : lo = hi := Nat.eq_of_beq_eq_true he
        subst he
        obtain ⟨h1, h2⟩ := h.2 k lo lo hk
        have e : sgI (ρ k) = lo := by omega
        have := sgI_eq (by have := sgI_lt (ρ k); omega) e
        simp only [xdv, xdi]
        rw [← this]
        exact ⟨rfl, rfl⟩
      · exact ⟨rfl, rfl⟩
def xsetr (iv : List (Nat × Nat)) (v : xV) (lo hi : Nat) : List (Nat × Nat) := match v with
  | (3, k) => match iv[k]? with
    | some (l, h) => iv.set k (Nat.max l lo, Nat.min h hi)
    | none => iv
  | _ => iv
theorem xsetr_ok {ρ : Nat → Int32} {cs : List (xV × xV)} {iv : List (Nat × Nat)} (h : xKok ρ (cs, iv)) {v : xV} {lo hi : Nat} (h1 : lo ≤ sgI (xdi ρ v)) (h2 : sgI (xdi ρ v) ≤ hi) : xKok ρ (cs, xsetr iv v lo hi) := by
  refine ⟨h.1, ?_⟩
  match v, h1, h2 with
  | (0, _), _, _ | (1, _), _, _ | (2, _), _, _ => exact h.2
  | (n + 4, _), _, _ => exact h.2
  | (3, k), h1, h2 =>
    simp only [xsetr]
    cases hk : iv[k]? with
    | none => exact h.2
    | some q =>
      obtain ⟨l, u⟩ := q
      intro j lo' hi' hj
      dsimp only at hj
      by_cases e : j = k
      · subst e
        have hl := (List.getElem?_eq_some_iff.mp hk).1
        rw [List.getElem?_set_self hl] at hj
        cases hj
        have h3 := h.2 j l u hk
        simp only [xdi] at h1 h2
        exact ⟨Nat.max_le.mpr ⟨h3.1, h1⟩, Nat.le_min.mpr ⟨h3.2, h2⟩⟩
      · rw [List.getElem?_set_ne (Ne.symm e)] at hj
        exact h.2 j lo' hi' hj
def xcons (iv : List (Nat × Nat)) : Bool := iv.all (fun q => Nat.ble q.1 q.2)
theorem xcons_ok {ρ : Nat → Int32} {κ : xK} (h : xKok ρ κ) : xcons κ.2 = true := by
  refine List.all_eq_true.mpr (fun q hq => ?_)
  obtain ⟨k, hk⟩ := List.getElem?_of_mem hq
  have := h.2 k q.1 q.2 hk
  exact Nat.ble_eq.mpr (by omega)
/-- the base compare: k 0 '=', 1 '<' -/
def xbp (k : Nat) (x y : Int32) : Prop := if k = 0 then x = y else x < y
def xdec (κ : xK) (k : Nat) (x y : xV) : Option Bool :=
  let a := xrng κ.2 x
  let b := xrng κ.2 y
  if Nat.beq k 0 then
    if Nat.beq a.1 a.2 && (Nat.beq b.1 b.2 && Nat.beq a.1 b.1) then some true
    else if Nat.blt a.2 b.1 || Nat.blt b.2 a.1 then some false
    else if κ.1.any (fun q => Nat.beq q.1.1 x.1 && Nat.beq q.1.2 x.2 && (Nat.beq q.2.1 y.1 && Nat.beq q.2.2 y.2)) then some false
    else none
  else if Nat.blt a.2 b.1 then some true
  else if Nat.ble b.2 a.1 then some false
  else none
theorem xdec_ok {ρ : Nat → Int32} {κ : xK} (h : xKok ρ κ) {k : Nat} {x y : xV} (hx : xint x = true) (hy : xint y = true) {r : Bool} (hd : xdec κ k x y = some r) : r = true ↔ xbp k (xdi ρ x) (xdi ρ y) := by
  have h1 := xrng_ok h hx
  have h2 := xrng_ok h hy
  simp only [xdec] at hd
  by_cases hk : k = 0
  · subst hk
    rw [if_pos (by rfl)] at hd
    simp only [xbp, if_pos]
    split at hd
    · next hc =>
      simp only [Bool.and_eq_true, Nat.beq_eq] at hc
      cases hd
      exact ⟨fun _ => sgI_inj (by omega), fun _ => rfl⟩
    · split at hd
      · next hc =>
        simp only [Bool.or_eq_true, Nat.blt_eq] at hc
        cases hd
        refine ⟨fun q => (by cases q), fun e => ?_⟩
        rw [e] at h1
        omega
      · split at hd
        · next hc =>
          cases hd
          refine ⟨fun q => (by cases q), fun e => ?_⟩
          obtain ⟨q, hq, hh⟩ := List.any_eq_true.mp hc
          simp only [Bool.and_eq_true, Nat.beq_eq] at hh
          obtain ⟨⟨e1, e2⟩, e3, e4⟩ := hh
          have ex : q.1 = x := Prod.ext e1 e2
          have ey : q.2 = y := Prod.ext e3 e4
          exact absurd (by rw [ex, ey]; exact e) (h.1 q hq)
        · cases hd
  · rw [if_neg (by rw [Nat.beq_eq]; exact hk)] at hd
    simp only [xbp, if_neg hk]
    rw [sgI_ltI]
    split at hd
    · next hc =>
      simp only [Nat.blt_eq] at hc
      cases hd
      exact ⟨fun _ => by omega, fun _ => rfl⟩
    · split at hd
      · next hc =>
        simp only [Nat.ble_eq] at hc
        cases hd
        exact ⟨fun q => (by cases q), fun _ => by omega⟩
      · cases hd
/-- what a branch teaches -/
def xlrn (κ : xK) (k : Nat) (x y : xV) (r : Bool) : xK :=
  let a := xrng κ.2 x
  let b := xrng κ.2 y
  if Nat.beq k 0 then (if r then (κ.1, xsetr (xsetr κ.2 x b.1 b.2) y a.1 a.2) else ((x, y) :: κ.1, κ.2))
  else if r then (κ.1, xsetr (xsetr κ.2 x 0 (b.2 - 1)) y (a.1 + 1) 4294967295)
  else (κ.1, xsetr (xsetr κ.2 x b.1 4294967295) y 0 a.2)
theorem xlrn_ok {ρ : Nat → Int32} {κ : xK} (h : xKok ρ κ) {k : Nat} {x y : xV} (hx : xint x = true) (hy : xint y = true) {r : Bool} (hb : r = true ↔ xbp k (xdi ρ x) (xdi ρ y)) : xKok ρ (xlrn κ k x y r) := by
  have h1 := xrng_ok h hx
  have h2 := xrng_ok h hy
  have l1 := sgI_lt (xdi ρ x)
  have l2 := sgI_lt (xdi ρ y)
  simp only [xlrn]
  by_cases hk : k = 0
  · subst hk
    simp only [xbp, if_pos] at hb
    rw [if_pos (by rfl)]
    cases r with
    | true =>
      have e := hb.mp rfl
      rw [if_pos rfl]
      exact xsetr_ok (xsetr_ok (cs := κ.1) (iv := κ.2) h (by rw [e]; exact h2.1) (by rw [e]; exact h2.2)) (by rw [← e]; exact h1.1) (by rw [← e]; exact h1.2)
    | false =>
      rw [if_neg (by decide)]
      refine ⟨fun q hq => ?_, h.2⟩
      rcases List.mem_cons.mp hq with e | hq
      · rw [e]
        exact fun z => by have := hb.mpr z; cases this
      · exact h.1 q hq
  · simp only [xbp, if_neg hk] at hb
    rw [if_neg (by rw [Nat.beq_eq]; exact hk)]
    rw [sgI_ltI] at hb
    cases r with
    | true =>
      have e := hb.mp rfl
      rw [if_pos rfl]
      exact xsetr_ok (xsetr_ok (cs := κ.1) (iv := κ.2) h (Nat.zero_le _) (by omega)) (by omega) (by omega)
    | false =>
      have e : ¬ sgI (xdi ρ x) < sgI (xdi ρ y) := fun z => by have := hb.mpr z; cases this
      rw [if_neg (by decide)]
      exact xsetr_ok (xsetr_ok (cs := κ.1) (iv := κ.2) h (by omega) (by omega)) (Nat.zero_le _) (by omega)
/-- the normal form of a compare: base, left, right, negated -/
def xnf (c : Nat) (x y : xV) : Nat × xV × xV × Bool := match c with
  | 0 => (0, x, y, false)
  | 1 => (0, x, y, true)
  | 2 => (1, x, y, false)
  | 3 => (1, x, y, true)
  | 4 => (1, y, x, false)
  | _ => (1, y, x, true)
theorem xnf_ok {ρ : Nat → Int32} (c : Nat) (x y : xV) : xcp c (xdi ρ x) (xdi ρ y) ↔ (xbp (xnf c x y).1 (xdi ρ (xnf c x y).2.1) (xdi ρ (xnf c x y).2.2.1) ↔ (xnf c x y).2.2.2 = false) := by
  match c with
  | 0 => simp [xcp, xnf, xbp]
  | 1 => simp [xcp, xnf, xbp]
  | 2 => simp [xcp, xnf, xbp]
  | 3 => simp [xcp, xnf, xbp, Int32.not_lt]
  | 4 => simp [xcp, xnf, xbp]
  | c + 5 => simp [xcp, xnf, xbp, Int32.not_lt]
def xadd (x y : Option (List xR)) : Option (List xR) := match x, y with
  | some a, some b => some (a ++ b)
  | _, _ => none
/-- a compare: one way where it is known, else both, each with what it teaches -/
def xfork (κ : xK) (c : Nat) (x y : xV) (kt kf : xK → Option (List xR)) : Option (List xR) :=
  let q := xnf c (xnm κ.2 x) (xnm κ.2 y)
  if xint q.2.1 && xint q.2.2.1 then
    match xdec κ q.1 q.2.1 q.2.2.1 with
    | some r => if Bool.xor r q.2.2.2 then kt κ else kf κ
    | none =>
      let k1 := xlrn κ q.1 q.2.1 q.2.2.1 true
      let k2 := xlrn κ q.1 q.2.1 q.2.2.1 false
      xadd (if xcons k1.2 then (if q.2.2.2 then kf k1 else kt k1) else some []) (if xcons k2.2 then (if q.2.2.2 then kt k2 else kf k2) else some [])
  else none
theorem xfork_ok {ρ : Nat → Int32} {κ : xK} (h : xKok ρ κ) {c : Nat} {x y : xV} {kt kf : xK → Option (List xR)} {Ls : List xR} (hf : xfork κ c x y kt kf = some Ls) :
    (xcp c (xdi ρ x) (xdi ρ y) → ∃ κ' L, kt κ' = some L ∧ xKok ρ κ' ∧ ∀ q ∈ L, q ∈ Ls) ∧ (¬ xcp c (xdi ρ x) (xdi ρ y) → ∃ κ' L, kf κ' = some L ∧ xKok ρ κ' ∧ ∀ q ∈ L, q ∈ Ls) := by
  simp only [xfork] at hf
  have hn := xnf_ok (ρ := ρ) c (xnm κ.2 x) (xnm κ.2 y)
  rw [(xnm_ok h (b := 0) (sa := fun _ => 0) x).2, (xnm_ok h (b := 0) (sa := fun _ => 0) y).2] at hn
  generalize xnf c (xnm κ.2 x) (xnm κ.2 y) = q at hf hn
  obtain ⟨k, u, w, ng⟩ := q
  dsimp only at hf hn
  split at hf
  · next hi =>
    simp only [Bool.and_eq_true] at hi
    cases hd : xdec κ k u w with
    | some r =>
      rw [hd] at hf
      dsimp only at hf
      have hr := xdec_ok h hi.1 hi.2 hd
      rw [← hr] at hn
      refine ⟨fun hc => ⟨κ, Ls, ?_, h, fun _ z => z⟩, fun hc => ⟨κ, Ls, ?_, h, fun _ z => z⟩⟩
      · have := hn.mp hc
        cases r <;> cases ng <;> simp_all
      · have := fun z => hc (hn.mpr z)
        cases r <;> cases ng <;> simp_all
    | none =>
      rw [hd] at hf
      dsimp only at hf
      generalize ha : (if xcons (xlrn κ k u w true).2 = true then (if ng = true then kf (xlrn κ k u w true) else kt (xlrn κ k u w true)) else some []) = a at hf
      generalize hb : (if xcons (xlrn κ k u w false).2 = true then (if ng = true then kt (xlrn κ k u w false) else kf (xlrn κ k u w false)) else some []) = b at hf
      cases a with
      | none => cases hf
      | some La =>
        cases b with
        | none => cases hf
        | some Lb =>
          cases hf
          by_cases hbp : xbp k (xdi ρ u) (xdi ρ w)
          · have hK := xlrn_ok h hi.1 hi.2 (r := true) (k := k) ⟨fun _ => hbp, fun _ => rfl⟩
            rw [if_pos (xcons_ok hK)] at ha
            refine ⟨fun hc => ⟨_, La, ?_, hK, fun q hq => List.mem_append_left _ hq⟩, fun hc => ⟨_, La, ?_, hK, fun q hq => List.mem_append_left _ hq⟩⟩
            · have := (hn.mp hc).mp hbp
              subst this
              simpa using ha
            · have : ng = true := by
                cases ng
                · exact absurd (hn.mpr ⟨fun _ => rfl, fun _ => hbp⟩) hc
                · rfl
              subst this
              simpa using ha
          · have hK := xlrn_ok h hi.1 hi.2 (r := false) (k := k) ⟨fun z => (by cases z), fun z => absurd z hbp⟩
            rw [if_pos (xcons_ok hK)] at hb
            refine ⟨fun hc => ⟨_, Lb, ?_, hK, fun q hq => List.mem_append_right _ hq⟩, fun hc => ⟨_, Lb, ?_, hK, fun q hq => List.mem_append_right _ hq⟩⟩
            · have : ng = true := by
                cases ng
                · exact absurd ((hn.mp hc).mpr rfl) hbp
                · rfl
              subst this
              simpa using hb
            · have : ng = false := by
                cases ng
                · rfl
                · exact absurd (hn.mpr ⟨fun z => absurd z hbp, fun z => by cases z⟩) hc
              subst this
              simpa using hb
  · cases hf
end
section
abbrev xCx (p : Program) (s : State) (m : MethodId) (args : Array Value) (c : Code) (cc : ByteArray) (own : String) : Prop := p.tables.exec = Jvm.exec ∧ c.code = cc ∧ s.vm.findClass own = some m.cls ∧ ∀ w ∈ xgt, w.before args s = true
def xkd (k : Nat) (v : Value) : Prop := match k with
  | 0 => ∃ x, v = .int x
  | 1 => v = .null ∨ ∃ a, v = .ref a
  | _ => ∃ x, v = .long x
def xT (cc : ByteArray) (own : String) (pc nx : Nat) (st st' : List Value) : Prop := ∀ (p : Program) (l : Launch) (e : Env) (R : Room) (s : State) (m : MethodId) (args : Array Value) (below : List Frame) (meth : Method) (c : Code) (H : Heap) (locs : List Loc) (cells slots : Nat) (Q : State → Prop) (ls : Array Slot) (rest : List Value), xCx p s m args c cc own → W p l e R s m args below meth c H locs cells slots Q (F0 m nx ls (st' ++ rest)) → W p l e R s m args below meth c H locs cells slots Q (F0 m pc ls (st ++ rest))
def xB (cc : ByteArray) (own : String) (pc nx tgt k : Nat) : Prop := ∀ (p : Program) (l : Launch) (e : Env) (R : Room) (s : State) (m : MethodId) (args : Array Value) (below : List Frame) (meth : Method) (c : Code) (H : Heap) (locs : List Loc) (cells slots : Nat) (Q : State → Prop) (ls : Array Slot) (rest : List Value), xCx p s m args c cc own → ∀ x y : Int32, (xcp k x y → W p l e R s m args below meth c H locs cells slots Q (F0 m tgt ls rest)) → (¬ xcp k x y → W p l e R s m args below meth c H locs cells slots Q (F0 m nx ls rest)) → W p l e R s m args below meth c H locs cells slots Q (F0 m pc ls (.int y :: .int x :: rest))
def xB0 (cc : ByteArray) (own : String) (pc nx tgt k : Nat) : Prop := ∀ (p : Program) (l : Launch) (e : Env) (R : Room) (s : State) (m : MethodId) (args : Array Value) (below : List Frame) (meth : Method) (c : Code) (H : Heap) (locs : List Loc) (cells slots : Nat) (Q : State → Prop) (ls : Array Slot) (rest : List Value), xCx p s m args c cc own → ∀ x : Int32, (xcp k x (nI 0) → W p l e R s m args below meth c H locs cells slots Q (F0 m tgt ls rest)) → (¬ xcp k x (nI 0) → W p l e R s m args below meth c H locs cells slots Q (F0 m nx ls rest)) → W p l e R s m args below meth c H locs cells slots Q (F0 m pc ls (.int x :: rest))
def xLd (cc : ByteArray) (own : String) (pc nx k i : Nat) : Prop := ∀ (p : Program) (l : Launch) (e : Env) (R : Room) (s : State) (m : MethodId) (args : Array Value) (below : List Frame) (meth : Method) (c : Code) (H : Heap) (locs : List Loc) (cells slots : Nat) (Q : State → Prop) (ls : Array Slot) (rest : List Value), xCx p s m args c cc own → ∀ v : Value, xkd k v → ls[i]? = some (.val v) → W p l e R s m args below meth c H locs cells slots Q (F0 m nx ls (v :: rest)) → W p l e R s m args below meth c H locs cells slots Q (F0 m pc ls rest)
def xfl (k i : Nat) (q : Nat × Value) : Bool := match k with
  | 2 => !(q.1 == i) && (!(q.1 == i + 1) && !(q.1 + 1 == i && q.2.category == 2))
  | _ => !(q.1 == i) && !(q.1 + 1 == i && q.2.category == 2)
def xwd (k : Nat) : Nat := match k with
  | 2 => 1
  | _ => 0
def xSt (cc : ByteArray) (own : String) (pc nx k i : Nat) : Prop := ∀ (p : Program) (l : Launch) (e : Env) (R : Room) (s : State) (m : MethodId) (args : Array Value) (below : List Frame) (meth : Method) (c : Code) (H : Heap) (locs : List Loc) (cells slots : Nat) (Q : State → Prop) (ls : Array Slot) (rest : List Value), xCx p s m args c cc own → ∀ (nL : Nat) (lv : List (Nat × Value)) (v : Value), xkd k v → lv_has ls nL lv → i + xwd k < nL → (∀ ls' : Array Slot, lv_has ls' nL ((i, v) :: lv.filter (xfl k i)) → W p l e R s m args below meth c H locs cells slots Q (F0 m nx ls' rest)) → W p l e R s m args below meth c H locs cells slots Q (F0 m pc ls (v :: rest))
def xIn (cc : ByteArray) (own : String) (pc nx i n : Nat) : Prop := ∀ (p : Program) (l : Launch) (e : Env) (R : Room) (s : State) (m : MethodId) (args : Array Value) (below : List Frame) (meth : Method) (c : Code) (H : Heap) (locs : List Loc) (cells slots : Nat) (Q : State → Prop) (ls : Array Slot) (rest : List Value), xCx p s m args c cc own → ∀ (nL k : Nat) (lv : List (Nat × Value)) (x : Int32), lv_has ls nL lv → lv[k]? = some (i, .int x) → i < nL → (∀ ls' : Array Slot, lv_has ls' nL ((i, .int (x + nI n)) :: lv.filter (xfl 0 i)) → W p l e R s m args below meth c H locs cells slots Q (F0 m nx ls' rest)) → W p l e R s m args below meth c H locs cells slots Q (F0 m pc ls rest)
def xSw (cc : ByteArray) (own : String) (pc dflt : Nat) (cs : List (Nat × Nat)) : Prop := ∀ (p : Program) (l : Launch) (e : Env) (R : Room) (s : State) (m : MethodId) (args : Array Value) (below : List Frame) (meth : Method) (c : Code) (H : Heap) (locs : List Loc) (cells slots : Nat) (Q : State → Prop) (ls : Array Slot) (rest : List Value), xCx p s m args c cc own → ∀ x : Int32, ((∃ q ∈ cs, x = nI q.1 ∧ W p l e R s m args below meth c H locs cells slots Q (F0 m q.2 ls rest)) ∨ ((∀ q ∈ cs, ¬ x = nI q.1) ∧ W p l e R s m args below meth c H locs cells slots Q (F0 m dflt ls rest))) → W p l e R s m args below meth c H locs cells slots Q (F0 m pc ls (.int x :: rest))
def xGf (cc : ByteArray) (own : String) (pc nx ci k : Nat) : Prop := ∀ (p : Program) (l : Launch) (e : Env) (R : Room) (s : State) (m : MethodId) (args : Array Value) (below : List Frame) (meth : Method) (c : Code) (H : Heap) (locs : List Loc) (cells slots : Nat) (Q : State → Prop) (ls : Array Slot) (rest : List Value), xCx p s m args c cc own → ∀ (D : va_G) (tys : List (ClassId × FieldType)) (ws : va_W) (q0 a : Nat) (fs : List Value) (v : Value), va_K D vwCl tys s → va_P D vwCl ws H → ws[q0]? = some (a, .inr (ci, fs)) → fs[k]? = some v → W p l e R s m args below meth c H locs cells slots Q (F0 m nx ls (v :: rest)) → W p l e R s m args below meth c H locs cells slots Q (F0 m pc ls (.ref a :: rest))
def xPf (cc : ByteArray) (own : String) (pc nx ci k : Nat) (ty : FieldType) (fin : Bool) : Prop := ∀ (p : Program) (l : Launch) (e : Env) (R : Room) (s : State) (m : MethodId) (args : Array Value) (below : List Frame) (meth : Method) (c : Code) (H : Heap) (locs : List Loc) (cells slots : Nat) (Q : State → Prop) (ls : Array Slot) (rest : List Value), xCx p s m args c cc own → ∀ (D : va_G) (tys : List (ClassId × FieldType)) (ws : va_W) (q0 a : Nat) (A : Nat → Prop) (H0 : Heap) (fs : List Value) (v : Value), va_K D vwCl tys s → va_P D vwCl ws H → va_D A ws → va_S A H0 H locs → ws[q0]? = some (a, .inr (ci, fs)) → (fin = true → meth.name = "<init>") → narrow ty v = v → fits ty v = true → k < fs.length → (∀ (H1 : Heap) (locs1 : List Loc), va_P D vwCl (ws.set q0 (a, .inr (ci, fs.set k v))) H1 → va_D A (ws.set q0 (a, .inr (ci, fs.set k v))) → va_S A H0 H1 locs1 → H1.size = H.size → W p l e R s m args below meth c H1 locs1 cells slots Q (F0 m nx ls rest)) → W p l e R s m args below meth c H locs cells slots Q (F0 m pc ls (v :: .ref a :: rest))
def xAl (cc : ByteArray) (own : String) (pc nx : Nat) : Prop := ∀ (p : Program) (l : Launch) (e : Env) (R : Room) (s : State) (m : MethodId) (args : Array Value) (below : List Frame) (meth : Method) (c : Code) (H : Heap) (locs : List Loc) (cells slots : Nat) (Q : State → Prop) (ls : Array Slot) (rest : List Value), xCx p s m args c cc own → ∀ (D : va_G) (tys : List (ClassId × FieldType)) (ws : va_W) (q0 a : Nat) (t0 : Nat) (cA : ClassId) (x : vp_A) (ty : FieldType), va_K D vwCl tys s → va_P D vwCl ws H → ws[q0]? = some (a, .inl (cA, x)) → tys[t0]? = some (cA, ty) → W p l e R s m args below meth c H locs cells slots Q (F0 m nx ls (.int (nI x.1) :: rest)) → W p l e R s m args below meth c H locs cells slots Q (F0 m pc ls (.ref a :: rest))
def xRd (cc : ByteArray) (own : String) (pc nx : Nat) (ty : FieldType) : Prop := ∀ (p : Program) (l : Launch) (e : Env) (R : Room) (s : State) (m : MethodId) (args : Array Value) (below : List Frame) (meth : Method) (c : Code) (H : Heap) (locs : List Loc) (cells slots : Nat) (Q : State → Prop) (ls : Array Slot) (rest : List Value), xCx p s m args c cc own → ∀ (D : va_G) (tys : List (ClassId × FieldType)) (ws : va_W) (q0 a : Nat) (t0 : Nat) (cA : ClassId) (n : Nat) (f : Nat → Int32) (i : Int32), va_K D vwCl tys s → va_P D vwCl ws H → ws[q0]? = some (a, .inl (cA, n, .inl f)) → tys[t0]? = some (cA, ty) → vp_in i n → W p l e R s m args below meth c H locs cells slots Q (F0 m nx ls (.int (f i.toNatClampNeg) :: rest)) → W p l e R s m args below meth c H locs cells slots Q (F0 m pc ls (.int i :: .ref a :: rest))
def xRr (cc : ByteArray) (own : String) (pc nx : Nat) : Prop := ∀ (p : Program) (l : Launch) (e : Env) (R : Room) (s : State) (m : MethodId) (args : Array Value) (below : List Frame) (meth : Method) (c : Code) (H : Heap) (locs : List Loc) (cells slots : Nat) (Q : State → Prop) (ls : Array Slot) (rest : List Value), xCx p s m args c cc own → ∀ (D : va_G) (tys : List (ClassId × FieldType)) (ws : va_W) (q0 a : Nat) (t0 : Nat) (cA : ClassId) (n : Nat) (f : Nat → Option Nat) (i : Int32), va_K D vwCl tys s → va_P D vwCl ws H → ws[q0]? = some (a, .inl (cA, n, .inr (.inr (.inr (.inr f))))) → tys[t0]? = some (cA, .array .int) → vp_in i n → W p l e R s m args below meth c H locs cells slots Q (F0 m nx ls (va_rf (f i.toNatClampNeg) :: rest)) → W p l e R s m args below meth c H locs cells slots Q (F0 m pc ls (.int i :: .ref a :: rest))
def xWr (cc : ByteArray) (own : String) (pc nx : Nat) (ty : FieldType) : Prop := ∀ (p : Program) (l : Launch) (e : Env) (R : Room) (s : State) (m : MethodId) (args : Array Value) (below : List Frame) (meth : Method) (c : Code) (H : Heap) (locs : List Loc) (cells slots : Nat) (Q : State → Prop) (ls : Array Slot) (rest : List Value), xCx p s m args c cc own → ∀ (D : va_G) (tys : List (ClassId × FieldType)) (ws : va_W) (q0 a : Nat) (A : Nat → Prop) (H0 : Heap) (t0 : Nat) (cA : ClassId) (n : Nat) (f : Nat → Int32) (i x : Int32), va_K D vwCl tys s → va_P D vwCl ws H → va_D A ws → va_S A H0 H locs → ws[q0]? = some (a, .inl (cA, n, .inl f)) → tys[t0]? = some (cA, ty) → vp_in i n → (∀ (H1 : Heap) (locs1 : List Loc), va_P D vwCl (ws.set q0 (a, .inl (cA, n, .inl (upd f i.toNatClampNeg (vp_nar ty x))))) H1 → va_D A (ws.set q0 (a, .inl (cA, n, .inl (upd f i.toNatClampNeg (vp_nar ty x))))) → va_S A H0 H1 locs1 → H1.size = H.size → W p l e R s m args below meth c H1 locs1 cells slots Q (F0 m nx ls rest)) → W p l e R s m args below meth c H locs cells slots Q (F0 m pc ls (.int x :: .int i :: .ref a :: rest))
def xCp (cc : ByteArray) (own : String) (pc nx : Nat) : Prop := ∀ (p : Program) (l : Launch) (e : Env) (R : Room) (s : State) (m : MethodId) (args : Array Value) (below : List Frame) (meth : Method) (c : Code) (H : Heap) (locs : List Loc) (cells slots : Nat) (Q : State → Prop) (ls : Array Slot) (rest : List Value), xCx p s m args c cc own → ∀ (D : va_G) (tys : List (ClassId × FieldType)) (ws : va_W) (A : Nat → Prop) (H0 : Heap) (q0 q1 a0 a t0 : Nat) (cA : ClassId) (n0 n1 : Nat) (f g : Nat → Int32) (sp dp n : Int32), c.maxLocals = ls.size → va_K D vwCl tys s → va_P D vwCl ws H → va_D A ws → va_S A H0 H locs → ws[q0]? = some (a0, .inl (cA, n0, .inl f)) → ws[q1]? = some (a, .inl (cA, n1, .inl g)) → tys[t0]? = some (cA, .int) → ¬ sp < 0 → ¬ dp < 0 → ¬ n < 0 → sp.toNatClampNeg + n.toNatClampNeg ≤ n0 → dp.toNatClampNeg + n.toNatClampNeg ≤ n1 → 1 ≤ R.frames → (rest.map fun v => v.category).sum + (nativeFrameWords "java/lang/System" "arraycopy" 5 + 11) ≤ R.locals → (∀ (H1 : Heap) (locs1 : List Loc), va_P D vwCl (ws.set q1 (a, .inl (cA, n1, .inl (va_cpy f g sp.toNatClampNeg dp.toNatClampNeg n.toNatClampNeg)))) H1 → va_S A H0 H1 locs1 → H1.size = H.size → W p l e R s m args below meth c H1 locs1 cells slots Q (F0 m nx ls rest)) → W p l e R s m args below meth c H locs cells slots Q (F0 m pc ls (.int n :: .int dp :: .ref a :: .int sp :: .ref a0 :: rest))
def xOi (cc : ByteArray) (own : String) (pc nx : Nat) : Prop := ∀ (p : Program) (l : Launch) (e : Env) (R : Room) (s : State) (m : MethodId) (args : Array Value) (below : List Frame) (meth : Method) (c : Code) (H : Heap) (locs : List Loc) (cells slots : Nat) (Q : State → Prop) (ls : Array Slot) (rest : List Value), xCx p s m args c cc own → ∀ a : Nat, c.maxLocals = ls.size → 1 ≤ R.frames → (rest.map fun v => v.category).sum + 12 ≤ R.locals → W p l e R s m args below meth c H locs cells slots Q (F0 m nx ls rest) → W p l e R s m args below meth c H locs cells slots Q (F0 m pc ls (.ref a :: rest))
def xNa (cc : ByteArray) (own : String) (pc nx : Nat) (ty : FieldType) : Prop := ∀ (p : Program) (l : Launch) (e : Env) (R : Room) (s : State) (m : MethodId) (args : Array Value) (below : List Frame) (meth : Method) (c : Code) (H : Heap) (locs : List Loc) (cells slots : Nat) (Q : State → Prop) (ls : Array Slot) (rest : List Value), xCx p s m args c cc own → ∀ (D : va_G) (tys : List (ClassId × FieldType)) (ws : va_W) (A : Nat → Prop) (H0 : Heap) (n : Int32) (N' : Nat) (a0 : vp_A) (cA : ClassId), va_K D vwCl tys s → va_P D vwCl ws H → va_S A H0 H locs → s.vm.findClass ("[" ++ ty.toString) = some cA → vp_cell cA a0 = arrV cA N' (fun _ => defaultValue ty) → ¬ n < 0 → n.toNatClampNeg = N' → N' * componentBytes ty ≤ 536870912 → cells + 1 ≤ R.cells → slots + N' ≤ R.slots → (∀ H1 : Heap, va_P D vwCl (ws ++ [(H.size, .inl (cA, a0))]) H1 → va_S A H0 H1 locs → H1.size = H.size + 1 → W p l e R s m args below meth c H1 locs (cells + 1) (slots + N') Q (F0 m nx ls (.ref H.size :: rest))) → W p l e R s m args below meth c H locs cells slots Q (F0 m pc ls (.int n :: rest))
def xNw (cc : ByteArray) (own : String) (pc nx ci N : Nat) (fs : List Value) : Prop := ∀ (p : Program) (l : Launch) (e : Env) (R : Room) (s : State) (m : MethodId) (args : Array Value) (below : List Frame) (meth : Method) (c : Code) (H : Heap) (locs : List Loc) (cells slots : Nat) (Q : State → Prop) (ls : Array Slot) (rest : List Value), xCx p s m args c cc own → ∀ (D : va_G) (tys : List (ClassId × FieldType)) (ws : va_W) (A : Nat → Prop) (H0 : Heap), va_K D vwCl tys s → va_P D vwCl ws H → va_S A H0 H locs → cells + 1 ≤ R.cells → slots + N ≤ R.slots → (∀ H1 : Heap, va_P D vwCl (ws ++ [(H.size, .inr (ci, fs))]) H1 → va_S A H0 H1 locs → H1.size = H.size + 1 → W p l e R s m args below meth c H1 locs (cells + 1) (slots + N) Q (F0 m nx ls (.ref H.size :: rest))) → W p l e R s m args below meth c H locs cells slots Q (F0 m pc ls rest)
section XR
variable {cc : ByteArray} {own : String} {pc : Nat}
theorem xr_iconst {n : Int} {a : Nat} (d : decode cc pc = .ok (.iconst n, 1)) (h : Int32.ofInt n = nI a) : xT cc own pc (pc + 1) [] [.int (nI a)] := fun p l e R s m args below meth c H locs cells slots Q ls rest C k => lv_iconst C.1 C.2.1 d h k
theorem xr_bipush {n : Int} {a : Nat} (d : decode cc pc = .ok (.bipush n, 2)) (h : (Int8.ofInt n).toInt32 = nI a) : xT cc own pc (pc + 2) [] [.int (nI a)] := fun p l e R s m args below meth c H locs cells slots Q ls rest C k => lv_bipush C.1 C.2.1 d h k
theorem xr_sipush {n : Int} {a : Nat} (d : decode cc pc = .ok (.sipush n, 3)) (h : (Int16.ofInt n).toInt32 = nI a) : xT cc own pc (pc + 3) [] [.int (nI a)] := fun p l e R s m args below meth c H locs cells slots Q ls rest C k => lv_sipush C.1 C.2.1 d h k
theorem xr_lconst {n : Fin 2} {a : Nat} (d : decode cc pc = .ok (.lconst n, 1)) (h : Int64.ofNat (n : Nat) = lN a) : xT cc own pc (pc + 1) [] [.long (lN a)] := fun p l e R s m args below meth c H locs cells slots Q ls rest C k => lv_lconst C.1 C.2.1 d h k
theorem xr_ldc {ix a : Nat} (d : decode cc pc = .ok (.ldc ix, 2)) (h : Cond.constant own ix (nI a) ∈ xgt) : xT cc own pc (pc + 2) [] [.int (nI a)] := fun p l e R s m args below meth c H locs cells slots Q ls rest C k => lv_ldc C.1 C.2.1 C.2.2.1 (C.2.2.2 _ h) d k
theorem xr_ldcw {ix a : Nat} (d : decode cc pc = .ok (.ldc_w ix, 3)) (h : Cond.constant own ix (nI a) ∈ xgt) : xT cc own pc (pc + 3) [] [.int (nI a)] := fun p l e R s m args below meth c H locs cells slots Q ls rest C k => lv_ldcw C.1 C.2.1 C.2.2.1 (C.2.2.2 _ h) d k
theorem xr_ldc2 {ix a : Nat} (d : decode cc pc = .ok (.ldc2_w ix, 3)) (h : Cond.constantLong own ix (lN a) ∈ xgt) : xT cc own pc (pc + 3) [] [.long (lN a)] := fun p l e R s m args below meth c H locs cells slots Q ls rest C k => lv_ldc2 C.1 C.2.1 C.2.2.1 (C.2.2.2 _ h) d k
theorem xr_iadd  (d : decode cc pc = .ok (.iadd, 1)) (x y : Int32) : xT cc own pc (pc + 1) [.int y, .int x] [.int (fbin 0 x y)] := fun p l e R s m args below meth c H locs cells slots Q ls rest C k => lv_iadd C.1 C.2.1 d k
theorem xr_isub  (d : decode cc pc = .ok (.isub, 1)) (x y : Int32) : xT cc own pc (pc + 1) [.int y, .int x] [.int (fbin 1 x y)] := fun p l e R s m args below meth c H locs cells slots Q ls rest C k => lv_isub C.1 C.2.1 d k
theorem xr_imul  (d : decode cc pc = .ok (.imul, 1)) (x y : Int32) : xT cc own pc (pc + 1) [.int y, .int x] [.int (fbin 2 x y)] := fun p l e R s m args below meth c H locs cells slots Q ls rest C k => lv_imul C.1 C.2.1 d k
theorem xr_iand  (d : decode cc pc = .ok (.iand, 1)) (x y : Int32) : xT cc own pc (pc + 1) [.int y, .int x] [.int (fbin 3 x y)] := fun p l e R s m args below meth c H locs cells slots Q ls rest C k => lv_iand C.1 C.2.1 d k
theorem xr_ior  (d : decode cc pc = .ok (.ior, 1)) (x y : Int32) : xT cc own pc (pc + 1) [.int y, .int x] [.int (fbin 4 x y)] := fun p l e R s m args below meth c H locs cells slots Q ls rest C k => lv_ior C.1 C.2.1 d k
theorem xr_ixor  (d : decode cc pc = .ok (.ixor, 1)) (x y : Int32) : xT cc own pc (pc + 1) [.int y, .int x] [.int (fbin 5 x y)] := fun p l e R s m args below meth c H locs cells slots Q ls rest C k => lv_ixor C.1 C.2.1 d k
theorem xr_ishl  (d : decode cc pc = .ok (.ishl, 1)) (x y : Int32) : xT cc own pc (pc + 1) [.int y, .int x] [.int (fbin 6 x y)] := fun p l e R s m args below meth c H locs cells slots Q ls rest C k => lv_ishl C.1 C.2.1 d k
theorem xr_ishr  (d : decode cc pc = .ok (.ishr, 1)) (x y : Int32) : xT cc own pc (pc + 1) [.int y, .int x] [.int (fbin 7 x y)] := fun p l e R s m args below meth c H locs cells slots Q ls rest C k => lv_ishr C.1 C.2.1 d k
theorem xr_iushr  (d : decode cc pc = .ok (.iushr, 1)) (x y : Int32) : xT cc own pc (pc + 1) [.int y, .int x] [.int (fbin 8 x y)] := fun p l e R s m args below meth c H locs cells slots Q ls rest C k => lv_iushr C.1 C.2.1 d rfl k
theorem xr_idiv  (d : decode cc pc = .ok (.idiv, 1)) (x y : Int32) (h : ¬ y = 0) : xT cc own pc (pc + 1) [.int y, .int x] [.int (fbin 9 x y)] := fun p l e R s m args below meth c H locs cells slots Q ls rest C k => lv_idiv C.1 C.2.1 d h k
theorem xr_irem  (d : decode cc pc = .ok (.irem, 1)) (x y : Int32) (h : ¬ y = 0) : xT cc own pc (pc + 1) [.int y, .int x] [.int (fbin 10 x y)] := fun p l e R s m args below meth c H locs cells slots Q ls rest C k => lv_irem C.1 C.2.1 d h k
theorem xr_i2b  (d : decode cc pc = .ok (.i2b, 1)) (x : Int32) : xT cc own pc (pc + 1) [.int x] [.int x.toInt8.toInt32] := fun p l e R s m args below meth c H locs cells slots Q ls rest C k => lv_i2b C.1 C.2.1 d rfl k
theorem xr_land  (d : decode cc pc = .ok (.land, 1)) (x y : Int64) : xT cc own pc (pc + 1) [.long y, .long x] [.long (x &&& y)] := fun p l e R s m args below meth c H locs cells slots Q ls rest C k => lv_land C.1 C.2.1 d k
theorem xr_lxor  (d : decode cc pc = .ok (.lxor, 1)) (x y : Int64) : xT cc own pc (pc + 1) [.long y, .long x] [.long (x ^^^ y)] := fun p l e R s m args below meth c H locs cells slots Q ls rest C k => lv_lxor C.1 C.2.1 d k
theorem xr_lcmp  (d : decode cc pc = .ok (.lcmp, 1)) (x y : Int64) : xT cc own pc (pc + 1) [.long y, .long x] [.int (lg_cmp x y)] := fun p l e R s m args below meth c H locs cells slots Q ls rest C k => W.lcmp C.1 C.2.1 d k
theorem xr_dup  (d : decode cc pc = .ok (.dup, 1)) (v : Value) (h : v.category = 1) : xT cc own pc (pc + 1) [v] [v, v] := fun p l e R s m args below meth c H locs cells slots Q ls rest C k => lv_dup C.1 C.2.1 d h k
theorem xr_pop  (d : decode cc pc = .ok (.pop, 1)) (v : Value) (h : v.category = 1) : xT cc own pc (pc + 1) [v] [] := fun p l e R s m args below meth c H locs cells slots Q ls rest C k => lv_pop C.1 C.2.1 d h k
theorem xr_dup2  (d : decode cc pc = .ok (.dup2, 1)) (v w : Value) (h : v.category = 1) (h2 : w.category = 1) : xT cc own pc (pc + 1) [v, w] [v, w, v, w] := fun p l e R s m args below meth c H locs cells slots Q ls rest C k => lv_dup2_11 C.1 C.2.1 d h h2 k
theorem xr_goto {off : Int} {tgt : Nat} (d : decode cc pc = .ok (.goto off, 3)) (h : (pc : Int) + off = (tgt : Int)) : xT cc own pc tgt [] [] := fun p l e R s m args below meth c H locs cells slots Q ls rest C k => lv_goto C.1 C.2.1 d h k
theorem xr_icmpeq {off : Int} {tgt : Nat} (d : decode cc pc = .ok (.if_icmp .eq off, 3)) (h : (pc : Int) + off = (tgt : Int)) : xB cc own pc (pc + 3) tgt 0 := fun p l e R s m args below meth c H locs cells slots Q ls rest C x y kt kf => lv_icmp_eq C.1 C.2.1 d h kt kf
theorem xr_ifeq {off : Int} {tgt : Nat} (d : decode cc pc = .ok (.ifCond .eq off, 3)) (h : (pc : Int) + off = (tgt : Int)) : xB0 cc own pc (pc + 3) tgt 0 := fun p l e R s m args below meth c H locs cells slots Q ls rest C x kt kf => lv_if_eq C.1 C.2.1 d h kt kf
theorem xr_icmpne {off : Int} {tgt : Nat} (d : decode cc pc = .ok (.if_icmp .ne off, 3)) (h : (pc : Int) + off = (tgt : Int)) : xB cc own pc (pc + 3) tgt 1 := fun p l e R s m args below meth c H locs cells slots Q ls rest C x y kt kf => lv_icmp_ne C.1 C.2.1 d h kt (fun z => kf (fun w => w z))
theorem xr_ifne {off : Int} {tgt : Nat} (d : decode cc pc = .ok (.ifCond .ne off, 3)) (h : (pc : Int) + off = (tgt : Int)) : xB0 cc own pc (pc + 3) tgt 1 := fun p l e R s m args below meth c H locs cells slots Q ls rest C x kt kf => lv_if_ne C.1 C.2.1 d h kt (fun z => kf (fun w => w z))
theorem xr_icmplt {off : Int} {tgt : Nat} (d : decode cc pc = .ok (.if_icmp .lt off, 3)) (h : (pc : Int) + off = (tgt : Int)) : xB cc own pc (pc + 3) tgt 2 := fun p l e R s m args below meth c H locs cells slots Q ls rest C x y kt kf => lv_icmp_lt C.1 C.2.1 d h kt kf
theorem xr_iflt {off : Int} {tgt : Nat} (d : decode cc pc = .ok (.ifCond .lt off, 3)) (h : (pc : Int) + off = (tgt : Int)) : xB0 cc own pc (pc + 3) tgt 2 := fun p l e R s m args below meth c H locs cells slots Q ls rest C x kt kf => lv_if_lt C.1 C.2.1 d h kt kf
theorem xr_icmpge {off : Int} {tgt : Nat} (d : decode cc pc = .ok (.if_icmp .ge off, 3)) (h : (pc : Int) + off = (tgt : Int)) : xB cc own pc (pc + 3) tgt 3 := fun p l e R s m args below meth c H locs cells slots Q ls rest C x y kt kf => lv_icmp_ge C.1 C.2.1 d h kt kf
theorem xr_ifge {off : Int} {tgt : Nat} (d : decode cc pc = .ok (.ifCond .ge off, 3)) (h : (pc : Int) + off = (tgt : Int)) : xB0 cc own pc (pc + 3) tgt 3 := fun p l e R s m args below meth c H locs cells slots Q ls rest C x kt kf => lv_if_ge C.1 C.2.1 d h kt kf
theorem xr_icmpgt {off : Int} {tgt : Nat} (d : decode cc pc = .ok (.if_icmp .gt off, 3)) (h : (pc : Int) + off = (tgt : Int)) : xB cc own pc (pc + 3) tgt 4 := fun p l e R s m args below meth c H locs cells slots Q ls rest C x y kt kf => lv_icmp_gt C.1 C.2.1 d h kt kf
theorem xr_ifgt {off : Int} {tgt : Nat} (d : decode cc pc = .ok (.ifCond .gt off, 3)) (h : (pc : Int) + off = (tgt : Int)) : xB0 cc own pc (pc + 3) tgt 4 := fun p l e R s m args below meth c H locs cells slots Q ls rest C x kt kf => lv_if_gt C.1 C.2.1 d h kt kf
theorem xr_icmple {off : Int} {tgt : Nat} (d : decode cc pc = .ok (.if_icmp .le off, 3)) (h : (pc : Int) + off = (tgt : Int)) : xB cc own pc (pc + 3) tgt 5 := fun p l e R s m args below meth c H locs cells slots Q ls rest C x y kt kf => lv_icmp_le C.1 C.2.1 d h kt kf
theorem xr_ifle {off : Int} {tgt : Nat} (d : decode cc pc = .ok (.ifCond .le off, 3)) (h : (pc : Int) + off = (tgt : Int)) : xB0 cc own pc (pc + 3) tgt 5 := fun p l e R s m args below meth c H locs cells slots Q ls rest C x kt kf => lv_if_le C.1 C.2.1 d h kt kf
theorem xr_iloadn {i : Nat} {j : Fin 4} (d : decode cc pc = .ok (.iload_n j, 1)) (h : (j : Nat) = i) : xLd cc own pc (pc + 1) 0 i := by
  intro p l e R s m args below meth c H locs cells slots Q ls rest C v hv hl k
  obtain ⟨x, rfl⟩ := hv
  exact lv_iload_n C.1 C.2.1 d h hl k
theorem xr_iload {i : Nat} (d : decode cc pc = .ok (.iload i, 2)) : xLd cc own pc (pc + 2) 0 i := by
  intro p l e R s m args below meth c H locs cells slots Q ls rest C v hv hl k
  obtain ⟨x, rfl⟩ := hv
  exact lv_iload C.1 C.2.1 d hl k
theorem xr_lloadn {i : Nat} {j : Fin 4} (d : decode cc pc = .ok (.lload_n j, 1)) (h : (j : Nat) = i) : xLd cc own pc (pc + 1) 2 i := by
  intro p l e R s m args below meth c H locs cells slots Q ls rest C v hv hl k
  obtain ⟨x, rfl⟩ := hv
  exact lv_lload_n C.1 C.2.1 d h hl k
theorem xr_lload {i : Nat} (d : decode cc pc = .ok (.lload i, 2)) : xLd cc own pc (pc + 2) 2 i := by
  intro p l e R s m args below meth c H locs cells slots Q ls rest C v hv hl k
  obtain ⟨x, rfl⟩ := hv
  exact lv_lload C.1 C.2.1 d hl k
theorem xr_aloadn {i : Nat} {j : Fin 4} (d : decode cc pc = .ok (.aload_n j, 1)) (h : (j : Nat) = i) : xLd cc own pc (pc + 1) 1 i := by
  intro p l e R s m args below meth c H locs cells slots Q ls rest C v hv hl k
  rcases hv with rfl | ⟨x, rfl⟩
  · exact lv_aload_nN C.1 C.2.1 d h hl k
  · exact lv_aload_n C.1 C.2.1 d h hl k
theorem xr_aload {i : Nat} (d : decode cc pc = .ok (.aload i, 2)) : xLd cc own pc (pc + 2) 1 i := by
  intro p l e R s m args below meth c H locs cells slots Q ls rest C v hv hl k
  rcases hv with rfl | ⟨x, rfl⟩
  · exact lv_aloadN C.1 C.2.1 d hl k
  · exact lv_aload C.1 C.2.1 d hl k
theorem xr_istoren {i : Nat} {j : Fin 4} (d : decode cc pc = .ok (.istore_n j, 1)) (h : (j : Nat) = i) : xSt cc own pc (pc + 1) 0 i := by
  intro p l e R s m args below meth c H locs cells slots Q ls rest C nL lv v hv hh hn k
  obtain ⟨x, rfl⟩ := hv
  exact lv_istore_n C.1 C.2.1 d h hh hn rfl k
theorem xr_istore {i : Nat} (d : decode cc pc = .ok (.istore i, 2)) : xSt cc own pc (pc + 2) 0 i := by
  intro p l e R s m args below meth c H locs cells slots Q ls rest C nL lv v hv hh hn k
  obtain ⟨x, rfl⟩ := hv
  exact lv_istore C.1 C.2.1 d hh hn rfl k
theorem xr_lstoren {i : Nat} {j : Fin 4} (d : decode cc pc = .ok (.lstore_n j, 1)) (h : (j : Nat) = i) : xSt cc own pc (pc + 1) 2 i := by
  intro p l e R s m args below meth c H locs cells slots Q ls rest C nL lv v hv hh hn k
  obtain ⟨x, rfl⟩ := hv
  exact lv_lstore_n C.1 C.2.1 d h hh hn rfl k
theorem xr_lstore {i : Nat} (d : decode cc pc = .ok (.lstore i, 2)) : xSt cc own pc (pc + 2) 2 i := by
  intro p l e R s m args below meth c H locs cells slots Q ls rest C nL lv v hv hh hn k
  obtain ⟨x, rfl⟩ := hv
  exact lv_lstore C.1 C.2.1 d hh hn rfl k
theorem xr_astoren {i : Nat} {j : Fin 4} (d : decode cc pc = .ok (.astore_n j, 1)) (h : (j : Nat) = i) : xSt cc own pc (pc + 1) 1 i := by
  intro p l e R s m args below meth c H locs cells slots Q ls rest C nL lv v hv hh hn k
  rcases hv with rfl | ⟨x, rfl⟩
  · exact lv_astore_nN C.1 C.2.1 d h hh hn rfl k
  · exact lv_astore_n C.1 C.2.1 d h hh hn rfl k
theorem xr_astore {i : Nat} (d : decode cc pc = .ok (.astore i, 2)) : xSt cc own pc (pc + 2) 1 i := by
  intro p l e R s m args below meth c H locs cells slots Q ls rest C nL lv v hv hh hn k
  rcases hv with rfl | ⟨x, rfl⟩
  · exact lv_astoreN C.1 C.2.1 d hh hn rfl k
  · exact lv_astore C.1 C.2.1 d hh hn rfl k
theorem xr_iinc {i a : Nat} {n : Int} (d : decode cc pc = .ok (.iinc i n, 3)) (h : Int32.ofInt n = nI a) : xIn cc own pc (pc + 3) i a := fun p l e R s m args below meth c H locs cells slots Q ls rest C nL k lv x hh hk hn kk => lv_iinc C.1 C.2.1 d hh hk (by rw [h]) hn rfl kk
theorem xr_getf {ci k ix N : Nat} {K : String} {T : u_T} (d : decode cc pc = .ok (.getfield ix, 3)) (hc : vwCl[ci]? = some (K, T, N)) (hk : k < N) (hin : ∀ w ∈ u_ws K T N, w ∈ xgt) (hl : Cond.fieldLink own ix (T k).1 (T k).2.1 (T k).2.2.1 ∈ xgt) : xGf cc own pc (pc + 3) ci k := fun p l e R s m args below meth c H locs cells slots Q ls rest C D tys ws q0 a fs v hK hP he hv kk => va_get C.1 C.2.1 C.2.2.2 hin C.2.2.1 hK hP q0 he hc k hk (C.2.2.2 _ hl) (fun _ h => h) hv d kk
/-- a field's cell behind a store: the world -/
theorem xw_obj {D : va_G} {tys : List (ClassId × FieldType)} {ws : va_W} {A : Nat → Prop} {s : State} {args : Array Value} {H H1 : Heap} {ci k N q0 a : Nat} {K : String} {T : u_T} {ty0 : Nat → FieldType} {own : String} (hts : ∀ w ∈ xgt, w.before args s = true) (hc : vwCl[ci]? = some (K, T, N)) (hk : k < N) (hin : ∀ w ∈ u_ws K T N, w ∈ xgt) (hty : ∀ k, k < N → parseFieldDescriptor (T k).2.2.1 = some (ty0 k)) (hnm : ∀ a, a < N → ∀ b, b < N → a ≠ b → (T a).2.1 ≠ (T b).2.1)
    (hK : va_K D vwCl tys s) (hP : va_P D vwCl ws H) (hD : va_D A ws) {fs : List Value} (he : ws[q0]? = some (a, .inr (ci, fs))) {v : Value} (hlen : k < fs.length) {cell : Cell} (c1 : cell.cls = D.1 ci) (c2 : cell.vm = .none) (c3 : ∀ j, j < N → cell.slots[D.2 ci j]? = some (vp_V fs j)) (h1 : H1[a]? = some (cell.setSlot (D.2 ci k) v)) (h2 : ∀ q, q ≠ a → H1[q]? = H[q]?) : va_P D vwCl (ws.set q0 (a, .inr (ci, fs.set k v))) H1 :=
  hP.set hD he ⟨_, hc, t_OB.to (V := updV (vp_V fs) k v) ⟨_, h1, c1, c2, t_set c3 (va_apart (own := own) hts hin ty0 hty hnm hK hc) hk v⟩ (fun j _ => vp_updV_set hlen v j)⟩ h2
theorem xr_putf {ci k ix N : Nat} {K : String} {T : u_T} {ty0 : Nat → FieldType} (d : decode cc pc = .ok (.putfield ix, 3)) (hc : vwCl[ci]? = some (K, T, N)) (hk : k < N) (hin : ∀ w ∈ u_ws K T N, w ∈ xgt) (hty : ∀ k, k < N → parseFieldDescriptor (T k).2.2.1 = some (ty0 k)) (hnm : ∀ a, a < N → ∀ b, b < N → a ≠ b → (T a).2.1 ≠ (T b).2.1) (hl : Cond.fieldLink own ix (T k).1 (T k).2.1 (T k).2.2.1 ∈ xgt) (hf : (T k).2.2.2 = false) {ty : FieldType} (et : ty0 k = ty) : xPf cc own pc (pc + 3) ci k ty false := by
  intro p l e R s m args below meth c H locs cells slots Q ls rest C D tys ws q0 a A H0 fs v hK hP hD hS he _ hn hft hlen kk
  obtain ⟨r, g1, cell, q1, q2, q3, q4⟩ := hP q0 _ he
  cases g1.symm.trans hc
  obtain ⟨hSl, hfc, kC, hkC, hkind⟩ := hK.1 ci _ hc
  obtain ⟨cf, kf, fi, f, hi, hsl⟩ := hSl k hk
  have hlay := C.2.2.2 _ (hin _ (u_in_lay hk))
  rw [u_lay, if_neg (by rw [hf]; decide)] at hlay
  refine W.putK C.1 C.2.1 (f := f) ⟨C.2.2.1, C.2.2.2 _ hl, ⟨_, _, _, hi⟩, (u_facts hfc hkC (u_lays C.2.2.2 hin hk) hi).1⟩ (by rw [q2]; exact u_store hfc hkC hkind hlay hi (by rw [← et]; exact hty k hk) hn hft) q1 q3 (by rw [hsl]; exact k2_hasslot (q4 k hk)) rfl rfl d fun H' e1 e2 e3 => ?_
  rw [hsl] at e1 ⊢
  exact kk H' _ (xw_obj (own := own) C.2.2.2 hc hk hin hty hnm hK hP hD he hlen q2 q3 q4 e1 e3) (hD.set he) (hS.put e2 e3 (hD.2 q0 _ he)) e2
theorem xr_putF {ci k ix N : Nat} {K : String} {T : u_T} {ty0 : Nat → FieldType} (d : decode cc pc = .ok (.putfield ix, 3)) (hc : vwCl[ci]? = some (K, T, N)) (hk : k < N) (hin : ∀ w ∈ u_ws K T N, w ∈ xgt) (hty : ∀ k, k < N → parseFieldDescriptor (T k).2.2.1 = some (ty0 k)) (hnm : ∀ a, a < N → ∀ b, b < N → a ≠ b → (T a).2.1 ≠ (T b).2.1) (hl : Cond.fieldLink own ix (T k).1 (T k).2.1 (T k).2.2.1 ∈ xgt) (hf : (T k).2.2.2 = true) {ty : FieldType} (et : ty0 k = ty) (ho : (T k).1 = own) : xPf cc own pc (pc + 3) ci k ty true := by
  intro p l e R s m args below meth c H locs cells slots Q ls rest C D tys ws q0 a A H0 fs v hK hP hD hS he hni hn hft hlen kk
  obtain ⟨r, g1, cell, q1, q2, q3, q4⟩ := hP q0 _ he
  cases g1.symm.trans hc
  obtain ⟨hSl, hfc, kC, hkC, hkind⟩ := hK.1 ci _ hc
  obtain ⟨cf, kf, fi, f, hi, hsl⟩ := hSl k hk
  have hlay := C.2.2.2 _ (hin _ (u_in_lay hk))
  rw [u_lay, if_pos hf] at hlay
  have hcf : m.cls = cf := by
    obtain ⟨_, _, c', _, _, _, -, -, hf', -, -, -, hown2, -⟩ := Cond.laysFinal_spec hlay
    have e1 : c' = cf := by have := hi.symm.trans hf'; simp at this; exact this.1.symm
    rw [ho] at hown2
    rw [← e1]
    exact Option.some.inj (C.2.2.1.symm.trans hown2)
  refine W.putFinK C.1 C.2.1 C.2.2.1 (C.2.2.2 _ hl) hi (u_facts hfc hkC (u_lays C.2.2.2 hin hk) hi).1 hcf (hni rfl) (by rw [q2]; exact u_fits hfc hkC hkind (Or.inr hlay) hi (by rw [← et]; exact hty k hk) hn hft) q1 q3 (by rw [hsl]; exact k2_hasslot (q4 k hk)) rfl rfl d fun H' e1 e2 e3 => ?_
  rw [hsl] at e1 ⊢
  exact kk H' _ (xw_obj (own := own) C.2.2.2 hc hk hin hty hnm hK hP hD he hlen q2 q3 q4 e1 e3) (hD.set he) (hS.put e2 e3 (hD.2 q0 _ he)) e2
/-- a table switch from 0 on: its targets in order -/
theorem xr_table {dflt hi : Int} {offs : Array Int} {len df : Nat} {cs : List (Nat × Nat)} (d : decode cc pc = .ok (.tableswitch dflt 0 hi offs, len)) (h1 : hi + 1 = cs.length ∧ offs.size = cs.length ∧ cs.length < 1000) (h2 : (pc : Int) + dflt = (df : Int)) (h3 : ∀ i, i < cs.length → ((cs.getD i (0, 0)).1 = i ∧ (pc : Int) + offs.getD i 0 = ((cs.getD i (0, 0)).2 : Int))) : xSw cc own pc df cs := by
  intro p l e R s m args below meth c H locs cells slots Q ls rest C x h
  have key : ∀ i, i < cs.length → cs[i]? = some (i, (cs.getD i (0, 0)).2) := fun i hi => by
    have e1 := (h3 i hi).1
    rw [List.getD_eq_getElem?_getD, List.getElem?_eq_getElem hi] at e1 ⊢
    simp only [Option.getD_some] at e1 ⊢
    exact congrArg some (Prod.ext e1 rfl)
  rcases h with ⟨q, hq, rfl, hW⟩ | ⟨hn, hW⟩
  · obtain ⟨i, hi⟩ := List.getElem?_of_mem hq
    have hl : i < cs.length := (List.getElem?_eq_some_iff.mp hi).1
    have hk := key i hl
    rw [hi] at hk
    cases hk
    have ht := (h3 i hl).2
    have e2 : (nI i).toInt = (i : Int) := nI_toInt (by omega)
    refine lv_tableIn C.1 C.2.1 d (off := offs.getD i 0) (by rw [e2]; omega) (by rw [e2]; omega) ?_ ht hW
    rw [e2, show ((i : Int) - 0).toNat = i by omega, Array.getD_eq_getD_getElem?, Array.getElem?_eq_getElem (by omega)]
    rfl
  · refine lv_tableOut C.1 C.2.1 d ?_ h2 hW
    by_cases a : x.toInt < 0
    · exact Or.inl a
    · refine Or.inr ?_
      by_cases b : hi < x.toInt
      · exact b
      · exfalso
        have hlt : x.toInt.toNat < cs.length := by omega
        refine hn _ (List.mem_of_getElem? (key _ hlt)) ?_
        apply Int32.toInt_inj.mp
        rw [nI_toInt (by omega)]
        omega
/-- a lookup switch of two cases -/
theorem xr_look2 {dflt k0 o0 k1 o1 : Int} {len df a0 t0 a1 t1 : Nat} (d : decode cc pc = .ok (.lookupswitch dflt #[(k0, o0), (k1, o1)], len)) (h0 : k0 < k1 ∧ k0 = a0 ∧ k1 = a1 ∧ a1 < 1000) (h1 : (pc : Int) + dflt = (df : Int)) (h2 : (pc : Int) + o0 = (t0 : Int)) (h3 : (pc : Int) + o1 = (t1 : Int)) : xSw cc own pc df [(a0, t0), (a1, t1)] := by
  intro p l e R s m args below meth c H locs cells slots Q ls rest C x h
  obtain ⟨g0, g1, g2, g3⟩ := h0
  have srt : ((#[(k0, o0), (k1, o1)] : Array (Int × Int)).toList.zip ((#[(k0, o0), (k1, o1)] : Array (Int × Int)).toList.drop 1)).all (fun (a, next) => a.1 < next.1) = true := by
    simp [g0]
  have t0' : (nI a0).toInt = (a0 : Int) := nI_toInt (by omega)
  have t1' : (nI a1).toInt = (a1 : Int) := nI_toInt (by omega)
  rcases h with ⟨q, hq, rfl, hW⟩ | ⟨hn, hW⟩
  · rcases List.mem_cons.mp hq with rfl | hq
    · refine lv_lookup C.1 C.2.1 d srt (off := o0) ?_ h2 hW
      simp [Op.lookupswitch.offset, t0', g1]
    · rcases List.mem_cons.mp hq with rfl | hq
      · refine lv_lookup C.1 C.2.1 d srt (off := o1) ?_ h3 hW
        simp [Op.lookupswitch.offset, t1', g2, show ¬ k0 = (a1 : Int) by omega]
      · cases hq
  · have n0 : ¬ x.toInt = k0 := fun z => hn (a0, t0) List.mem_cons_self (Int32.toInt_inj.mp (by rw [t0']; omega))
    have n1 : ¬ x.toInt = k1 := fun z => hn (a1, t1) (List.mem_cons_of_mem _ List.mem_cons_self) (Int32.toInt_inj.mp (by rw [t1']; omega))
    refine lv_lookup C.1 C.2.1 d srt (off := dflt) ?_ h1 hW
    simp [Op.lookupswitch.offset, Ne.symm n0, Ne.symm n1]
    first | done | exact ⟨n0, n1⟩ | omega
theorem xr_alen (d : decode cc pc = .ok (.arraylength, 1)) : xAl cc own pc (pc + 1) := fun p l e R s m args below meth c H locs cells slots Q ls rest C D tys ws q0 a t0 cA x ty hK hP he ht kk => va_alen C.1 C.2.1 hK hP q0 t0 he ht rfl d kk
theorem xr_iald (d : decode cc pc = .ok (.iaload, 1)) : xRd cc own pc (pc + 1) .int := fun p l e R s m args below meth c H locs cells slots Q ls rest C D tys ws q0 a t0 cA n f i hK hP he ht hi kk => va_iald C.1 C.2.1 hK hP q0 t0 he ht hi d kk
theorem xr_bald (d : decode cc pc = .ok (.baload, 1)) : xRd cc own pc (pc + 1) .byte := fun p l e R s m args below meth c H locs cells slots Q ls rest C D tys ws q0 a t0 cA n f i hK hP he ht hi kk => va_bald C.1 C.2.1 hK hP q0 t0 he ht hi d kk
theorem xr_zald (d : decode cc pc = .ok (.baload, 1)) : xRd cc own pc (pc + 1) .boolean := fun p l e R s m args below meth c H locs cells slots Q ls rest C D tys ws q0 a t0 cA n f i hK hP he ht hi kk => va_zald C.1 C.2.1 hK hP q0 t0 he ht hi d kk
theorem xw_arr {f : Nat → Int32} {i x y : Int32} {cA : ClassId} {n : Nat} (h : x = y) : (vp_cell cA (n, .inl f)).setSlot i.toNatClampNeg (.int x) = vp_cell cA (n, .inl (upd f i.toNatClampNeg y)) := by
  rw [vp_cell_i, vp_cell_i, arrV_store, h]
  congr 1
  funext q
  by_cases hq : q = i.toNatClampNeg
  · rw [hq]
    simp [updV, upd]
  · simp [updV, upd, hq]
theorem xr_iast (d : decode cc pc = .ok (.iastore, 1)) : xWr cc own pc (pc + 1) .int := by
  intro p l e R s m args below meth c H locs cells slots Q ls rest C D tys ws q0 a A H0 t0 cA n f i x hK hP hD hS he ht hi kk
  refine W.iast C.1 C.2.1 (hP q0 _ he) ((hK.2 t0 _ ht).1 n (fun j => .int (f j))) (fun q => by cases q) (by show ¬ (i < 0 ∨ (arrV _ _ _).slots.size ≤ _); rw [arrV_size]; exact hi) rfl rfl d fun H1 e1 z oq => ?_
  refine kk H1 _ (hP.set hD he ?_ oq) (hD.set he) (hS.put z oq (hD.2 q0 _ he)) z
  show H1[a]? = some (vp_cell _ _)
  rw [e1]
  exact congrArg some (xw_arr rfl)
theorem xr_bast (d : decode cc pc = .ok (.bastore, 1)) : xWr cc own pc (pc + 1) .byte := by
  intro p l e R s m args below meth c H locs cells slots Q ls rest C D tys ws q0 a A H0 t0 cA n f i x hK hP hD hS he ht hi kk
  refine W.bast C.1 C.2.1 (hP q0 _ he) ((hK.2 t0 _ ht).1 n (fun j => .int (f j))) (fun q => by cases q) (by show ¬ (i < 0 ∨ (arrV _ _ _).slots.size ≤ _); rw [arrV_size]; exact hi) rfl rfl d fun H1 e1 z oq => ?_
  refine kk H1 _ (hP.set hD he ?_ oq) (hD.set he) (hS.put z oq (hD.2 q0 _ he)) z
  show H1[a]? = some (vp_cell _ _)
  rw [e1]
  exact congrArg some (xw_arr rfl)
theorem xr_zast (d : decode cc pc = .ok (.bastore, 1)) : xWr cc own pc (pc + 1) .boolean := by
  intro p l e R s m args below meth c H locs cells slots Q ls rest C D tys ws q0 a A H0 t0 cA n f i x hK hP hD hS he ht hi kk
  refine W.zast C.1 C.2.1 (hP q0 _ he) ((hK.2 t0 _ ht).1 n (fun j => .int (f j))) (fun q => by cases q) (by show ¬ (i < 0 ∨ (arrV _ _ _).slots.size ≤ _); rw [arrV_size]; exact hi) rfl rfl d fun H1 e1 z oq => ?_
  refine kk H1 _ (hP.set hD he ?_ oq) (hD.set he) (hS.put z oq (hD.2 q0 _ he)) z
  show H1[a]? = some (vp_cell _ _)
  rw [e1]
  exact congrArg some (xw_arr rfl)
theorem xr_aald (d : decode cc pc = .ok (.aaload, 1)) : xRr cc own pc (pc + 1) := by
  intro p l e R s m args below meth c H locs cells slots Q ls rest C D tys ws q0 a t0 cA n f i hK hP he ht hi kk
  have hc : H[a]? = some (vp_cell cA (n, .inr (.inr (.inr (.inr f))))) := hP q0 _ he
  exact W.aald C.1 C.2.1 hc ((hK.2 t0 _ ht).1 n (fun j => va_rf (f j))) rfl (by rw [vp_cell_q]; exact fun h => by cases h) (by rw [vp_cell_q, arrV_size]; exact hi) (by
    rw [vp_cell_q]
    exact arrV_read _ _ (by
      have h2 : ¬ n ≤ i.toNatClampNeg := fun z => hi (Or.inr z)
      omega)) rfl rfl d kk
theorem xr_new {ci ix N : Nat} {K : String} {T : u_T} {ty0 : Nat → FieldType} (d : decode cc pc = .ok (.new ix, 3)) (hc : vwCl[ci]? = some (K, T, N)) (hin : ∀ w ∈ u_ws K T N, w ∈ xgt) (hty : ∀ k, k < N → parseFieldDescriptor (T k).2.2.1 = some (ty0 k)) (h1 : Cond.classLink own ix K ∈ xgt) (h2 : Cond.instantiable K N ∈ xgt) (h3 : Cond.initialized K ∈ xgt) (fs : List Value) (hfs : ∀ j, j < N → defaultValue (ty0 j) = vp_V fs j) : xNw cc own pc (pc + 3) ci N fs := by
  intro p l e R s m args below meth c H locs cells slots Q ls rest C D tys ws A H0 hK hP hS hce hsl kk
  have hKn := hK.1 ci _ hc
  refine W.newcK C.1 C.2.1 C.2.2.1 (C.2.2.2 _ h1) (C.2.2.2 _ h2) (C.2.2.2 _ h3) rfl d hce hsl hKn.2.1 rfl fun H1 kC hkC e1 z1 o1 => ?_
  have hk : ∀ (k : Nat) (x : Nat × va_E), ws[k]? = some x → H1[x.1]? = H[x.1]? := fun k x hx => o1 x.1 ((hP k x hx).lt)
  refine kk H1 ((hP.kept hk).app (fun k x hx => ?_)) ⟨Nat.le_trans hS.1 (by omega), fun x h1 h2 => (o1 x (Nat.lt_of_lt_of_le h1 hS.1)).trans (hS.2.1 x h1 h2), hS.2.2⟩ z1
  have hz : k < 1 := (List.getElem?_eq_some_iff.mp hx).1
  rw [show k = 0 by omega] at hx
  cases hx
  exact ⟨_, hc, (u_born ty0 C.2.2.2 hin hKn hkC e1 hty).to hfs⟩
theorem xr_newa {atype : ArrayType} {ty : FieldType} (d : decode cc pc = .ok (.newarray atype, 2)) (hty : newarray.typeOf atype = ty) (h1 : Cond.arrayClass ty ∈ xgt) : xNa cc own pc (pc + 2) ty := by
  intro p l e R s m args below meth c H locs cells slots Q ls rest C D tys ws A H0 n N' a0 cA hK hP hS hcA ha hn hN hby hce hsl kk
  subst hty
  refine va_newaK C.1 C.2.1 (C.2.2.2 _ h1) rfl d rfl hn hN hby hce hsl rfl fun H1 cB e1 z1 o1 hAr hNm => ?_
  cases hcA.symm.trans hNm
  have hk : ∀ (k : Nat) (x : Nat × va_E), ws[k]? = some x → H1[x.1]? = H[x.1]? := fun k x hx => o1 x.1 ((hP k x hx).lt)
  refine kk H1 ((hP.kept hk).app (fun k x hx => ?_)) ⟨Nat.le_trans hS.1 (by omega), fun x h1 h2 => (o1 x (Nat.lt_of_lt_of_le h1 hS.1)).trans (hS.2.1 x h1 h2), hS.2.2⟩ z1
  have hz : k < 1 := (List.getElem?_eq_some_iff.mp hx).1
  rw [show k = 0 by omega] at hx
  cases hx
  show H1[H.size]? = some (vp_cell _ _)
  rw [ha]
  exact e1
theorem xr_oinit {ix : Nat} (d : decode cc pc = .ok (.invokespecial ix, 3)) (h1 : Cond.methodLink own ix Lib.objectInit ∈ xgt) (h2 : Cond.instanceMethod Lib.objectInit ∈ xgt) (h3 : Cond.code Lib.objectInit ⟨#[0xb1]⟩ 1 none ∈ xgt) : xOi cc own pc (pc + 3) := by
  intro p l e R s m args below meth c H locs cells slots Q ls rest C a hml hfr hlo kk
  exact W.objInit C.1 C.2.1 C.2.2.1 (C.2.2.2 _ h1) (C.2.2.2 _ h2) (C.2.2.2 _ h3) rfl hml.symm rfl d hfr (by show 2 * 0 + _ + 12 ≤ _; omega) kk
theorem xr_copy {ix : Nat} (d : decode cc pc = .ok (.invokestatic ix, 3)) (h1 : Cond.methodLink own ix arraycopyName ∈ xgt) (h2 : Cond.native arraycopyName ∈ xgt) (h3 : Cond.static arraycopyName ∈ xgt) (h4 : Cond.initialized "java/lang/System" ∈ xgt) : xCp cc own pc (pc + 3) := by
  intro p l e R s m args below meth c H locs cells slots Q ls rest C D tys ws A H0 q0 q1 a0 a t0 cA n0 n1 f g sp dp n hml hK hP hD hS e0 e1 ht b1 b2 b3 b4 b5 hfr hlo kk
  have nn : ∀ z : Int32, ¬ z < 0 → z.toInt = (z.toNatClampNeg : Int) := by
    intro z hz
    have hz0 : (0 : Int) ≤ z.toInt := by simpa using Int32.le_iff_toInt_le.mp (Int32.not_lt.mp hz)
    show z.toInt = ((z.toInt.toNat : Nat) : Int)
    omega
  intro T hT X
  have c0 : H[a0]? = some (vp_cell cA (n0, .inl f)) := hP q0 _ e0
  have c1 : H[a]? = some (vp_cell cA (n1, .inl g)) := hP q1 _ e1
  have hl : a < H.size := (Array.getElem?_eq_some_iff.mp c1).1
  obtain ⟨-, k0, hk0, cm0, hkk0⟩ := (hK.2 t0 _ ht).1 n0 (fun j => .int (f j))
  obtain ⟨-, k1, hk1, cm1, hkk1⟩ := (hK.2 t0 _ ht).1 n1 (fun j => .int (g j))
  obtain ⟨vm', X', step⟩ := X.arraycopy C.1 C.2.2.1 (C.2.2.2 _ h1) (C.2.2.2 _ h2) (C.2.2.2 _ h3) (C.2.2.2 _ h4) (src := a0) (dst := a) (cs := vp_cell cA (n0, .inl f)) (cd := vp_cell cA (n1, .inl g)) (srcPos := sp) (destPos := dp) (n := n) (by rw [hT]; exact c0) (by rw [hT]; exact c1)
    (fun _ h => by cases h) (fun _ h => by cases h) (fun h => by cases h) (fun h => by cases h) hk0 hk1 hkk0 hkk1 (by simp [refKind]) b1 b2 b3
    (by rw [nn sp b1, nn n b3]; show ¬ _ > ((arrV cA n0 (fun j => .int (f j))).slots.size : Int); rw [arrV_size]; omega)
    (by rw [nn dp b2, nn n b3]; show ¬ _ > ((arrV cA n1 (fun j => .int (g j))).slots.size : Int); rw [arrV_size]; omega)
    (fun vm₁ _ i hi => by
      have e2 : (vp_cell cA (n0, .inl f)).slots.getD (sp.toNatClampNeg + i) .null = .int (f (sp.toNatClampNeg + i)) := by
        show (arrV cA n0 (fun j => .int (f j))).slots.getD _ _ = _
        rw [Array.getD_eq_getD_getElem?, arrV_read _ _ (by omega)]
        rfl
      rw [e2]
      exact ⟨rfl, trivial⟩)
    (g := F0 m pc ls (.int n :: .int dp :: .ref a :: .int sp :: .ref a0 :: rest)) rfl (by rw [hml]) (rest := rest) rfl (by rw [C.2.1]; exact d) hfr (by show 2 * 0 + _ + _ ≤ _; omega)
  have ecp : copied (vp_cell cA (n0, .inl f)) (vp_cell cA (n1, .inl g)) sp dp n = vp_cell cA (n1, .inl (va_cpy f g sp.toNatClampNeg dp.toNatClampNeg n.toNatClampNeg)) := va_copied (fun z => .int z) cA cA f g b4
  rw [ecp] at X' step
  have oq : ∀ q : Nat, q ≠ a → (H.setIfInBounds a (vp_cell cA (n1, .inl (va_cpy f g sp.toNatClampNeg dp.toNatClampNeg n.toNatClampNeg))))[q]? = H[q]? := fun q hq => by simp [Array.getElem?_setIfInBounds, Ne.symm hq]
  obtain ⟨t, s1, s2⟩ := kk (H.setIfInBounds a (vp_cell cA (n1, .inl (va_cpy f g sp.toNatClampNeg dp.toNatClampNeg n.toNatClampNeg)))) _ (hP.set hD e1 (show (H.setIfInBounds a _)[a]? = some _ by simp [Array.getElem?_setIfInBounds, hl]) oq) ⟨by simp; exact hS.1, fun q g1 g2 => by
      rw [oq q (fun z => g2 (by rw [z]; exact hD.2 q1 _ e1))]
      exact hS.2.1 q g1 g2, fun q hq => by
      rcases List.mem_append.mp hq with h | h
      · exact hS.2.2 q h
      · obtain ⟨z, -, hz⟩ := List.mem_map.mp h
        rw [← hz]
        exact hD.2 q1 _ e1⟩ (by simp) _ (by rw [← hT]; rfl) X'
  exact ⟨t, step t s1, s2⟩
end XR
end
section
/-! THE RUN of a method over abstract things -/
abbrev xMy (M : xM) : MethodName := M.1
abbrev xMc (M : xM) : ByteArray := M.2.1
abbrev xMl (M : xM) : Nat := M.2.2.1
abbrev xMr (M : xM) : Option FieldType := M.2.2.2.1
abbrev xMn (M : xM) : Nat := M.2.2.2.2.1
abbrev xMo (M : xM) : String := M.2.2.2.2.2.1
abbrev xMm (M : xM) : Room := M.2.2.2.2.2.2.1
abbrev xMk (M : xM) : List (Nat × xOp) := M.2.2.2.2.2.2.2
def xfind : List (Nat × xOp) → Nat → Option xOp
  | [], _ => none
  | q :: r, pc => if Nat.beq q.1 pc then some q.2 else xfind r pc
theorem xfind_mem : ∀ {l : List (Nat × xOp)} {pc : Nat} {o : xOp}, xfind l pc = some o → (pc, o) ∈ l
  | q :: r, pc, o, h => by
    simp only [xfind] at h
    split at h
    · next he =>
      cases h
      rw [Nat.beq_eq] at he
      subst he
      exact List.mem_cons_self
    · exact List.mem_cons_of_mem _ (xfind_mem h)
def xlk : xL → Nat → Option xV
  | [], _ => none
  | q :: r, i => if Nat.beq q.1 i then some q.2 else xlk r i
theorem xlk_mem : ∀ {l : xL} {i : Nat} {v : xV}, xlk l i = some v → (i, v) ∈ l
  | q :: r, i, o, h => by
    simp only [xlk] at h
    split at h
    · next he =>
      cases h
      rw [Nat.beq_eq] at he
      subst he
      exact List.mem_cons_self
    · exact List.mem_cons_of_mem _ (xlk_mem h)
def xkdb (k : Nat) (v : xV) : Bool := match k with
  | 0 => Nat.beq v.1 0 || Nat.beq v.1 3
  | 1 => Nat.beq v.1 1 || (Nat.beq v.1 2 || Nat.beq v.1 5)
  | _ => Nat.beq v.1 4
def xcat (v : xV) : Nat := match v with
  | (0, _) => 1
  | (1, _) => 1
  | (2, _) => 1
  | (3, _) => 1
  | (5, _) => 1
  | _ => 2
theorem xcat_ok {b : Nat} {ρ : Nat → Int32} {sa : Nat → Nat} (v : xV) : (xdv b ρ sa v).category = xcat v := by
  match v with
  | (0, _) | (1, _) | (2, _) | (3, _) | (4, _) | (5, _) => rfl
  | (n + 6, _) => rfl
theorem xk0 {v : xV} (h : xkdb 0 v = true) {b : Nat} {ρ : Nat → Int32} {sa : Nat → Nat} : xdv b ρ sa v = .int (xdi ρ v) := by
  match v, h with
  | (0, _), _ => rfl
  | (3, _), _ => rfl
  | (1, _), h | (2, _), h => cases h
  | (n + 4, _), h => cases h
theorem xk1 {v : xV} (h : xkdb 1 v = true) {b : Nat} {ρ : Nat → Int32} {sa : Nat → Nat} : xkd 1 (xdv b ρ sa v) := by
  match v, h with
  | (1, _), _ => exact Or.inr ⟨_, rfl⟩
  | (2, _), _ => exact Or.inl rfl
  | (5, _), _ => exact Or.inr ⟨_, rfl⟩
  | (0, _), h | (3, _), h | (4, _), h => cases h
  | (n + 6, _), h => cases h
theorem xk2 {v : xV} (h : xkdb 2 v = true) {b : Nat} {ρ : Nat → Int32} {sa : Nat → Nat} : xdv b ρ sa v = .long (lN v.2) := by
  match v, h with
  | (4, _), _ => rfl
  | (0, _), h | (1, _), h | (2, _), h | (3, _), h => cases h
  | (n + 5, _), h => cases h
theorem xkk {k : Nat} (hk : k < 3) {v : xV} (h : xkdb k v = true) {b : Nat} {ρ : Nat → Int32} {sa : Nat → Nat} : xkd k (xdv b ρ sa v) := by
  match k, hk, h with
  | 0, _, h => exact ⟨_, xk0 h⟩
  | 1, _, h => exact xk1 h
  | 2, _, h => exact ⟨_, xk2 h⟩
def xflb (k i : Nat) (q : Nat × xV) : Bool := match k with
  | 2 => !(Nat.beq q.1 i) && (!(Nat.beq q.1 (i + 1)) && !(Nat.beq (q.1 + 1) i && Nat.beq (xcat q.2) 2))
  | _ => !(Nat.beq q.1 i) && !(Nat.beq (q.1 + 1) i && Nat.beq (xcat q.2) 2)
theorem xbeq (a b : Nat) : (a == b) = Nat.beq a b := by
  rw [Bool.eq_iff_iff]
  simp
def xdL (b : Nat) (ρ : Nat → Int32) (sa : Nat → Nat) (lv : xL) : List (Nat × Value) := lv.map (fun q => (q.1, xdv b ρ sa q.2))
theorem xflb_ok {b : Nat} {ρ : Nat → Int32} {sa : Nat → Nat} (k i : Nat) (lv : xL) : (xdL b ρ sa lv).filter (xfl k i) = xdL b ρ sa (lv.filter (xflb k i)) := by
  unfold xdL
  rw [List.filter_map]
  congr 1
  apply List.filter_congr
  intro q _
  show xfl k i (q.1, xdv b ρ sa q.2) = xflb k i q
  match k with
  | 0 | 1 => simp only [xfl, xflb, xbeq, xcat_ok]
  | 2 => simp only [xfl, xflb, xbeq, xcat_ok]
  | n + 3 => simp only [xfl, xflb, xbeq, xcat_ok]
def xeqd (d t : Nat × xV × xV) : Bool := Nat.beq d.1 t.1 && (Nat.beq d.2.1.1 t.2.1.1 && (Nat.beq d.2.1.2 t.2.1.2 && (Nat.beq d.2.2.1 t.2.2.1 && Nat.beq d.2.2.2 t.2.2.2)))
def xidx : xD → Nat × xV × xV → Nat → Option Nat
  | [], _, _ => none
  | d :: r, t, k => if xeqd d t then some k else xidx r t (k + 1)
def xfd (ρ : Nat → Int32) (o : Nat) (x y : xV) : Int32 := if o = 11 then (xdi ρ x).toInt8.toInt32 else fbin o (xdi ρ x) (xdi ρ y)
def xdok (ρ : Nat → Int32) (ds : xD) : Prop := ∀ (k o : Nat) (x y : xV), ds[k]? = some (o, x, y) → o < 90 → ρ k = xfd ρ o x y
theorem xidx_ok : ∀ {ds : xD} {t : Nat × xV × xV} {j k : Nat}, xidx ds t j = some k → ∃ i, k = j + i ∧ ds[i]? = some t
  | d :: r, t, j, k, h => by
    simp only [xidx] at h
    split at h
    · next he =>
      cases h
      simp only [xeqd, Bool.and_eq_true, Nat.beq_eq] at he
      refine ⟨0, rfl, ?_⟩
      obtain ⟨a, ⟨b1, b2⟩, c1, c2⟩ := d
      obtain ⟨a', ⟨b1', b2'⟩, c1', c2'⟩ := t
      simp only at he
      obtain ⟨rfl, rfl, rfl, rfl, rfl⟩ := he
      rfl
    · obtain ⟨i, h1, h2⟩ := xidx_ok h
      exact ⟨i + 1, by omega, by simpa using h2⟩
def xall {α : Type} : List α → (α → Option (List xR)) → Option (List xR)
  | [], _ => some []
  | a :: r, f => xadd (f a) (xall r f)
theorem xall_ok {α : Type} {f : α → Option (List xR)} : ∀ {l : List α} {L : List xR}, xall l f = some L → ∀ a ∈ l, ∃ x, f a = some x ∧ ∀ q ∈ x, q ∈ L
  | a0 :: r, L, h, a, ha => by
    simp only [xall] at h
    cases h1 : f a0 with
    | none => rw [h1] at h; cases h
    | some x1 =>
      cases h2 : xall r f with
      | none => rw [h1, h2] at h; cases h
      | some x2 =>
        rw [h1, h2] at h
        cases h
        rcases List.mem_cons.mp ha with rfl | ha
        · exact ⟨x1, h1, fun q hq => List.mem_append_left _ hq⟩
        · obtain ⟨x, hx, hq⟩ := xall_ok h2 a ha
          exact ⟨x, hx, fun q h => List.mem_append_right _ (hq q h)⟩
abbrev xRec : Type := Nat → xL → List xV → xH → Nat → Nat → xK → Option (List xR)
abbrev xCal : Type := xM → List xV → xH → xK → Option (List xR)
/-- a switch, case by case -/
def xsw (x : xV) (kd : xK → Option (List xR)) (kc : Nat → xK → Option (List xR)) : List (Nat × Nat) → xK → Option (List xR)
  | [], κ => kd κ
  | q :: r, κ => xfork κ 0 x (0, q.1) (kc q.2) (xsw x kd kc r)
theorem xsw_ok {ρ : Nat → Int32} {x : xV} {kd : xK → Option (List xR)} {kc : Nat → xK → Option (List xR)} : ∀ {cs : List (Nat × Nat)} {κ : xK} {Ls : List xR}, xKok ρ κ → xsw x kd kc cs κ = some Ls →
    (∃ q ∈ cs, xdi ρ x = nI q.1 ∧ ∃ κ' L, kc q.2 κ' = some L ∧ xKok ρ κ' ∧ ∀ z ∈ L, z ∈ Ls) ∨ ((∀ q ∈ cs, ¬ xdi ρ x = nI q.1) ∧ ∃ κ' L, kd κ' = some L ∧ xKok ρ κ' ∧ ∀ z ∈ L, z ∈ Ls)
  | [], κ, Ls, hκ, h => Or.inr ⟨fun q hq => (by cases hq), κ, Ls, h, hκ, fun _ z => z⟩
  | q :: r, κ, Ls, hκ, h => by
    simp only [xsw] at h
    obtain ⟨h1, h2⟩ := xfork_ok hκ h
    by_cases hc : xdi ρ x = nI q.1
    · exact Or.inl ⟨q, List.mem_cons_self, hc, h1 hc⟩
    · obtain ⟨κ', L, h3, h4, h5⟩ := h2 hc
      rcases xsw_ok h4 h3 with ⟨q', hq, e, κ2, L2, g1, g2, g3⟩ | ⟨hn, κ2, L2, g1, g2, g3⟩
      · exact Or.inl ⟨q', List.mem_cons_of_mem _ hq, e, κ2, L2, g1, g2, fun z hz => h5 z (g3 z hz)⟩
      · refine Or.inr ⟨fun q' hq => ?_, κ2, L2, g1, g2, fun z hz => h5 z (g3 z hz)⟩
        rcases List.mem_cons.mp hq with rfl | hq
        · exact hc
        · exact hn q' hq
/-- may a field of this type hold it: 0 int, 2 long, 3 boolean, 4 a reference -/
def xfit (t : Nat) (v : xV) : Bool := match t with
  | 0 => xkdb 0 v
  | 2 => xkdb 2 v
  | 3 => Nat.beq v.1 0 && Nat.ble v.2 1
  | 4 => xkdb 1 v
  | _ => false
def xtc (ty : FieldType) : Nat := match ty with
  | .int => 0
  | .long => 2
  | .boolean => 3
  | .object _ => 4
  | .array _ => 4
  | _ => 9
theorem xfit_ok {ty : FieldType} {v : xV} (h : xfit (xtc ty) v = true) {b : Nat} {ρ : Nat → Int32} {sa : Nat → Nat} : narrow ty (xdv b ρ sa v) = xdv b ρ sa v ∧ fits ty (xdv b ρ sa v) = true := by
  cases ty with
  | int => rw [xk0 h]; exact ⟨rfl, rfl⟩
  | long => rw [xk2 h]; exact ⟨rfl, rfl⟩
  | boolean =>
    simp only [xtc, xfit, Bool.and_eq_true, Nat.beq_eq, Nat.ble_eq] at h
    obtain ⟨t, n⟩ := v
    obtain ⟨rfl, h2⟩ := h
    dsimp only at h2
    rcases (show n = 0 ∨ n = 1 by omega) with rfl | rfl
    · show narrow .boolean (.int (nI 0)) = .int (nI 0) ∧ fits .boolean (.int (nI 0)) = true
      decide +kernel
    · show narrow .boolean (.int (nI 1)) = .int (nI 1) ∧ fits .boolean (.int (nI 1)) = true
      decide +kernel
  | object C =>
    rcases xk1 h (b := b) (ρ := ρ) (sa := sa) with e | ⟨a, e⟩ <;> rw [e] <;> exact ⟨rfl, rfl⟩
  | array t =>
    rcases xk1 h (b := b) (ρ := ρ) (sa := sa) with e | ⟨a, e⟩ <;> rw [e] <;> exact ⟨rfl, rfl⟩
  | _ => cases h
/-- may an array of this type take it -/
def xwok (ds : xD) (t : Nat) (v : xV) : Bool := match t with
  | 0 => xkdb 0 v
  | 1 => match v with
    | (3, k) => match ds[k]? with
      | some d => Nat.beq d.1 11
      | none => false
    | _ => false
  | 3 => Nat.beq v.1 0 && Nat.ble v.2 1
  | _ => false
theorem xnarb {n : Nat} (h : n ≤ 1) : vp_nar .boolean (nI n) = nI n := by
  rcases (show n = 0 ∨ n = 1 by omega) with rfl | rfl <;> decide +kernel
theorem xwok_ok {ρ : Nat → Int32} {ds : xD} (hds : xdok ρ ds) {t : Nat} {v : xV} (h : xwok ds t v = true) : (t = 0 ∨ t = 1 ∨ t = 3) ∧ xkdb 0 v = true ∧ vp_nar (xty t) (xdi ρ v) = xdi ρ v := by
  match t, h with
  | 0, h => exact ⟨Or.inl rfl, h, rfl⟩
  | 1, h =>
    match v, h with
    | (3, k), h =>
      simp only [xwok] at h
      cases hk : ds[k]? with
      | none => rw [hk] at h; cases h
      | some q =>
        obtain ⟨o, x, y⟩ := q
        rw [hk] at h
        have ho : o = 11 := Nat.eq_of_beq_eq_true h
        subst ho
        have hd := hds _ _ _ _ hk (by omega)
        rw [xfd, if_pos rfl] at hd
        refine ⟨Or.inr (Or.inl rfl), rfl, ?_⟩
        show vp_nar .byte (ρ k) = ρ k
        rw [hd]
        exact pk_vb _
    | (0, _), h | (1, _), h | (2, _), h => cases h
    | (n + 4, _), h => cases h
  | 3, h =>
    simp only [xwok, Bool.and_eq_true, Nat.beq_eq, Nat.ble_eq] at h
    obtain ⟨v1, v2⟩ := v
    obtain ⟨hv1, hv2⟩ := h
    dsimp only at hv1 hv2
    subst hv1
    exact ⟨Or.inr (Or.inr rfl), rfl, xnarb hv2⟩
  | 2, h => cases h
  | n + 4, h => cases h
def xlb (o x y : Nat) : Option Nat := match o with
  | 3 => some (Nat.land x y)
  | 5 => some (Nat.xor x y)
  | _ => none
def flb (o : Nat) (x y : Int64) : Int64 := match o with
  | 3 => x &&& y
  | 5 => x ^^^ y
  | _ => 0
theorem xlb_ok {o x y z : Nat} (h : xlb o x y = some z) : flb o (lN x) (lN y) = lN z := by
  match o, h with
  | 3, h =>
    cases h
    apply Int64.toBitVec_inj.mp
    show BitVec.ofNat 64 x &&& BitVec.ofNat 64 y = BitVec.ofNat 64 (x &&& y)
    apply BitVec.eq_of_toNat_eq
    simp [Nat.and_mod_two_pow]
  | 5, h =>
    cases h
    apply Int64.toBitVec_inj.mp
    show BitVec.ofNat 64 x ^^^ BitVec.ofNat 64 y = BitVec.ofNat 64 (x ^^^ y)
    apply BitVec.eq_of_toNat_eq
    simp [Nat.xor_mod_two_pow]
def xsum : List xV → Nat
  | [] => 0
  | v :: r => xcat v + xsum r
theorem xsum_ok {b : Nat} {ρ : Nat → Int32} {sa : Nat → Nat} : ∀ st : List xV, ((st.map (xdv b ρ sa)).map fun v => v.category).sum = xsum st
  | [] => rfl
  | v :: r => by
    simp only [List.map_cons, List.sum_cons, xsum, xcat_ok]
    rw [xsum_ok r]
def xargs : Nat → List xV → xL
  | _, [] => []
  | i, v :: r => (i, v) :: xargs (i + xcat v) r
theorem xargs_ok {b : Nat} {ρ : Nat → Int32} {sa : Nat → Nat} : ∀ (vs : List xV) (i : Nat), lv_args i (vs.map (xdv b ρ sa)) = xdL b ρ sa (xargs i vs)
  | [], _ => rfl
  | v :: r, i => by
    simp only [List.map_cons, lv_args, xargs, xdL]
    rw [xcat_ok]
    congr 1
    have e : (if xcat v = 2 then i + 2 else i + 1) = i + xcat v := by
      match v with
      | (0, _) | (1, _) | (2, _) | (3, _) | (4, _) | (5, _) => rfl
      | (n + 6, _) => rfl
    rw [e]
    exact xargs_ok r (i + xcat v)
theorem xlen_ok {b : Nat} {ρ : Nat → Int32} {sa : Nat → Nat} : ∀ vs : List xV, (lg_sl (vs.map (xdv b ρ sa))).length = xsum vs
  | [] => rfl
  | v :: r => by
    have ih := xlen_ok (b := b) (ρ := ρ) (sa := sa) r
    simp only [lg_sl, List.map_cons, List.flatMap_cons, List.length_append, xsum] at ih ⊢
    rw [ih, xcat_ok]
    match v with
    | (0, _) | (1, _) | (2, _) | (3, _) | (4, _) | (5, _) => rfl
    | (n + 6, _) => rfl
/-- a room that holds what a callee asks -/
def xroom (R : Room) (M' : xM) (ce sl : Nat) : Bool := Nat.ble ((xMm M').frames + 1) R.frames && (Nat.ble (8 + (xMl M' + 11) + (xMm M').locals) R.locals && (Nat.ble (ce + (xMm M').cells) R.cells && Nat.ble (sl + (xMm M').slots) R.slots))
def xput (st : List xV) (r : Option xV) : List xV := match r with
  | some v => v :: st
  | none => st
def xh_call (mt : List xM) (M : xM) (rec : xRec) (call : xCal) (n0 nx mi : Nat) (lv : xL) (st : List xV) (K : xH) (ce sl : Nat) (κ : xK) : Option (List xR) := match mt[mi]? with
  | none => none
  | some M' =>
    if Nat.ble (xMn M' + n0) st.length && (xroom (xMm M) M' ce sl && (Nat.ble (xsum (st.drop (xMn M' + n0))) 8 && Nat.ble (xsum (st.take (xMn M' + n0))) (xMl M'))) then
      match call M' (st.take (xMn M' + n0)).reverse K κ with
      | none => none
      | some L => xall L (fun lf => rec nx lv (xput (st.drop (xMn M' + n0)) lf.2.1) lf.2.2 (ce + (xMm M').cells) (sl + (xMm M').slots) lf.1)
    else none
def xstep (mt : List xM) (ds : xD) (al : Bool) (M : xM) (rec : xRec) (call : xCal) (op : xOp) (lv : xL) (st : List xV) (K : xH) (ce sl : Nat) (κ : xK) : Option (List xR) := match op.1 with
  | 0 => rec op.2.1 lv ((0, op.2.2.1) :: st) K ce sl κ
  | 1 => rec op.2.1 lv ((4, op.2.2.1) :: st) K ce sl κ
  | 2 => match xlk lv op.2.2.2.1 with
    | none => none
    | some v => if xkdb op.2.2.1 v then rec op.2.1 lv (xnm κ.2 v :: st) K ce sl κ else none
  | 3 => match st with
    | [] => none
    | v :: st' => if xkdb op.2.2.1 v && Nat.blt (op.2.2.2.1 + xwd op.2.2.1) (xMl M) then rec op.2.1 ((op.2.2.2.1, v) :: lv.filter (xflb op.2.2.1 op.2.2.2.1)) st' K ce sl κ else none
  | 4 => match xlk lv op.2.2.1 with
    | some (0, x) => if Nat.blt op.2.2.1 (xMl M) then rec op.2.1 ((op.2.2.1, (0, (x + op.2.2.2.1) % 4294967296)) :: lv.filter (xflb 0 op.2.2.1)) st K ce sl κ else none
    | _ => none
  | 5 => match st with
    | y :: x :: st' => match xnm κ.2 y, xnm κ.2 x with
      | (0, y'), (0, x') => match xbin op.2.2.1 x' y' with
        | none => none
        | some z => rec op.2.1 lv ((0, z) :: st') K ce sl κ
      | y', x' => if xkdb 0 y' && (xkdb 0 x' && Nat.blt op.2.2.1 9) then
          match xidx ds (op.2.2.1, x', y') 0 with
          | none => none
          | some k => rec op.2.1 lv ((3, k) :: st') K ce sl κ
        else none
    | _ => none
  | 6 => match st with
    | x :: st' => if xkdb 0 x then
        match xidx ds (11, x, (0, 0)) 0 with
        | none => none
        | some k => rec op.2.1 lv ((3, k) :: st') K ce sl κ
      else none
    | _ => none
  | 7 => match st with
    | (4, y) :: (4, x) :: st' => match xlb op.2.2.1 x y with
      | none => none
      | some z => rec op.2.1 lv ((4, z) :: st') K ce sl κ
    | _ => none
  | 8 => match st with
    | (4, y) :: (4, x) :: st' => if Nat.blt x 9223372036854775808 && Nat.blt y 9223372036854775808 then
        rec op.2.1 lv ((0, if Nat.blt y x then 1 else if Nat.beq x y then 0 else 4294967295) :: st') K ce sl κ
      else none
    | _ => none
  | 9 => match st with
    | v :: st' => if Nat.beq (xcat v) 1 then rec op.2.1 lv (v :: v :: st') K ce sl κ else none
    | _ => none
  | 10 => match st with
    | v :: st' => if Nat.beq (xcat v) 1 then rec op.2.1 lv st' K ce sl κ else none
    | _ => none
  | 11 => match st with
    | v :: w :: st' => if Nat.beq (xcat v) 1 && Nat.beq (xcat w) 1 then rec op.2.1 lv (v :: w :: v :: w :: st') K ce sl κ else none
    | _ => none
  | 12 => match st with
    | x :: st' => if xkdb 0 x then xfork κ op.2.2.2.1 x (0, 0) (fun κ' => rec op.2.2.1 lv st' K ce sl κ') (fun κ' => rec op.2.1 lv st' K ce sl κ') else none
    | _ => none
  | 13 => match st with
    | y :: x :: st' => if xkdb 0 x && xkdb 0 y then xfork κ op.2.2.2.1 x y (fun κ' => rec op.2.2.1 lv st' K ce sl κ') (fun κ' => rec op.2.1 lv st' K ce sl κ') else none
    | _ => none
  | 14 => rec op.2.1 lv st K ce sl κ
  | 15 => match st with
    | x :: st' => if xkdb 0 x then xsw x (fun κ' => rec op.2.2.1 lv st' K ce sl κ') (fun t κ' => rec t lv st' K ce sl κ') op.2.2.2.2 κ else none
    | _ => none
  | 16 => match st with
    | (1, i) :: st' => match K[i]? with
      | some (.inr (ci, fs)) => if Nat.beq ci op.2.2.1 then
          match fs[op.2.2.2.1]? with
          | none => none
          | some v => rec op.2.1 lv (v :: st') K ce sl κ
        else none
      | _ => none
    | _ => none
  | 17 => match st with
    | v :: (1, i) :: st' => match K[i]? with
      | some (.inr (ci, fs)) => match op.2.2.2.2 with
        | [q] => if Nat.beq ci op.2.2.1 && (xfit q.1 v && Nat.blt op.2.2.2.1 fs.length) then rec op.2.1 lv st' (K.set i (.inr (ci, fs.set op.2.2.2.1 v))) ce sl κ else none
        | _ => none
      | _ => none
    | _ => none
  | 18 => match st with
    | (1, i) :: st' => match K[i]? with
      | some (.inl (t, vs)) => if Nat.blt t 5 then rec op.2.1 lv ((0, vs.length) :: st') K ce sl κ else none
      | _ => none
    | _ => none
  | 19 => match st with
    | j :: (1, i) :: st' => match K[i]?, xnm κ.2 j with
      | some (.inl (t, vs)), (0, n) => if Nat.beq t op.2.2.1 && Nat.blt n 2147483648 then
          match vs[n]? with
          | none => none
          | some v => if xkdb 0 v then rec op.2.1 lv (v :: st') K ce sl κ else none
        else none
      | _, _ => none
    | _ => none
  | 20 => match st with
    | j :: (1, i) :: st' => match K[i]?, xnm κ.2 j with
      | some (.inl (4, vs)), (0, n) => if Nat.blt n 2147483648 then
          match vs[n]? with
          | some (1, q) => rec op.2.1 lv ((1, q) :: st') K ce sl κ
          | _ => none
        else none
      | _, _ => none
    | _ => none
  | 21 => match st with
    | v :: j :: (1, i) :: st' => match K[i]?, xnm κ.2 j with
      | some (.inl (t, vs)), (0, n) =>
        if Nat.beq t op.2.2.1 && (Nat.blt n 2147483648 && (Nat.blt n vs.length && xwok ds t v)) then rec op.2.1 lv st' (K.set i (.inl (t, vs.set n v))) ce sl κ else none
      | _, _ => none
    | _ => none
  | 22 => if al && (Nat.blt ce (xMm M).cells && (Nat.ble (sl + op.2.2.2.1) (xMm M).slots && op.2.2.2.2.all (fun q => Nat.beq q.1 0 || (Nat.beq q.1 2 || Nat.beq q.1 4)))) then rec op.2.1 lv ((1, K.length) :: st) (K ++ [.inr (op.2.2.1, op.2.2.2.2)]) (ce + 1) (sl + op.2.2.2.1) κ else none
  | 23 => match st with
    | (0, n) :: st' => if al && (Nat.blt ce (xMm M).cells && (Nat.ble (sl + n) (xMm M).slots && Nat.blt n 67108864)) then rec op.2.1 lv ((1, K.length) :: st') (K ++ [.inl (op.2.2.1, List.replicate n (xzero op.2.2.1))]) (ce + 1) (sl + n) κ else none
    | _ => none
  | 25 => match st with
    | (1, _) :: st' => if Nat.ble 1 (xMm M).frames && Nat.ble (xsum st' + 12) (xMm M).locals then rec op.2.1 lv st' K ce sl κ else none
    | _ => none
  | 26 => match st with
    | (0, n) :: (0, dp) :: (1, d) :: (0, sp) :: (1, s) :: st' => match K[s]?, K[d]? with
      | some (.inl (0, vs)), some (.inl (0, ws)) => if Nat.ble (sp + n) vs.length && (Nat.ble (dp + n) ws.length && (Nat.blt (sp + n) 2147483648 && (Nat.blt (dp + n) 2147483648 && (Nat.ble 1 (xMm M).frames && Nat.ble (xsum st' + (nativeFrameWords "java/lang/System" "arraycopy" 5 + 11)) (xMm M).locals)))) then
          rec op.2.1 lv st' (K.set d (.inl (0, ws.take dp ++ ((vs.drop sp).take n ++ ws.drop (dp + n))))) ce sl κ
        else none
      | _, _ => none
    | _ => none
  | 27 => xh_call mt M rec call 0 op.2.1 op.2.2.1 lv st K ce sl κ
  | 28 => match mt[op.2.2.1]? with
    | none => none
    | some M' => match st.drop (xMn M') with
      | (1, i) :: _ => match K[i]? with
        | some (.inr (ci, _)) => if Nat.beq ci op.2.2.2.1 then xh_call mt M rec call 1 op.2.1 op.2.2.1 lv st K ce sl κ else none
        | _ => none
      | _ => none
  | 29 => match mt[op.2.2.1]? with
    | none => none
    | some M' => match st.drop (xMn M') with
      | (1, _) :: _ => xh_call mt M rec call 1 op.2.1 op.2.2.1 lv st K ce sl κ
      | _ => none
  | 30 => match st with
    | [v] => if xfit op.2.2.2.1 v && (Nat.ble ce (xMm M).cells && Nat.ble sl (xMm M).slots) then some [(κ, some (xnm κ.2 v), K)] else none
    | _ => none
  | 31 => match st with
    | [v] => if xkdb 2 v && (Nat.ble ce (xMm M).cells && Nat.ble sl (xMm M).slots) then some [(κ, some v, K)] else none
    | _ => none
  | 32 => match st with
    | [] => if Nat.ble ce (xMm M).cells && Nat.ble sl (xMm M).slots then some [(κ, none, K)] else none
    | _ => none
  | _ => none
def xgo (mt : List xM) (ds : xD) (al : Bool) (ih : xM → xRec) (M : xM) : xRec := fun pc lv st K ce sl κ => match xfind (xMk M) pc with
  | none => none
  | some op => xstep mt ds al M (ih M) (fun M' avs K' κ' => ih M' 0 (xargs 0 avs) [] K' 0 0 κ') op lv st K ce sl κ
noncomputable def xe (mt : List xM) (ds : xD) (al : Bool) (n : Nat) : xM → xRec := Nat.rec (fun _ _ _ _ _ _ _ _ => none) (fun _ ih M => xgo mt ds al ih M) n
theorem xe_succ (mt : List xM) (ds : xD) (al : Bool) (n : Nat) (M : xM) : xe mt ds al (n + 1) M = xgo mt ds al (xe mt ds al n) M := rfl
end
section
/-! SOUNDNESS: what the run says, the machine does -/
def xtys (dA : Nat → ClassId) : List (ClassId × FieldType) := [(dA 0, .int), (dA 1, .byte), (dA 2, .long), (dA 3, .boolean), (dA 4, .array .int)]
theorem xtys_get {dA : Nat → ClassId} : ∀ {t : Nat}, t < 5 → (xtys dA)[t]? = some (dA t, xty t)
  | 0, _ | 1, _ | 2, _ | 3, _ | 4, _ => rfl
  | n + 5, h => absurd h (by omega)
/-- the words of a private method of a nest mate -/
def xnw : List Cond := [.methodLinkNest RX11 15 yX4_init RX11, .methodLinkNest RX11 39 yX10_init RX11, .methodLinkNest RX11 49 yX3_init RX11, .methodLinkNest RX4 65 yX2_init RX11]
def xcS (M : xM) (pc : Nat) (M' : xM) : Prop := ∃ ix, decode (xMc M) pc = .ok (.invokestatic ix, 3) ∧ Cond.methodLink (xMo M) ix (xMy M') ∈ xgt ∧ Cond.static (xMy M') ∈ xgt
def xcV (M : xM) (pc : Nat) (M' : xM) : Prop := ∃ ix, decode (xMc M) pc = .ok (.invokevirtual ix, 3) ∧ Cond.methodLink (xMo M) ix (xMy M') ∈ xgt ∧ Cond.instanceMethod (xMy M') ∈ xgt ∧ Cond.selects (xMy M').cls (xMy M') (xMy M') ∈ xgt
def xcI (M : xM) (pc : Nat) (M' : xM) : Prop := ∃ ix, decode (xMc M) pc = .ok (.invokespecial ix, 3) ∧ (xMy M').name = "<init>" ∧ xMr M' = none ∧ Cond.instanceMethod (xMy M') ∈ xgt ∧ (Cond.methodLink (xMo M) ix (xMy M') ∈ xgt ∨ ∃ host, Cond.methodLinkNest (xMo M) ix (xMy M') host ∈ xnw)
def xok (mt : List xM) (M : xM) (pc : Nat) (op : xOp) : Prop := match op.1 with
  | 0 => xT (xMc M) (xMo M) pc op.2.1 [] [.int (nI op.2.2.1)]
  | 1 => xT (xMc M) (xMo M) pc op.2.1 [] [.long (lN op.2.2.1)]
  | 2 => op.2.2.1 < 3 ∧ xLd (xMc M) (xMo M) pc op.2.1 op.2.2.1 op.2.2.2.1
  | 3 => op.2.2.1 < 3 ∧ xSt (xMc M) (xMo M) pc op.2.1 op.2.2.1 op.2.2.2.1
  | 4 => xIn (xMc M) (xMo M) pc op.2.1 op.2.2.1 op.2.2.2.1
  | 5 => ∀ x y : Int32, ((op.2.2.1 = 9 ∨ op.2.2.1 = 10) → ¬ y = 0) → xT (xMc M) (xMo M) pc op.2.1 [.int y, .int x] [.int (fbin op.2.2.1 x y)]
  | 6 => ∀ x : Int32, xT (xMc M) (xMo M) pc op.2.1 [.int x] [.int x.toInt8.toInt32]
  | 7 => ∀ x y : Int64, xT (xMc M) (xMo M) pc op.2.1 [.long y, .long x] [.long (flb op.2.2.1 x y)]
  | 8 => ∀ x y : Int64, xT (xMc M) (xMo M) pc op.2.1 [.long y, .long x] [.int (lg_cmp x y)]
  | 9 => ∀ v : Value, v.category = 1 → xT (xMc M) (xMo M) pc op.2.1 [v] [v, v]
  | 10 => ∀ v : Value, v.category = 1 → xT (xMc M) (xMo M) pc op.2.1 [v] []
  | 11 => ∀ v w : Value, v.category = 1 → w.category = 1 → xT (xMc M) (xMo M) pc op.2.1 [v, w] [v, w, v, w]
  | 12 => xB0 (xMc M) (xMo M) pc op.2.1 op.2.2.1 op.2.2.2.1
  | 13 => xB (xMc M) (xMo M) pc op.2.1 op.2.2.1 op.2.2.2.1
  | 14 => xT (xMc M) (xMo M) pc op.2.1 [] []
  | 15 => xSw (xMc M) (xMo M) pc op.2.2.1 op.2.2.2.2
  | 16 => xGf (xMc M) (xMo M) pc op.2.1 op.2.2.1 op.2.2.2.1
  | 17 => ∃ (ty : FieldType) (fin : Bool) (z : Nat), op.2.2.2.2 = [(xtc ty, z)] ∧ xPf (xMc M) (xMo M) pc op.2.1 op.2.2.1 op.2.2.2.1 ty fin ∧ (fin = true → (xMy M).name = "<init>")
  | 18 => xAl (xMc M) (xMo M) pc op.2.1
  | 19 => (op.2.2.1 = 0 ∨ op.2.2.1 = 1 ∨ op.2.2.1 = 3) ∧ xRd (xMc M) (xMo M) pc op.2.1 (xty op.2.2.1)
  | 20 => xRr (xMc M) (xMo M) pc op.2.1
  | 21 => xWr (xMc M) (xMo M) pc op.2.1 (xty op.2.2.1)
  | 22 => xNw (xMc M) (xMo M) pc op.2.1 op.2.2.1 op.2.2.2.1 (op.2.2.2.2.map (xdv 0 (fun _ => 0) (fun _ => 0)))
  | 23 => op.2.2.1 < 4 ∧ xNa (xMc M) (xMo M) pc op.2.1 (xty op.2.2.1)
  | 25 => xOi (xMc M) (xMo M) pc op.2.1
  | 26 => xCp (xMc M) (xMo M) pc op.2.1
  | 27 => op.2.1 = pc + 3 ∧ ∃ M', mt[op.2.2.1]? = some M' ∧ xcS M pc M'
  | 28 => op.2.1 = pc + 3 ∧ ∃ M', mt[op.2.2.1]? = some M' ∧ xcV M pc M' ∧ ∃ q, vwCl[op.2.2.2.1]? = some q ∧ q.1 = (xMy M').cls
  | 29 => op.2.1 = pc + 3 ∧ ∃ M', mt[op.2.2.1]? = some M' ∧ xcI M pc M'
  | 30 => decode (xMc M) pc = .ok (.ireturn, 1) ∧ ∃ ty, xMr M = some ty ∧ xtc ty = op.2.2.2.1 ∧ (ty = .int ∨ ty = .boolean)
  | 31 => decode (xMc M) pc = .ok (.lreturn, 1) ∧ xMr M = some .long
  | 32 => decode (xMc M) pc = .ok (.return_, 1) ∧ xMr M = none
  | _ => True
/-- a method's own facts -/
def xMok (mt : List xM) (M : xM) : Prop := Cond.code (xMy M) (xMc M) (xMl M) (xMr M) ∈ xgt ∧ Cond.initialized (xMy M).cls ∈ xgt ∧ ((xMy M).cls ≠ "java/lang/invoke/MethodHandle" ∧ (xMy M).cls ≠ "java/lang/invoke/VarHandle" ∧ (parseMethodDescriptor (xMy M).desc).map (fun d => d.parameters.length) = some (xMn M)) ∧ plainName (xMy M).cls = true ∧ xMo M = (xMy M).cls ∧ ∀ q ∈ xMk M, xok mt M q.1 q.2
def xA (b n sz : Nat) : Nat → Prop := fun q => (b ≤ q ∧ q < b + n) ∨ sz ≤ q
section XS
variable {al : Bool} {b : Nat} {ρ : Nat → Int32} {sa : Nat → Nat} {dA : Nat → ClassId} {D : va_G} {M : xM} {p : Program} {l : Launch} {e : Env} {s : State} {m : MethodId} {args : Array Value} {below : List Frame} {meth : Method} {c : Code} {A : Nat → Prop} {Qc : Array Value → State → Outcome → State → Prop} {EX : State → Prop}
variable {mt : List xM} {ds : xD}
def xEnd (al : Bool) (b : Nat) (ρ : Nat → Int32) (sa : Nat → Nat) (dA : Nat → ClassId) (D : va_G) (s : State) (args : Array Value) (A : Nat → Prop) (Qc : Array Value → State → Outcome → State → Prop) (Ls : List xR) : Prop :=
  ∀ lf ∈ Ls, xKok ρ lf.1 → ∀ t : State, va_P D vwCl (xcx b ρ sa dA 0 lf.2.2) t.heap → (al = true → t.heap.size = b + lf.2.2.length) → (∀ i, i < lf.2.2.length → A (b + i)) → va_F A s t → Qc args s (.returned (lf.2.1.map (xdv b ρ sa))) t
def xGood (al : Bool) (b : Nat) (ρ : Nat → Int32) (sa : Nat → Nat) (dA : Nat → ClassId) (D : va_G) (M : xM) (p : Program) (l : Launch) (e : Env) (s : State) (m : MethodId) (args : Array Value) (below : List Frame) (meth : Method) (c : Code) (A : Nat → Prop) (Qc : Array Value → State → Outcome → State → Prop) (pc : Nat) (lv : xL) (st : List xV) (K : xH) (ce sl : Nat) (κ : xK) (Ls : List xR) : Prop :=
  ∀ (H : Heap) (locs : List Loc) (ls : Array Slot), lv_has ls (xMl M) (xdL b ρ sa lv) → va_P D vwCl (xcx b ρ sa dA 0 K) H → va_S A s.heap H locs → (al = true → H.size = b + K.length) → (∀ i, i < K.length → A (b + i)) → xKok ρ κ → xEnd al b ρ sa dA D s args A Qc Ls →
    W p l e (xMm M) s m args below meth c H locs ce sl (MQ below Qc args s (xMm M).cells (xMm M).slots A) (F0 m pc ls (st.map (xdv b ρ sa)))
/-- what holds all through a method's frame -/
def xCtx (b : Nat) (dA : Nat → ClassId) (D : va_G) (M : xM) (p : Program) (s : State) (m : MethodId) (args : Array Value) (meth : Method) (c : Code) (A : Nat → Prop) (EX : State → Prop) : Prop :=
  xCx p s m args c (xMc M) (xMo M) ∧ c.maxLocals = xMl M ∧ va_K D vwCl (xtys dA) s ∧ (∀ q, s.heap.size ≤ q → A q) ∧ (∀ q, A q → b ≤ q) ∧ meth.sig.returnType = xMr M ∧ meth.locks = false ∧ meth.name = (xMy M).name ∧ EX s ∧ b ≤ s.heap.size
abbrev xSnd (al : Bool) (b : Nat) (ρ : Nat → Int32) (sa : Nat → Nat) (dA : Nat → ClassId) (D : va_G) (M : xM) (p : Program) (l : Launch) (e : Env) (s : State) (m : MethodId) (args : Array Value) (below : List Frame) (meth : Method) (c : Code) (A : Nat → Prop) (Qc : Array Value → State → Outcome → State → Prop) (rec : xRec) : Prop :=
  ∀ pc lv st K ce sl κ Ls, rec pc lv st K ce sl κ = some Ls → xGood al b ρ sa dA D M p l e s m args below meth c A Qc pc lv st K ce sl κ Ls
theorem xEnd.sub {Ls L : List xR} (h : xEnd al b ρ sa dA D s args A Qc Ls) (hs : ∀ q ∈ L, q ∈ Ls) : xEnd al b ρ sa dA D s args A Qc L := fun lf hl => h lf (hs lf hl)
/-- the pure steps -/
theorem xp_T {rec : xRec} (hC : xCtx b dA D M p s m args meth c A EX) (hr : xSnd al b ρ sa dA D M p l e s m args below meth c A Qc rec) {pc nx : Nat} {lv : xL} {st st0 st1 : List xV} {K : xH} {ce sl : Nat} {κ : xK} {Ls : List xR}
    (hT : xT (xMc M) (xMo M) pc nx (st0.map (xdv b ρ sa)) (st1.map (xdv b ρ sa))) (h : rec nx lv (st1 ++ st) K ce sl κ = some Ls) : xGood al b ρ sa dA D M p l e s m args below meth c A Qc pc lv (st0 ++ st) K ce sl κ Ls := by
  intro H locs ls hl hP hS hz hA0 hκ hQ
  have := hr _ _ _ _ _ _ _ _ h H locs ls hl hP hS hz hA0 hκ hQ
  rw [List.map_append] at this ⊢
  exact hT p l e _ s m args below meth c H locs ce sl _ ls _ hC.1 this
end XS
end
section
section XC
variable {al : Bool} {b : Nat} {ρ : Nat → Int32} {sa : Nat → Nat} {dA : Nat → ClassId} {D : va_G} {M : xM} {p : Program} {l : Launch} {e : Env} {s : State} {m : MethodId} {args : Array Value} {below : List Frame} {meth : Method} {c : Code} {A : Nat → Prop} {Qc : Array Value → State → Outcome → State → Prop} {EX : State → Prop}
variable {mt : List xM} {ds : xD} {rec : xRec} {pc nx : Nat} {lv : xL} {st : List xV} {K : xH} {ce sl : Nat} {κ : xK} {Ls : List xR}
theorem xp_load (hC : xCtx b dA D M p s m args meth c A EX) (hr : xSnd al b ρ sa dA D M p l e s m args below meth c A Qc rec) {k i : Nat} {v : xV} (hk3 : k < 3) (hT : xLd (xMc M) (xMo M) pc nx k i) (hv : xlk lv i = some v) (hk : xkdb k v = true) (h : rec nx lv (xnm κ.2 v :: st) K ce sl κ = some Ls) : xGood al b ρ sa dA D M p l e s m args below meth c A Qc pc lv st K ce sl κ Ls := by
  intro H locs ls hl hP hS hz hA0 hκ hQ
  have := hr _ _ _ _ _ _ _ _ h H locs ls hl hP hS hz hA0 hκ hQ
  rw [List.map_cons, (xnm_ok hκ v).1] at this
  exact hT p l e _ s m args below meth c H locs ce sl _ ls _ hC.1 _ (xkk hk3 hk) (hl.2.2 _ (List.mem_map.mpr ⟨(i, v), xlk_mem hv, rfl⟩)) this
theorem xp_store (hC : xCtx b dA D M p s m args meth c A EX) (hr : xSnd al b ρ sa dA D M p l e s m args below meth c A Qc rec) {k i : Nat} {v : xV} (hk3 : k < 3) (hT : xSt (xMc M) (xMo M) pc nx k i) (hk : xkdb k v = true) (hi : i + xwd k < xMl M) (h : rec nx ((i, v) :: lv.filter (xflb k i)) st K ce sl κ = some Ls) : xGood al b ρ sa dA D M p l e s m args below meth c A Qc pc lv (v :: st) K ce sl κ Ls := by
  intro H locs ls hl hP hS hz hA0 hκ hQ
  rw [List.map_cons]
  refine hT p l e _ s m args below meth c H locs ce sl _ ls _ hC.1 _ _ _ (xkk hk3 hk) hl hi (fun ls' hl' => ?_)
  rw [xflb_ok] at hl'
  exact hr _ _ _ _ _ _ _ _ h H locs ls' hl' hP hS hz hA0 hκ hQ
theorem xp_iinc (hC : xCtx b dA D M p s m args meth c A EX) (hr : xSnd al b ρ sa dA D M p l e s m args below meth c A Qc rec) {i n x : Nat} (hT : xIn (xMc M) (xMo M) pc nx i n) (hv : xlk lv i = some (0, x)) (hi : i < xMl M) (h : rec nx ((i, (0, (x + n) % 4294967296)) :: lv.filter (xflb 0 i)) st K ce sl κ = some Ls) : xGood al b ρ sa dA D M p l e s m args below meth c A Qc pc lv st K ce sl κ Ls := by
  intro H locs ls hl hP hS hz hA0 hκ hQ
  have hm : (i, xdv b ρ sa (0, x)) ∈ xdL b ρ sa lv := List.mem_map.mpr ⟨(i, (0, x)), xlk_mem hv, rfl⟩
  obtain ⟨k, hk⟩ := List.getElem?_of_mem hm
  refine hT p l e _ s m args below meth c H locs ce sl _ ls _ hC.1 _ k _ (nI x) hl hk hi (fun ls' hl' => ?_)
  rw [xflb_ok, nI_add, ← nI_m] at hl'
  exact hr _ _ _ _ _ _ _ _ h H locs ls' hl' hP hS hz hA0 hκ hQ
theorem xp_bin (hC : xCtx b dA D M p s m args meth c A EX) (hr : xSnd al b ρ sa dA D M p l e s m args below meth c A Qc rec) {o : Nat} {x y w : xV} (hT : ∀ x y : Int32, ((o = 9 ∨ o = 10) → ¬ y = 0) → xT (xMc M) (xMo M) pc nx [.int y, .int x] [.int (fbin o x y)]) (hκ0 : xKok ρ κ → xdv b ρ sa x = .int (xdi ρ x) ∧ xdv b ρ sa y = .int (xdi ρ y) ∧ xdv b ρ sa w = .int (fbin o (xdi ρ x) (xdi ρ y)) ∧ ((o = 9 ∨ o = 10) → ¬ xdi ρ y = 0)) (h : rec nx lv (w :: st) K ce sl κ = some Ls) : xGood al b ρ sa dA D M p l e s m args below meth c A Qc pc lv (y :: x :: st) K ce sl κ Ls := by
  intro H locs ls hl hP hS hz hA0 hκ hQ
  have := hr _ _ _ _ _ _ _ _ h H locs ls hl hP hS hz hA0 hκ hQ
  obtain ⟨e1, e2, e3, e4⟩ := hκ0 hκ
  rw [List.map_cons, e3] at this
  rw [List.map_cons, List.map_cons, e1, e2]
  exact hT _ _ e4 p l e _ s m args below meth c H locs ce sl _ ls _ hC.1 this
theorem xp_fork (hC : xCtx b dA D M p s m args meth c A EX) (hr : xSnd al b ρ sa dA D M p l e s m args below meth c A Qc rec) {k tgt : Nat} {x y : xV} (hT : xB (xMc M) (xMo M) pc nx tgt k) (hx : xkdb 0 x = true) (hy : xkdb 0 y = true) (h : xfork κ k x y (fun κ' => rec tgt lv st K ce sl κ') (fun κ' => rec nx lv st K ce sl κ') = some Ls) : xGood al b ρ sa dA D M p l e s m args below meth c A Qc pc lv (y :: x :: st) K ce sl κ Ls := by
  intro H locs ls hl hP hS hz hA0 hκ hQ
  obtain ⟨h1, h2⟩ := xfork_ok hκ h
  rw [List.map_cons, List.map_cons, xk0 hx, xk0 hy]
  refine hT p l e _ s m args below meth c H locs ce sl _ ls _ hC.1 _ _ (fun hc => ?_) (fun hc => ?_)
  · obtain ⟨κ', L, g1, g2, g3⟩ := h1 hc
    exact hr _ _ _ _ _ _ _ _ g1 H locs ls hl hP hS hz hA0 g2 (hQ.sub g3)
  · obtain ⟨κ', L, g1, g2, g3⟩ := h2 hc
    exact hr _ _ _ _ _ _ _ _ g1 H locs ls hl hP hS hz hA0 g2 (hQ.sub g3)
theorem xp_fork0 (hC : xCtx b dA D M p s m args meth c A EX) (hr : xSnd al b ρ sa dA D M p l e s m args below meth c A Qc rec) {k tgt : Nat} {x : xV} (hT : xB0 (xMc M) (xMo M) pc nx tgt k) (hx : xkdb 0 x = true) (h : xfork κ k x (0, 0) (fun κ' => rec tgt lv st K ce sl κ') (fun κ' => rec nx lv st K ce sl κ') = some Ls) : xGood al b ρ sa dA D M p l e s m args below meth c A Qc pc lv (x :: st) K ce sl κ Ls := by
  intro H locs ls hl hP hS hz hA0 hκ hQ
  obtain ⟨h1, h2⟩ := xfork_ok hκ h
  rw [List.map_cons, xk0 hx]
  refine hT p l e _ s m args below meth c H locs ce sl _ ls _ hC.1 _ (fun hc => ?_) (fun hc => ?_)
  · obtain ⟨κ', L, g1, g2, g3⟩ := h1 hc
    exact hr _ _ _ _ _ _ _ _ g1 H locs ls hl hP hS hz hA0 g2 (hQ.sub g3)
  · obtain ⟨κ', L, g1, g2, g3⟩ := h2 hc
    exact hr _ _ _ _ _ _ _ _ g1 H locs ls hl hP hS hz hA0 g2 (hQ.sub g3)
theorem xp_sw (hC : xCtx b dA D M p s m args meth c A EX) (hr : xSnd al b ρ sa dA D M p l e s m args below meth c A Qc rec) {dflt : Nat} {cs : List (Nat × Nat)} {x : xV} (hT : xSw (xMc M) (xMo M) pc dflt cs) (hx : xkdb 0 x = true) (h : xsw x (fun κ' => rec dflt lv st K ce sl κ') (fun t κ' => rec t lv st K ce sl κ') cs κ = some Ls) : xGood al b ρ sa dA D M p l e s m args below meth c A Qc pc lv (x :: st) K ce sl κ Ls := by
  intro H locs ls hl hP hS hz hA0 hκ hQ
  rw [List.map_cons, xk0 hx]
  refine hT p l e _ s m args below meth c H locs ce sl _ ls _ hC.1 _ ?_
  rcases xsw_ok hκ h with ⟨q, hq, e, κ', L, g1, g2, g3⟩ | ⟨hn, κ', L, g1, g2, g3⟩
  · exact Or.inl ⟨q, hq, e, hr _ _ _ _ _ _ _ _ g1 H locs ls hl hP hS hz hA0 g2 (hQ.sub g3)⟩
  · exact Or.inr ⟨hn, hr _ _ _ _ _ _ _ _ g1 H locs ls hl hP hS hz hA0 g2 (hQ.sub g3)⟩
theorem xcx_at {i : Nat} {x : xC} (h : K[i]? = some x) : (xcx b ρ sa dA 0 K)[i]? = some (b + i, xce b ρ sa dA x) := by
  rw [xcx_get, h, show 0 + i = i by omega]
  rfl
theorem xcx_put (i : Nat) (x : xC) : (xcx b ρ sa dA 0 K).set i (b + i, xce b ρ sa dA x) = xcx b ρ sa dA 0 (K.set i x) := by
  rw [← xcx_set, show 0 + i = i by omega]
theorem xp_getf (hC : xCtx b dA D M p s m args meth c A EX) (hr : xSnd al b ρ sa dA D M p l e s m args below meth c A Qc rec) {ci k i : Nat} {fs : List xV} {v : xV} (hT : xGf (xMc M) (xMo M) pc nx ci k) (hK : K[i]? = some (.inr (ci, fs))) (hv : fs[k]? = some v) (h : rec nx lv (v :: st) K ce sl κ = some Ls) : xGood al b ρ sa dA D M p l e s m args below meth c A Qc pc lv ((1, i) :: st) K ce sl κ Ls := by
  intro H locs ls hl hP hS hz hA0 hκ hQ
  have := hr _ _ _ _ _ _ _ _ h H locs ls hl hP hS hz hA0 hκ hQ
  rw [List.map_cons] at this ⊢
  exact hT p l e _ s m args below meth c H locs ce sl _ ls _ hC.1 D (xtys dA) _ i (b + i) (fs.map (xdv b ρ sa)) _ hC.2.2.1 hP (xcx_at hK) (by rw [List.getElem?_map, hv]; rfl) this
theorem xp_putf (hC : xCtx b dA D M p s m args meth c A EX) (hr : xSnd al b ρ sa dA D M p l e s m args below meth c A Qc rec) {ci k i : Nat} {fs : List xV} {v : xV} {ty : FieldType} {fin : Bool} (hT : xPf (xMc M) (xMo M) pc nx ci k ty fin) (hf : fin = true → (xMy M).name = "<init>") (hft : xfit (xtc ty) v = true) (hk : k < fs.length) (hK : K[i]? = some (.inr (ci, fs))) (h : rec nx lv st (K.set i (.inr (ci, fs.set k v))) ce sl κ = some Ls) : xGood al b ρ sa dA D M p l e s m args below meth c A Qc pc lv (v :: (1, i) :: st) K ce sl κ Ls := by
  intro H locs ls hl hP hS hz hA0 hκ hQ
  rw [List.map_cons, List.map_cons]
  obtain ⟨f1, f2⟩ := xfit_ok hft (b := b) (ρ := ρ) (sa := sa)
  refine hT p l e _ s m args below meth c H locs ce sl _ ls _ hC.1 D (xtys dA) _ i (b + i) A s.heap (fs.map (xdv b ρ sa)) _ hC.2.2.1 hP (xcx_D hA0) hS (xcx_at hK) (fun q => by rw [hC.2.2.2.2.2.2.2.1]; exact hf q) f1 f2 (by rw [List.length_map]; exact hk) (fun H1 locs1 hP1 _ hS1 z1 => ?_)
  have e1 : (Sum.inr (ci, (fs.map (xdv b ρ sa)).set k (xdv b ρ sa v)) : va_E) = xce b ρ sa dA (.inr (ci, fs.set k v)) := by
    show Sum.inr (ci, _) = Sum.inr (ci, (fs.set k v).map (xdv b ρ sa))
    rw [List.map_set]
  rw [e1, xcx_put] at hP1
  exact hr _ _ _ _ _ _ _ _ h H1 locs1 ls hl hP1 hS1 (fun q => by rw [List.length_set, ← hz q]; exact z1) (fun j hj => hA0 j (by rw [List.length_set] at hj; exact hj)) hκ hQ
theorem xce_arr {t : Nat} (ht : t = 0 ∨ t = 1 ∨ t = 3) (vs : List xV) : xce b ρ sa dA (.inl (t, vs)) = .inl (dA t, vs.length, .inl (fun j => xdi ρ (vs.getD j (0, 0)))) := by
  rcases ht with rfl | rfl | rfl <;> rfl
theorem xce_any {t : Nat} (vs : List xV) : ∃ z, xce b ρ sa dA (.inl (t, vs)) = .inl (dA t, vs.length, z) := by
  match t with
  | 0 | 1 | 2 | 3 | 4 => exact ⟨_, rfl⟩
  | n + 5 => exact ⟨_, rfl⟩
theorem xp_alen (hC : xCtx b dA D M p s m args meth c A EX) (hr : xSnd al b ρ sa dA D M p l e s m args below meth c A Qc rec) {t i : Nat} {vs : List xV} (hT : xAl (xMc M) (xMo M) pc nx) (ht : t < 5) (hK : K[i]? = some (.inl (t, vs))) (h : rec nx lv ((0, vs.length) :: st) K ce sl κ = some Ls) : xGood al b ρ sa dA D M p l e s m args below meth c A Qc pc lv ((1, i) :: st) K ce sl κ Ls := by
  intro H locs ls hl hP hS hz hA0 hκ hQ
  have := hr _ _ _ _ _ _ _ _ h H locs ls hl hP hS hz hA0 hκ hQ
  rw [List.map_cons] at this ⊢
  obtain ⟨z, hz2⟩ := xce_any (b := b) (ρ := ρ) (sa := sa) (dA := dA) (t := t) vs
  have hg := xcx_at (b := b) (ρ := ρ) (sa := sa) (dA := dA) hK
  rw [hz2] at hg
  exact hT p l e _ s m args below meth c H locs ce sl _ ls _ hC.1 D (xtys dA) _ i (b + i) t (dA t) (vs.length, z) (xty t) hC.2.2.1 hP hg (xtys_get ht) this
theorem xin {n N : Nat} (hn : n < 2147483648) (h : n < N) : vp_in (nI n) N := by
  rintro (h1 | h1)
  · exact nI_pos hn h1
  · rw [nI_clamp hn] at h1
    omega
theorem xp_read (hC : xCtx b dA D M p s m args meth c A EX) (hr : xSnd al b ρ sa dA D M p l e s m args below meth c A Qc rec) {t i n : Nat} {vs : List xV} {j v : xV} (ht : t = 0 ∨ t = 1 ∨ t = 3) (hT : xRd (xMc M) (xMo M) pc nx (xty t)) (hj : xnm κ.2 j = (0, n)) (hn : n < 2147483648) (hK : K[i]? = some (.inl (t, vs))) (hv : vs[n]? = some v) (hk : xkdb 0 v = true) (h : rec nx lv (v :: st) K ce sl κ = some Ls) : xGood al b ρ sa dA D M p l e s m args below meth c A Qc pc lv (j :: (1, i) :: st) K ce sl κ Ls := by
  intro H locs ls hl hP hS hz hA0 hκ hQ
  have := hr _ _ _ _ _ _ _ _ h H locs ls hl hP hS hz hA0 hκ hQ
  rw [List.map_cons, xk0 hk] at this
  rw [List.map_cons, List.map_cons]
  have ej := (xnm_ok hκ (b := b) (sa := sa) j).1
  rw [hj] at ej
  rw [← ej]
  have hg := xcx_at (b := b) (ρ := ρ) (sa := sa) (dA := dA) hK
  rw [xce_arr ht] at hg
  refine hT p l e _ s m args below meth c H locs ce sl _ ls _ hC.1 D (xtys dA) _ i (b + i) t (dA t) vs.length _ (nI n) hC.2.2.1 hP hg (xtys_get (by omega)) (xin hn (List.getElem?_eq_some_iff.mp hv).1) ?_
  rw [nI_clamp hn, List.getD_eq_getElem?_getD, hv]
  exact this
theorem xp_readr (hC : xCtx b dA D M p s m args meth c A EX) (hr : xSnd al b ρ sa dA D M p l e s m args below meth c A Qc rec) {i n q : Nat} {vs : List xV} {j : xV} (hT : xRr (xMc M) (xMo M) pc nx) (hj : xnm κ.2 j = (0, n)) (hn : n < 2147483648) (hK : K[i]? = some (.inl (4, vs))) (hv : vs[n]? = some (1, q)) (h : rec nx lv ((1, q) :: st) K ce sl κ = some Ls) : xGood al b ρ sa dA D M p l e s m args below meth c A Qc pc lv (j :: (1, i) :: st) K ce sl κ Ls := by
  intro H locs ls hl hP hS hz hA0 hκ hQ
  have := hr _ _ _ _ _ _ _ _ h H locs ls hl hP hS hz hA0 hκ hQ
  rw [List.map_cons] at this
  rw [List.map_cons, List.map_cons]
  have ej := (xnm_ok hκ (b := b) (sa := sa) j).1
  rw [hj] at ej
  rw [← ej]
  have hg := xcx_at (b := b) (ρ := ρ) (sa := sa) (dA := dA) hK
  refine hT p l e _ s m args below meth c H locs ce sl _ ls _ hC.1 D (xtys dA) _ i (b + i) 4 (dA 4) vs.length _ (nI n) hC.2.2.1 hP hg rfl (xin hn (List.getElem?_eq_some_iff.mp hv).1) ?_
  rw [nI_clamp hn, List.getD_eq_getElem?_getD, hv]
  exact this
theorem xupd {ρ : Nat → Int32} {vs : List xV} {n : Nat} (h : n < vs.length) (v : xV) : upd (fun j => xdi ρ (vs.getD j (0, 0))) n (xdi ρ v) = fun j => xdi ρ ((vs.set n v).getD j (0, 0)) := by
  funext j
  simp only [upd]
  by_cases e : j = n
  · subst e
    rw [if_pos rfl, List.getD_eq_getElem?_getD, List.getElem?_set_self h]
    rfl
  · rw [if_neg e, List.getD_eq_getElem?_getD, List.getD_eq_getElem?_getD, List.getElem?_set_ne (Ne.symm e)]
theorem xp_write (hC : xCtx b dA D M p s m args meth c A EX) (hr : xSnd al b ρ sa dA D M p l e s m args below meth c A Qc rec) {t i n : Nat} {vs : List xV} {j v : xV} (ht : t = 0 ∨ t = 1 ∨ t = 3) (hT : xWr (xMc M) (xMo M) pc nx (xty t)) (hj : xnm κ.2 j = (0, n)) (hn : n < 2147483648) (hK : K[i]? = some (.inl (t, vs))) (hl2 : n < vs.length) (hk : xkdb 0 v = true) (hnar : vp_nar (xty t) (xdi ρ v) = xdi ρ v) (h : rec nx lv st (K.set i (.inl (t, vs.set n v))) ce sl κ = some Ls) : xGood al b ρ sa dA D M p l e s m args below meth c A Qc pc lv (v :: j :: (1, i) :: st) K ce sl κ Ls := by
  intro H locs ls hl hP hS hz hA0 hκ hQ
  rw [List.map_cons, List.map_cons, List.map_cons, xk0 hk]
  have ej := (xnm_ok hκ (b := b) (sa := sa) j).1
  rw [hj] at ej
  rw [← ej]
  have hg := xcx_at (b := b) (ρ := ρ) (sa := sa) (dA := dA) hK
  rw [xce_arr ht] at hg
  refine hT p l e _ s m args below meth c H locs ce sl _ ls _ hC.1 D (xtys dA) _ i (b + i) A s.heap t (dA t) vs.length _ (nI n) _ hC.2.2.1 hP (xcx_D hA0) hS hg (xtys_get (by omega)) (xin hn hl2) (fun H1 locs1 hP1 _ hS1 z1 => ?_)
  rw [hnar, nI_clamp hn, xupd hl2] at hP1
  have e1 : (Sum.inl (dA t, vs.length, .inl (fun j => xdi ρ ((vs.set n v).getD j (0, 0)))) : va_E) = xce b ρ sa dA (.inl (t, vs.set n v)) := by
    rw [xce_arr ht, List.length_set]
  rw [e1, xcx_put] at hP1
  exact hr _ _ _ _ _ _ _ _ h H1 locs1 ls hl hP1 hS1 (fun q => by rw [List.length_set, ← hz q]; exact z1) (fun j hj => hA0 j (by rw [List.length_set] at hj; exact hj)) hκ hQ
theorem xdz {v : xV} (h : (Nat.beq v.1 0 || (Nat.beq v.1 2 || Nat.beq v.1 4)) = true) : xdv 0 (fun _ => 0) (fun _ => 0) v = xdv b ρ sa v := by
  match v, h with
  | (0, _), _ | (2, _), _ | (4, _), _ => rfl
  | (1, _), h | (3, _), h | (5, _), h => cases h
  | (n + 6, _), h => cases h
theorem xp_new (hC : xCtx b dA D M p s m args meth c A EX) (hr : xSnd al b ρ sa dA D M p l e s m args below meth c A Qc rec) {ci N : Nat} {fs : List xV} (hT : xNw (xMc M) (xMo M) pc nx ci N (fs.map (xdv 0 (fun _ => 0) (fun _ => 0)))) (hal : al = true) (hce : ce < (xMm M).cells) (hsl : sl + N ≤ (xMm M).slots) (hfs : fs.all (fun q => Nat.beq q.1 0 || (Nat.beq q.1 2 || Nat.beq q.1 4)) = true) (h : rec nx lv ((1, K.length) :: st) (K ++ [.inr (ci, fs)]) (ce + 1) (sl + N) κ = some Ls) : xGood al b ρ sa dA D M p l e s m args below meth c A Qc pc lv st K ce sl κ Ls := by
  intro H locs ls hl hP hS hz hA0 hκ hQ
  refine hT p l e _ s m args below meth c H locs ce sl _ ls _ hC.1 D (xtys dA) _ A s.heap hC.2.2.1 hP hS hce hsl (fun H1 hP1 hS1 z1 => ?_)
  have e0 : fs.map (xdv 0 (fun _ => 0) (fun _ => 0)) = fs.map (xdv b ρ sa) := List.map_congr_left (fun v hv => xdz (List.all_eq_true.mp hfs v hv))
  rw [e0, hz hal, show b + K.length = b + (0 + K.length) by omega] at hP1
  have e1 : (Sum.inr (ci, fs.map (xdv b ρ sa)) : va_E) = xce b ρ sa dA (.inr (ci, fs)) := rfl
  rw [e1, ← xcx_push] at hP1
  have := hr _ _ _ _ _ _ _ _ h H1 locs ls hl hP1 hS1 (fun q => by rw [List.length_append, z1, hz q]; rfl) (fun j hj => by
    rw [List.length_append] at hj
    by_cases hj2 : j < K.length
    · exact hA0 j hj2
    · refine hC.2.2.2.1 _ ?_
      have e2 : j = K.length := by simp at hj; omega
      rw [e2, ← hz hal]
      exact hS.1) hκ hQ
  rw [List.map_cons] at this
  rw [hz hal]
  exact this
theorem xp_newa (hC : xCtx b dA D M p s m args meth c A EX) (hr : xSnd al b ρ sa dA D M p l e s m args below meth c A Qc rec) {t n : Nat} (ht : t < 4) (hT : xNa (xMc M) (xMo M) pc nx (xty t)) (hal : al = true) (hce : ce < (xMm M).cells) (hsl : sl + n ≤ (xMm M).slots) (hn : n < 67108864) (h : rec nx lv ((1, K.length) :: st) (K ++ [.inl (t, List.replicate n (xzero t))]) (ce + 1) (sl + n) κ = some Ls) : xGood al b ρ sa dA D M p l e s m args below meth c A Qc pc lv ((0, n) :: st) K ce sl κ Ls := by
  intro H locs ls hl hP hS hz hA0 hκ hQ
  rw [List.map_cons]
  obtain ⟨-, hRA⟩ := hC.2.2.1.2 t _ (xtys_get (by omega))
  have hfc : s.vm.findClass ("[" ++ (xty t).toString) = some (dA t) := by
    match t, ht, hRA with
    | 0, _, h | 1, _, h | 2, _, h | 3, _, h => exact h
  obtain ⟨z, hz2⟩ : ∃ z : vp_A, xce b ρ sa dA (.inl (t, List.replicate n (xzero t))) = .inl (dA t, z) ∧ vp_cell (dA t) z = arrV (dA t) n (fun _ => defaultValue (xty t)) := by
    match t, ht with
    | 0, _ | 1, _ | 3, _ =>
      refine ⟨_, rfl, ?_⟩
      rw [vp_cell_i, List.length_replicate]
      congr 1
      funext j
      simp [List.getD_eq_getElem?_getD, List.getElem?_replicate, xzero, defaultValue, xty]
      split <;> rfl
    | 2, _ =>
      refine ⟨_, rfl, ?_⟩
      rw [vp_cell_l, List.length_replicate]
      congr 1
      funext j
      simp [List.getD_eq_getElem?_getD, List.getElem?_replicate, xzero, defaultValue, xty]
      split <;> rfl
  refine hT p l e _ s m args below meth c H locs ce sl _ ls _ hC.1 D (xtys dA) _ A s.heap (nI n) n z (dA t) hC.2.2.1 hP hS hfc hz2.2 (nI_pos (by omega)) (nI_clamp (by omega)) (by
    have hb : componentBytes (xty t) ≤ 8 := by
      match t, ht with
      | 0, _ | 1, _ | 2, _ | 3, _ => decide
    calc n * componentBytes (xty t) ≤ 67108864 * 8 := Nat.mul_le_mul (by omega) hb
      _ ≤ 536870912 := by decide) hce hsl (fun H1 hP1 hS1 z1 => ?_)
  rw [← hz2.1, hz hal, show b + K.length = b + (0 + K.length) by omega, ← xcx_push] at hP1
  have := hr _ _ _ _ _ _ _ _ h H1 locs ls hl hP1 hS1 (fun q => by rw [List.length_append, z1, hz q]; rfl) (fun j hj => by
    rw [List.length_append] at hj
    by_cases hj2 : j < K.length
    · exact hA0 j hj2
    · refine hC.2.2.2.1 _ ?_
      have e2 : j = K.length := by simp at hj; omega
      rw [e2, ← hz hal]
      exact hS.1) hκ hQ
  rw [List.map_cons] at this
  rw [hz hal]
  exact this
theorem xp_oinit (hC : xCtx b dA D M p s m args meth c A EX) (hr : xSnd al b ρ sa dA D M p l e s m args below meth c A Qc rec) {i : Nat} (hT : xOi (xMc M) (xMo M) pc nx) (hf : 1 ≤ (xMm M).frames) (hlo : xsum st + 12 ≤ (xMm M).locals) (h : rec nx lv st K ce sl κ = some Ls) : xGood al b ρ sa dA D M p l e s m args below meth c A Qc pc lv ((1, i) :: st) K ce sl κ Ls := by
  intro H locs ls hl hP hS hz hA0 hκ hQ
  have := hr _ _ _ _ _ _ _ _ h H locs ls hl hP hS hz hA0 hκ hQ
  rw [List.map_cons]
  exact hT p l e _ s m args below meth c H locs ce sl _ ls _ hC.1 (b + i) (by rw [hC.2.1, hl.1]) hf (by rw [xsum_ok]; exact hlo) this
theorem xp_copy (hC : xCtx b dA D M p s m args meth c A EX) (hr : xSnd al b ρ sa dA D M p l e s m args below meth c A Qc rec) {d0 s0 sp dp n : Nat} {vs ws : List xV} (hT : xCp (xMc M) (xMo M) pc nx) (hKs : K[s0]? = some (.inl (0, vs))) (hKd : K[d0]? = some (.inl (0, ws))) (h1 : sp + n ≤ vs.length) (h2 : dp + n ≤ ws.length) (h3 : sp + n < 2147483648) (h4 : dp + n < 2147483648) (hf : 1 ≤ (xMm M).frames) (hlo : xsum st + (nativeFrameWords "java/lang/System" "arraycopy" 5 + 11) ≤ (xMm M).locals) (h : rec nx lv st (K.set d0 (.inl (0, ws.take dp ++ ((vs.drop sp).take n ++ ws.drop (dp + n))))) ce sl κ = some Ls) : xGood al b ρ sa dA D M p l e s m args below meth c A Qc pc lv ((0, n) :: (0, dp) :: (1, d0) :: (0, sp) :: (1, s0) :: st) K ce sl κ Ls := by
  intro H locs ls hl hP hS hz hA0 hκ hQ
  simp only [List.map_cons]
  have hg0 := xcx_at (b := b) (ρ := ρ) (sa := sa) (dA := dA) hKs
  have hg1 := xcx_at (b := b) (ρ := ρ) (sa := sa) (dA := dA) hKd
  rw [xce_arr (Or.inl rfl)] at hg0 hg1
  refine hT p l e _ s m args below meth c H locs ce sl _ ls _ hC.1 D (xtys dA) _ A s.heap s0 d0 (b + s0) (b + d0) 0 (dA 0) vs.length ws.length _ _ (nI sp) (nI dp) (nI n) (by rw [hC.2.1, hl.1]) hC.2.2.1 hP (xcx_D hA0) hS hg0 hg1 rfl (nI_pos (by omega)) (nI_pos (by omega)) (nI_pos (by omega)) (by rw [nI_clamp (by omega), nI_clamp (by omega)]; exact h1) (by rw [nI_clamp (by omega), nI_clamp (by omega)]; exact h2) hf (by rw [xsum_ok]; exact hlo) (fun H1 locs1 hP1 hS1 z1 => ?_)
  rw [nI_clamp (by omega), nI_clamp (by omega), nI_clamp (by omega)] at hP1
  have e1 : (Sum.inl (dA 0, ws.length, .inl (va_cpy (fun j => xdi ρ (vs.getD j (0, 0))) (fun j => xdi ρ (ws.getD j (0, 0))) sp dp n)) : va_E) = xce b ρ sa dA (.inl (0, ws.take dp ++ ((vs.drop sp).take n ++ ws.drop (dp + n)))) := by
    rw [xce_arr (Or.inl rfl)]
    have el : (ws.take dp ++ ((vs.drop sp).take n ++ ws.drop (dp + n))).length = ws.length := by
      simp only [List.length_append, List.length_take, List.length_drop]
      omega
    rw [el]
    congr 4
    funext j
    simp only [va_cpy, List.getD_eq_getElem?_getD]
    by_cases hj : dp ≤ j ∧ j < dp + n
    · rw [if_pos hj, List.getElem?_append_right (by rw [List.length_take]; omega), List.getElem?_append_left (by simp only [List.length_take, List.length_drop]; omega), List.getElem?_take_of_lt (by rw [List.length_take]; omega), List.getElem?_drop]
      rw [List.length_take, Nat.min_eq_left (by omega)]
    · rw [if_neg hj]
      by_cases hj2 : j < dp
      · rw [List.getElem?_append_left (by rw [List.length_take]; omega), List.getElem?_take_of_lt hj2]
      · rw [List.getElem?_append_right (by rw [List.length_take]; omega), List.getElem?_append_right (by simp only [List.length_take, List.length_drop]; omega), List.getElem?_drop]
        congr 3
        simp only [List.length_take, List.length_drop]
        omega
  rw [e1, xcx_put] at hP1
  exact hr _ _ _ _ _ _ _ _ h H1 locs1 ls hl hP1 hS1 (fun q => by rw [List.length_set, ← hz q]; exact z1) (fun j hj => hA0 j (by rw [List.length_set] at hj; exact hj)) hκ hQ
end XC
end
section
/-- what may be said of a callee's end -/
def xQp (al : Bool) (b : Nat) (ρ : Nat → Int32) (sa : Nat → Nat) (dA : Nat → ClassId) (D : va_G) (n sz : Nat) (Ls : List xR) : State → Outcome → State → Prop := fun u o t =>
  ∃ lf ∈ Ls, xKok ρ lf.1 ∧ o = .returned (lf.2.1.map (xdv b ρ sa)) ∧ va_P D vwCl (xcx b ρ sa dA 0 lf.2.2) t.heap ∧ (al = true → t.heap.size = b + lf.2.2.length) ∧ (∀ i, i < lf.2.2.length → xA b n sz (b + i)) ∧ va_F (xA b n sz) u t
def xPp (al : Bool) (b : Nat) (ρ : Nat → Int32) (sa : Nat → Nat) (dA : Nat → ClassId) (D : va_G) (EX : State → Prop) (K : xH) (sz : Nat) (U : State) : Prop := U.heap.size = sz ∧ va_P D vwCl (xcx b ρ sa dA 0 K) U.heap ∧ va_K D vwCl (xtys dA) U ∧ (al = true → U.heap.size = b + K.length) ∧ EX U
abbrev xWs (M : xM) : List Cond := .code (xMy M) (xMc M) (xMl M) (xMr M) :: xgt
def xMet (al : Bool) (b : Nat) (ρ : Nat → Int32) (sa : Nat → Nat) (dA : Nat → ClassId) (D : va_G) (EX : State → Prop) (l : Launch) (M : xM) (avs : List xV) (K : xH) (Ls : List xR) (sz : Nat) : Prop :=
  Met l (xMy M) (xWs M) (xMm M) (va_Pc (avs.map (xdv b ρ sa)) (xPp al b ρ sa dA D EX K sz)) (fun _ => xQp al b ρ sa dA D K.length sz Ls) (xMm M).cells (xMm M).slots (xA b K.length sz)
/-- facts beside the world, that stay -/
def xEok (b : Nat) (EX : State → Prop) : Prop := (∀ (U : State) (g : JFrame) (mk : MethodId) (a : Array Value), EX U → EX (U.calling g mk a)) ∧ (∀ s U : State, EX s → s.WarmedH U.vm → (∀ q, q < b → U.heap[q]? = s.heap[q]?) → EX U) ∧ ∀ s, EX s → ∀ w ∈ xnw, va_Nw w s
section XD
variable {al : Bool} {b : Nat} {ρ : Nat → Int32} {sa : Nat → Nat} {dA : Nat → ClassId} {D : va_G} {M : xM} {p : Program} {l : Launch} {e : Env} {s : State} {m : MethodId} {args : Array Value} {below : List Frame} {meth : Method} {c : Code} {A : Nat → Prop} {Qc : Array Value → State → Outcome → State → Prop} {EX : State → Prop}
variable {mt : List xM} {ds : xD} {rec : xRec} {pc nx : Nat} {lv : xL} {st : List xV} {K : xH} {ce sl : Nat} {κ : xK} {Ls : List xR}
theorem xp_iret (hC : xCtx b dA D M p s m args meth c A EX) {v : xV} {ty : FieldType} (hd : decode (xMc M) pc = .ok (.ireturn, 1)) (hr : xMr M = some ty) (hti : ty = .int ∨ ty = .boolean) (hf : xfit (xtc ty) v = true) (h1 : ce ≤ (xMm M).cells) (h2 : sl ≤ (xMm M).slots) : xGood al b ρ sa dA D M p l e s m args below meth c A Qc pc lv [v] K ce sl κ [(κ, some (xnm κ.2 v), K)] := by
  intro H locs ls hl hP hS hz hA0 hκ hQ
  have hk : xkdb 0 v = true := by
    rcases hti with rfl | rfl
    · exact hf
    · simp only [xtc, xfit, Bool.and_eq_true] at hf
      simp only [xkdb, hf.1, Bool.true_or]
  have e0 : xdv b ρ sa v = .int (xdi ρ v) := xk0 hk
  have hn := (xfit_ok hf (b := b) (ρ := ρ) (sa := sa)).1
  rw [e0] at hn
  refine W.widen (k := (xMm M).cells) (n := (xMm M).slots) h1 h2 ?_
  rw [show [v].map (xdv b ρ sa) = [.int (xdi ρ v)] by rw [← e0]; rfl]
  refine W.zret hC.1.1 hC.1.2.1 (by rw [hC.2.2.2.2.2.1]; exact hr) hn (fun t ht _ => ?_) hS.2.2 hd hC.2.2.2.2.2.2.1
  have := hQ _ List.mem_cons_self hκ t (by rw [ht]; exact hP) (fun q => by rw [ht]; exact hz q) hA0 (hS.F ht)
  dsimp only [Option.map] at this
  rw [(xnm_ok hκ v).1, e0] at this
  exact this
theorem xp_lret (hC : xCtx b dA D M p s m args meth c A EX) {v : xV} (hd : decode (xMc M) pc = .ok (.lreturn, 1)) (hr : xMr M = some .long) (hf : xkdb 2 v = true) (h1 : ce ≤ (xMm M).cells) (h2 : sl ≤ (xMm M).slots) : xGood al b ρ sa dA D M p l e s m args below meth c A Qc pc lv [v] K ce sl κ [(κ, some v, K)] := by
  intro H locs ls hl hP hS hz hA0 hκ hQ
  have e0 : xdv b ρ sa v = .long (lN v.2) := xk2 hf
  refine W.widen (k := (xMm M).cells) (n := (xMm M).slots) h1 h2 ?_
  rw [show [v].map (xdv b ρ sa) = [.long (lN v.2)] by rw [← e0]; rfl]
  refine W.lret hC.1.1 hC.1.2.1 (by rw [hC.2.2.2.2.2.1]; exact hr) (fun t ht _ => ?_) hS.2.2 hd hC.2.2.2.2.2.2.1
  have := hQ _ List.mem_cons_self hκ t (by rw [ht]; exact hP) (fun q => by rw [ht]; exact hz q) hA0 (hS.F ht)
  dsimp only [Option.map] at this
  rw [e0] at this
  exact this
theorem xp_vret (hC : xCtx b dA D M p s m args meth c A EX) (hd : decode (xMc M) pc = .ok (.return_, 1)) (hr : xMr M = none) (h1 : ce ≤ (xMm M).cells) (h2 : sl ≤ (xMm M).slots) : xGood al b ρ sa dA D M p l e s m args below meth c A Qc pc lv [] K ce sl κ [(κ, none, K)] := by
  intro H locs ls hl hP hS hz hA0 hκ hQ
  refine W.widen (k := (xMm M).cells) (n := (xMm M).slots) h1 h2 ?_
  exact W.vret hC.1.1 hC.1.2.1 (by rw [hC.2.2.2.2.2.1]; exact hr) (fun t ht _ => hQ _ List.mem_cons_self hκ t (by rw [ht]; exact hP) (fun q => by rw [ht]; exact hz q) hA0 (hS.F ht)) hS.2.2 hd hC.2.2.2.2.2.2.1
/-- behind a call -/
theorem xp_call (hC : xCtx b dA D M p s m args meth c A EX) (hr : xSnd al b ρ sa dA D M p l e s m args below meth c A Qc rec) {mc ms : Nat} {rest : List xV} {Lc : List xR}
    (hrun : ∀ (H : Heap) (locs : List Loc) (ls : Array Slot), lv_has ls (xMl M) (xdL b ρ sa lv) → va_P D vwCl (xcx b ρ sa dA 0 K) H → va_S A s.heap H locs → (al = true → H.size = b + K.length) → xKok ρ κ → va_Run p l e (xMm M) s m args below meth c H locs ce sl mc ms (F0 m pc ls (st.map (xdv b ρ sa))) (rest.map (xdv b ρ sa)) (xQp al b ρ sa dA D K.length H.size Lc) (xA b K.length H.size))
    (hall : ∀ lf ∈ Lc, ∃ L, rec (pc + 3) lv (xput rest lf.2.1) lf.2.2 (ce + mc) (sl + ms) lf.1 = some L ∧ ∀ q ∈ L, q ∈ Ls) : xGood al b ρ sa dA D M p l e s m args below meth c A Qc pc lv st K ce sl κ Ls := by
  intro H locs ls hl hP hS hz hA0 hκ hQ
  intro T hT X
  obtain ⟨v, st₀, t, T', L, h0, X', hL, e1, e2, ⟨lf, hlf, k1, k2, k3, k4, k5, k6⟩, stp⟩ := hrun H locs ls hl hP hS hz hκ T hT X
  have ev : v = lf.2.1.map (xdv b ρ sa) := by injection k2
  obtain ⟨L2, g1, g2⟩ := hall lf hlf
  have hsub : ∀ q, xA b K.length H.size q → A q := by
    rintro q (⟨a1, a2⟩ | a1)
    · have := hA0 (q - b) (by omega)
      rwa [show b + (q - b) = q by omega] at this
    · exact hC.2.2.2.1 q (Nat.le_trans hS.1 a1)
  obtain ⟨f1, f2⟩ := k6
  rw [h0] at f1 f2
  have hS2 : va_S A s.heap T'.heap (locs ++ L) := ⟨by rw [e1]; exact Nat.le_trans hS.1 f1, fun q q1 q2 => by
    rw [e1, f2 q (Nat.lt_of_lt_of_le q1 hS.1) (fun z => q2 (hsub q z))]
    exact hS.2.1 q q1 q2, fun q hq => by
    rcases List.mem_append.mp hq with h | h
    · exact hS.2.2 q h
    · exact hsub _ (hL q h)⟩
  have W2 := hr _ _ _ _ _ _ _ _ g1 T'.heap (locs ++ L) ls hl (by rw [e1]; exact k3) hS2 (fun q => by rw [e1]; exact k4 q) (fun i hi => hsub _ (k5 i hi)) k1 (hQ.sub g2)
  obtain ⟨t2, a1, b1⟩ := W2 T' rfl X'
  refine ⟨t2, stp t2 ?_, b1⟩
  have es : v.toList ++ rest.map (xdv b ρ sa) = (xput rest lf.2.1).map (xdv b ρ sa) := by
    rw [ev]
    cases lf.2.1 <;> rfl
  rw [es]
  exact a1
theorem xgt_in' {ws : List Cond} (h : ∀ w ∈ ws, w ∈ xgt) : GoodIn xgt ws := fun w hw => ⟨h w hw, xgt_good w (h w hw)⟩
theorem xWs_in {M' : xM} (h : xMok mt M') : ∀ w ∈ xWs M', w ∈ xgt := fun w hw => by
  rcases List.mem_cons.mp hw with rfl | hw
  · exact h.1
  · exact hw
theorem xPp_blind {avs : List Value} {sz : Nat} (hE : xEok b EX) : FrameBlind (va_Pc avs (xPp al b ρ sa dA D EX K sz)) := by
  rintro a U g mk ⟨h1, h2, h3, h4, h5, h6⟩
  exact ⟨h1, h2, h3, va_K.moved (u := U) (U := U.calling g mk a) (Vm.Alike.refl U.vm) h4, h5, hE.1 U g mk a h6⟩
theorem xPp_at (hC : xCtx b dA D M p s m args meth c A EX) (hE : xEok b EX) {H : Heap} {locs : List Loc} (hP : va_P D vwCl (xcx b ρ sa dA 0 K) H) (hS : va_S A s.heap H locs) (hz : al = true → H.size = b + K.length) (U : State) (hU : U.heap = H) (hW : s.WarmedH U.vm) : xPp al b ρ sa dA D EX K H.size U := by
  refine ⟨by rw [hU], by rw [hU]; exact hP, va_K.moved hW.alike hC.2.2.1, fun q => by rw [hU]; exact hz q, hE.2.1 s U hC.2.2.2.2.2.2.2.2.1 hW (fun q hq => ?_)⟩
  rw [hU]
  have hb := hC.2.2.2.2.2.2.2.2.2
  exact hS.2.1 q (by omega) (fun z => by have := hC.2.2.2.2.1 q z; omega)
theorem xroom_ok {M' : xM} (h : xroom (xMm M) M' ce sl = true) : ((xMm M').frames + 1 ≤ (xMm M).frames ∧ 8 + (xMl M' + 11) + (xMm M').locals ≤ (xMm M).locals) ∧ ce + (xMm M').cells ≤ (xMm M).cells ∧ sl + (xMm M').slots ≤ (xMm M).slots := by
  simp only [xroom, Bool.and_eq_true, Nat.ble_eq] at h
  exact ⟨⟨h.1, h.2.1⟩, h.2.2.1, h.2.2.2⟩
theorem xp_runS (hC : xCtx b dA D M p s m args meth c A EX) (hE : xEok b EX) {M' : xM} (hM' : xMok mt M') (hc : xcS M pc M') (hrm : xroom (xMm M) M' ce sl = true) {avs rest : List xV} (hst : st = avs.reverse ++ rest) (hn : avs.length = xMn M') (hrest : xsum rest ≤ 8) {Lc : List xR} (hMet : xKok ρ κ → ∀ sz, b ≤ sz → xMet al b ρ sa dA D EX l M' avs K Lc sz)
    (H : Heap) (locs : List Loc) (ls : Array Slot) (hl : lv_has ls (xMl M) (xdL b ρ sa lv)) (hP : va_P D vwCl (xcx b ρ sa dA 0 K) H) (hS : va_S A s.heap H locs) (hz : al = true → H.size = b + K.length) (hκ : xKok ρ κ) : va_Run p l e (xMm M) s m args below meth c H locs ce sl (xMm M').cells (xMm M').slots (F0 m pc ls (st.map (xdv b ρ sa))) (rest.map (xdv b ρ sa)) (xQp al b ρ sa dA D K.length H.size Lc) (xA b K.length H.size) := by
  obtain ⟨ix, hd, w1, w2⟩ := hc
  obtain ⟨r1, r2⟩ := xroom_ok hrm
  have hts := hC.1.2.2.2
  exact va_runS (As := avs.map (xdv b ρ sa)) (n := xMn M') (bytes := xMc M') (maxL := xMl M') (ret := xMr M') ⟨hC.1.1, hC.1.2.1, hC.2.1, hC.1.2.2.1, hts⟩ (hMet hκ H.size (Nat.le_trans hC.2.2.2.2.2.2.2.2.2 hS.1)) ⟨callB_of (xMn M') hts (xgt_in' (xWs_in hM')) rfl rfl rfl (hts _ hM'.2.1) (hts _ w1) hM'.2.2.1 r1, hts _ w2⟩ ⟨xPp_blind hE, fun U hU hW => ⟨rfl, xPp_at hC hE hP hS hz U hU hW⟩⟩ rfl (by rw [List.length_map]; exact hn) hl.1 (by rw [hst, List.map_append, List.map_reverse]) (lv_room (by rw [xsum_ok]; exact hrest)) hd r2
theorem xp_runV (hC : xCtx b dA D M p s m args meth c A EX) (hE : xEok b EX) {M' : xM} (hM' : xMok mt M') (hc : xcV M pc M') (hrm : xroom (xMm M) M' ce sl = true) {avs rest : List xV} {i ci : Nat} {fs : List xV} {q : vw_C} (hKi : K[i]? = some (.inr (ci, fs))) (hq : vwCl[ci]? = some q) (hqn : q.1 = (xMy M').cls) (hst : st = avs.reverse ++ (1, i) :: rest) (hn : avs.length = xMn M') (hrest : xsum rest ≤ 8) {Lc : List xR} (hMet : xKok ρ κ → ∀ sz, b ≤ sz → xMet al b ρ sa dA D EX l M' ((1, i) :: avs) K Lc sz)
    (H : Heap) (locs : List Loc) (ls : Array Slot) (hl : lv_has ls (xMl M) (xdL b ρ sa lv)) (hP : va_P D vwCl (xcx b ρ sa dA 0 K) H) (hS : va_S A s.heap H locs) (hz : al = true → H.size = b + K.length) (hκ : xKok ρ κ) : va_Run p l e (xMm M) s m args below meth c H locs ce sl (xMm M').cells (xMm M').slots (F0 m pc ls (st.map (xdv b ρ sa))) (rest.map (xdv b ρ sa)) (xQp al b ρ sa dA D K.length H.size Lc) (xA b K.length H.size) := by
  obtain ⟨ix, hd, w1, w2, w3⟩ := hc
  obtain ⟨r1, r2⟩ := xroom_ok hrm
  have hts := hC.1.2.2.2
  have hrc := va_recv hC.2.2.1 hP hq (xcx_at hKi)
  rw [hqn] at hrc
  exact va_runV (As := avs.map (xdv b ρ sa)) (b := b + i) (C := (xMy M').cls) (n := xMn M') (bytes := xMc M') (maxL := xMl M') (ret := xMr M') ⟨hC.1.1, hC.1.2.1, hC.2.1, hC.1.2.2.1, hts⟩ (hMet hκ H.size (Nat.le_trans hC.2.2.2.2.2.2.2.2.2 hS.1)) ⟨callB_of (xMn M') hts (xgt_in' (xWs_in hM')) rfl rfl rfl (hts _ hM'.2.1) (hts _ w1) hM'.2.2.1 r1, hts _ w2, hts _ w3⟩ ⟨xPp_blind hE, hrc, fun U hU hW => ⟨rfl, xPp_at hC hE hP hS hz U hU hW⟩⟩ rfl (by rw [List.length_map]; exact hn) hl.1 (by rw [hst, List.map_append, List.map_reverse]; rfl) (lv_room (by rw [xsum_ok]; exact hrest)) hd r2
theorem xp_runI (hC : xCtx b dA D M p s m args meth c A EX) (hE : xEok b EX) {M' : xM} (hM' : xMok mt M') (hc : xcI M pc M') (hrm : xroom (xMm M) M' ce sl = true) {avs rest : List xV} {i : Nat} (hst : st = avs.reverse ++ (1, i) :: rest) (hn : avs.length = xMn M') (hrest : xsum rest ≤ 8) {Lc : List xR} (hMet : xKok ρ κ → ∀ sz, b ≤ sz → xMet al b ρ sa dA D EX l M' ((1, i) :: avs) K Lc sz)
    (H : Heap) (locs : List Loc) (ls : Array Slot) (hl : lv_has ls (xMl M) (xdL b ρ sa lv)) (hP : va_P D vwCl (xcx b ρ sa dA 0 K) H) (hS : va_S A s.heap H locs) (hz : al = true → H.size = b + K.length) (hκ : xKok ρ κ) : va_Run p l e (xMm M) s m args below meth c H locs ce sl (xMm M').cells (xMm M').slots (F0 m pc ls (st.map (xdv b ρ sa))) (rest.map (xdv b ρ sa)) (xQp al b ρ sa dA D K.length H.size Lc) (xA b K.length H.size) := by
  obtain ⟨ix, hd, w1, w2, w3, w4⟩ := hc
  obtain ⟨r1, r2⟩ := xroom_ok hrm
  have hts := hC.1.2.2.2
  have hM := hMet hκ H.size (Nat.le_trans hC.2.2.2.2.2.2.2.2.2 hS.1)
  have hpp : PreS s H (va_Pc (((1, i) :: avs).map (xdv b ρ sa)) (xPp al b ρ sa dA D EX K H.size)) (.ref (b + i) :: avs.map (xdv b ρ sa)) := ⟨xPp_blind hE, fun U hU hW => ⟨rfl, xPp_at hC hE hP hS hz U hU hW⟩⟩
  rcases w4 with w4 | ⟨host, w4⟩
  · exact va_runI (As := avs.map (xdv b ρ sa)) (b := b + i) (n := xMn M') (bytes := xMc M') (maxL := xMl M') ⟨hC.1.1, hC.1.2.1, hC.2.1, hC.1.2.2.1, hts⟩ hM ⟨callB_of (ws' := xgt) (xMn M') hts (xgt_in' (xWs_in hM')) (by rw [xWs, w2]) rfl rfl (hts _ hM'.2.1) (hts _ w4) hM'.2.2.1 r1, w1, hts _ w3⟩ hpp rfl (by rw [List.length_map]; exact hn) hl.1 (by rw [hst, List.map_append, List.map_reverse]; rfl) (lv_room (by rw [xsum_ok]; exact hrest)) hd r2
  · exact va_runIN (As := avs.map (xdv b ρ sa)) (b := b + i) (n := xMn M') (bytes := xMc M') (maxL := xMl M') (host := host) ⟨hC.1.1, hC.1.2.1, hC.2.1, hC.1.2.2.1, hts⟩ hM ⟨va_cnB (ws' := xgt) (xMn M') hts (xgt_in' (xWs_in hM')) (by rw [xWs, w2]) rfl rfl (hE.2.2 s hC.2.2.2.2.2.2.2.2.1 _ w4) (hts _ hM'.2.1) hM'.2.2.1 r1, w1, hts _ w3⟩ hpp rfl (by rw [List.length_map]; exact hn) hl.1 (by rw [hst, List.map_append, List.map_reverse]; rfl) (lv_room (by rw [xsum_ok]; exact hrest)) hd r2
end XD
end
section
section XE
variable {al : Bool} {b : Nat} {ρ : Nat → Int32} {sa : Nat → Nat} {dA : Nat → ClassId} {D : va_G} {M : xM} {p : Program} {l : Launch} {e : Env} {s : State} {m : MethodId} {args : Array Value} {below : List Frame} {meth : Method} {c : Code} {A : Nat → Prop} {Qc : Array Value → State → Outcome → State → Prop} {EX : State → Prop}
variable {mt : List xM} {ds : xD} {rec : xRec} {call : xCal} {pc nx : Nat} {lv : xL} {st : List xV} {K : xH} {ce sl : Nat} {κ : xK} {Ls : List xR}
abbrev xSndC (al : Bool) (b : Nat) (ρ : Nat → Int32) (sa : Nat → Nat) (dA : Nat → ClassId) (D : va_G) (EX : State → Prop) (l : Launch) (mt : List xM) (call : xCal) : Prop :=
  ∀ (mi : Nat) (M' : xM) (avs : List xV) (K : xH) (κ : xK) (Lc : List xR), mt[mi]? = some M' → call M' avs K κ = some Lc → xsum avs ≤ xMl M' → xKok ρ κ → ∀ sz, b ≤ sz → xMet al b ρ sa dA D EX l M' avs K Lc sz
theorem xsum_app (a : List xV) : ∀ c : List xV, xsum (c ++ a) = xsum c + xsum a
  | [] => by simp [xsum]
  | v :: r => by simp [xsum, xsum_app a r, Nat.add_assoc]
theorem xsum_rev : ∀ a : List xV, xsum a.reverse = xsum a
  | [] => rfl
  | v :: r => by
    rw [List.reverse_cons, xsum_app, xsum_rev r]
    simp [xsum, Nat.add_comm]
theorem xcall_un {M' : xM} {n0 mi : Nat} (hmi : mt[mi]? = some M') (h : xh_call mt M rec call n0 nx mi lv st K ce sl κ = some Ls) : xMn M' + n0 ≤ st.length ∧ xroom (xMm M) M' ce sl = true ∧ xsum (st.drop (xMn M' + n0)) ≤ 8 ∧ xsum (st.take (xMn M' + n0)) ≤ xMl M' ∧ ∃ Lc, call M' (st.take (xMn M' + n0)).reverse K κ = some Lc ∧ ∀ lf ∈ Lc, ∃ L, rec nx lv (xput (st.drop (xMn M' + n0)) lf.2.1) lf.2.2 (ce + (xMm M').cells) (sl + (xMm M').slots) lf.1 = some L ∧ ∀ q ∈ L, q ∈ Ls := by
  simp only [xh_call, hmi] at h
  split at h
  · next hc =>
    simp only [Bool.and_eq_true, Nat.ble_eq] at hc
    obtain ⟨h1, h2, h3, h4⟩ := hc
    split at h
    · cases h
    · next L hL => exact ⟨h1, h2, h3, h4, L, hL, fun lf hlf => xall_ok h lf hlf⟩
  · cases h
theorem xcallS_ok (hC : xCtx b dA D M p s m args meth c A EX) (hE : xEok b EX) (hmt : ∀ (mi : Nat) (M' : xM), mt[mi]? = some M' → xMok mt M') (hr : xSnd al b ρ sa dA D M p l e s m args below meth c A Qc rec) (hcl : xSndC al b ρ sa dA D EX l mt call) {mi : Nat} {M' : xM} (hmi : mt[mi]? = some M') (hc : xcS M pc M') (h : xh_call mt M rec call 0 (pc + 3) mi lv st K ce sl κ = some Ls) : xGood al b ρ sa dA D M p l e s m args below meth c A Qc pc lv st K ce sl κ Ls := by
  obtain ⟨h1, h2, h3, h4, Lc, h5, h6⟩ := xcall_un hmi h
  rw [Nat.add_zero] at h1 h3 h4 h5 h6
  have hst : st = ((st.take (xMn M')).reverse).reverse ++ st.drop (xMn M') := by rw [List.reverse_reverse, List.take_append_drop]
  exact xp_call hC hr (fun H locs ls hl hP hS hz hκ => xp_runS hC hE (hmt mi M' hmi) hc h2 hst (by rw [List.length_reverse, List.length_take, Nat.min_eq_left h1]) h3 (fun hκ => hcl mi M' _ K κ Lc hmi h5 (by rw [xsum_rev]; exact h4) hκ) H locs ls hl hP hS hz hκ) h6
theorem xsplit {n i : Nat} {r : List xV} (h : st.drop n = (1, i) :: r) (hl : n + 1 ≤ st.length) : st = ((st.take n).reverse).reverse ++ (1, i) :: r ∧ st.drop (n + 1) = r ∧ (st.take (n + 1)).reverse = (1, i) :: (st.take n).reverse ∧ ((st.take n).reverse).length = n := by
  refine ⟨?_, ?_, ?_, ?_⟩
  · rw [List.reverse_reverse, ← h, List.take_append_drop]
  · rw [← List.drop_drop, h]
    rfl
  · have e : st.take (n + 1) = st.take n ++ [(1, i)] := by
      rw [List.take_add, h]
      rfl
    rw [e, List.reverse_append]
    rfl
  · rw [List.length_reverse, List.length_take]
    omega
theorem xcallV_ok (hC : xCtx b dA D M p s m args meth c A EX) (hE : xEok b EX) (hmt : ∀ (mi : Nat) (M' : xM), mt[mi]? = some M' → xMok mt M') (hr : xSnd al b ρ sa dA D M p l e s m args below meth c A Qc rec) (hcl : xSndC al b ρ sa dA D EX l mt call) {mi i ci : Nat} {M' : xM} {r fs : List xV} {q : vw_C} (hmi : mt[mi]? = some M') (hc : xcV M pc M') (hKi : K[i]? = some (.inr (ci, fs))) (hq : vwCl[ci]? = some q) (hqn : q.1 = (xMy M').cls) (hd : st.drop (xMn M') = (1, i) :: r) (h : xh_call mt M rec call 1 (pc + 3) mi lv st K ce sl κ = some Ls) : xGood al b ρ sa dA D M p l e s m args below meth c A Qc pc lv st K ce sl κ Ls := by
  obtain ⟨h1, h2, h3, h4, Lc, h5, h6⟩ := xcall_un hmi h
  obtain ⟨s1, s2, s3, s4⟩ := xsplit hd h1
  rw [s2] at h3 h6
  have h7 : xsum (st.take (xMn M' + 1)).reverse ≤ xMl M' := by rw [xsum_rev]; exact h4
  rw [s3] at h5 h7
  exact xp_call hC hr (fun H locs ls hl hP hS hz hκ => xp_runV hC hE (hmt mi M' hmi) hc h2 hKi hq hqn s1 s4 h3 (fun hκ => hcl mi M' _ K κ Lc hmi h5 h7 hκ) H locs ls hl hP hS hz hκ) h6
theorem xcallI_ok (hC : xCtx b dA D M p s m args meth c A EX) (hE : xEok b EX) (hmt : ∀ (mi : Nat) (M' : xM), mt[mi]? = some M' → xMok mt M') (hr : xSnd al b ρ sa dA D M p l e s m args below meth c A Qc rec) (hcl : xSndC al b ρ sa dA D EX l mt call) {mi i : Nat} {M' : xM} {r : List xV} (hmi : mt[mi]? = some M') (hc : xcI M pc M') (hd : st.drop (xMn M') = (1, i) :: r) (h : xh_call mt M rec call 1 (pc + 3) mi lv st K ce sl κ = some Ls) : xGood al b ρ sa dA D M p l e s m args below meth c A Qc pc lv st K ce sl κ Ls := by
  obtain ⟨h1, h2, h3, h4, Lc, h5, h6⟩ := xcall_un hmi h
  obtain ⟨s1, s2, s3, s4⟩ := xsplit hd h1
  rw [s2] at h3 h6
  have h7 : xsum (st.take (xMn M' + 1)).reverse ≤ xMl M' := by rw [xsum_rev]; exact h4
  rw [s3] at h5 h7
  exact xp_call hC hr (fun H locs ls hl hP hS hz hκ => xp_runI hC hE (hmt mi M' hmi) hc h2 s1 s4 h3 (fun hκ => hcl mi M' _ K κ Lc hmi h5 h7 hκ) H locs ls hl hP hS hz hκ) h6
theorem xne0 {n : Nat} (h : 0 < n) (h2 : n < 4294967296) : ¬ nI n = 0 := by
  intro e
  have h3 := sgI_nI h2
  rw [e, show (0 : Int32) = nI 0 from rfl, sgI_nI (by decide)] at h3
  simp only [xsg] at h3
  omega
theorem xdivne {o x y z : Nat} (h : xbin o x y = some z) (ho : o = 9 ∨ o = 10) : ¬ nI y = 0 := by
  rcases ho with rfl | rfl <;>
  · simp only [xbin] at h
    split at h
    · next hc =>
      simp only [Bool.and_eq_true, Nat.blt_eq] at hc
      exact xne0 hc.1.1 (by omega)
    · cases h
theorem xlcmp {x y : Nat} (hx : x < 9223372036854775808) (hy : y < 9223372036854775808) : lg_cmp (lN x) (lN y) = nI (if Nat.blt y x then 1 else if Nat.beq x y then 0 else 4294967295) := by
  have h1 := pk_lLT hy hx
  have h2 := pk_lEQ hx hy
  simp only [lg_cmp, gt_iff_lt, h1, h2]
  by_cases a : y < x
  · have e1 : Nat.blt y x = true := by rw [Nat.blt_eq]; exact a
    rw [if_pos a, e1]
    rfl
  · have e1 : Nat.blt y x = false := by rw [← Bool.not_eq_true, Nat.blt_eq]; exact a
    rw [if_neg a, e1]
    by_cases d : x = y
    · have e2 : Nat.beq x y = true := by rw [Nat.beq_eq]; exact d
      rw [if_pos d, e2]
      rfl
    · have e2 : Nat.beq x y = false := by rw [← Bool.not_eq_true, Nat.beq_eq]; exact d
      rw [if_neg d, e2]
      decide +kernel
set_option maxHeartbeats 4000000 in
theorem xstep_ok (hC : xCtx b dA D M p s m args meth c A EX) (hE : xEok b EX) (hds : xdok ρ ds) (hmt : ∀ (mi : Nat) (M' : xM), mt[mi]? = some M' → xMok mt M') (hr : xSnd al b ρ sa dA D M p l e s m args below meth c A Qc rec) (hcl : xSndC al b ρ sa dA D EX l mt call) {op : xOp} (hok : xok mt M pc op) (h : xstep mt ds al M rec call op lv st K ce sl κ = some Ls) : xGood al b ρ sa dA D M p l e s m args below meth c A Qc pc lv st K ce sl κ Ls := by
  obtain ⟨tg, nx, a, d, cs⟩ := op
  match tg, hok, h with
  | 0, hok, h => exact xp_T hC hr (st0 := []) (st1 := [(0, a)]) hok h
  | 1, hok, h => exact xp_T hC hr (st0 := []) (st1 := [(4, a)]) hok h
  | 2, hok, h =>
    simp only [xstep] at h
    split at h
    · cases h
    · next v hv =>
      split at h
      · next hk => exact xp_load hC hr hok.1 hok.2 hv hk h
      · cases h
  | 3, hok, h =>
    match st, h with
    | v :: st', h =>
      simp only [xstep] at h
      split at h
      · next hc =>
        simp only [Bool.and_eq_true, Nat.blt_eq] at hc
        exact xp_store hC hr hok.1 hok.2 hc.1 hc.2 h
      · cases h
  | 4, hok, h =>
    simp only [xstep] at h
    split at h
    · next x hv =>
      split at h
      · next hi =>
        rw [Nat.blt_eq] at hi
        exact xp_iinc hC hr hok hv hi h
      · cases h
    · cases h
  | 5, hok, h =>
    match st, h with
    | y :: x :: st', h =>
      simp only [xstep] at h
      split at h
      · next y' x' hy hx =>
        split at h
        · cases h
        · next z hz =>
          refine xp_bin hC hr (o := a) hok (fun hκ => ?_) h
          have ex := xnm_ok hκ (b := b) (sa := sa) x
          have ey := xnm_ok hκ (b := b) (sa := sa) y
          rw [hx] at ex
          rw [hy] at ey
          refine ⟨?_, ?_, ?_, fun ho => ?_⟩
          · rw [← ex.1, ← ex.2]; rfl
          · rw [← ey.1, ← ey.2]; rfl
          · rw [← ex.2, ← ey.2]
            show Value.int (nI z) = .int (fbin a (nI x') (nI y'))
            rw [xbin_ok hz]
          · rw [← ey.2]
            exact xdivne hz ho
      · next y' x' _ =>
        split at h
        · next hc =>
          simp only [Bool.and_eq_true, Nat.blt_eq] at hc
          split at h
          · cases h
          · next k hk =>
            refine xp_bin hC hr (o := a) hok (fun hκ => ?_) h
            have ex := xnm_ok hκ (b := b) (sa := sa) x
            have ey := xnm_ok hκ (b := b) (sa := sa) y
            obtain ⟨i, e1, e2⟩ := xidx_ok hk
            rw [Nat.zero_add] at e1
            subst e1
            have hd := hds _ _ _ _ e2 (by omega)
            rw [xfd, if_neg (by omega)] at hd
            refine ⟨?_, ?_, ?_, fun ho => by omega⟩
            · rw [← ex.1, ← ex.2]; exact xk0 hc.2.1
            · rw [← ey.1, ← ey.2]; exact xk0 hc.1
            · rw [← ex.2, ← ey.2]
              show Value.int (ρ k) = _
              rw [hd]
        · cases h
  | 6, hok, h =>
    match st, h with
    | x :: st', h =>
      simp only [xstep] at h
      split at h
      · next hx =>
        split at h
        · cases h
        · next k hk =>
          obtain ⟨i, e1, e2⟩ := xidx_ok hk
          rw [Nat.zero_add] at e1
          subst e1
          have hd := hds _ _ _ _ e2 (by omega)
          rw [xfd, if_pos rfl] at hd
          refine xp_T hC hr (st0 := [x]) (st1 := [(3, k)]) ?_ h
          have := hok (xdi ρ x)
          rw [← hd] at this
          rw [show [x].map (xdv b ρ sa) = [.int (xdi ρ x)] by rw [← xk0 hx (b := b) (sa := sa)]; rfl]
          exact this
      · cases h
  | 7, hok, h =>
    match st, h with
    | (4, y) :: (4, x) :: st', h =>
      simp only [xstep] at h
      split at h
      · cases h
      · next z hz =>
        refine xp_T hC hr (st0 := [(4, y), (4, x)]) (st1 := [(4, z)]) ?_ h
        have := hok (lN x) (lN y)
        dsimp only at this
        rw [xlb_ok hz] at this
        exact this
  | 8, hok, h =>
    match st, h with
    | (4, y) :: (4, x) :: st', h =>
      simp only [xstep] at h
      split at h
      · next hc =>
        simp only [Bool.and_eq_true, Nat.blt_eq] at hc
        refine xp_T hC hr (st0 := [(4, y), (4, x)]) (st1 := [(0, _)]) ?_ h
        have := hok (lN x) (lN y)
        rw [xlcmp hc.1 hc.2] at this
        exact this
      · cases h
  | 9, hok, h =>
    match st, h with
    | v :: st', h =>
      simp only [xstep] at h
      split at h
      · next hc =>
        rw [Nat.beq_eq] at hc
        exact xp_T hC hr (st0 := [v]) (st1 := [v, v]) (hok _ (by rw [xcat_ok]; exact hc)) h
      · cases h
  | 10, hok, h =>
    match st, h with
    | v :: st', h =>
      simp only [xstep] at h
      split at h
      · next hc =>
        rw [Nat.beq_eq] at hc
        exact xp_T hC hr (st0 := [v]) (st1 := []) (hok _ (by rw [xcat_ok]; exact hc)) h
      · cases h
  | 11, hok, h =>
    match st, h with
    | v :: w :: st', h =>
      simp only [xstep] at h
      split at h
      · next hc =>
        simp only [Bool.and_eq_true, Nat.beq_eq] at hc
        exact xp_T hC hr (st0 := [v, w]) (st1 := [v, w, v, w]) (hok _ _ (by rw [xcat_ok]; exact hc.1) (by rw [xcat_ok]; exact hc.2)) h
      · cases h
  | 12, hok, h =>
    match st, h with
    | x :: st', h =>
      simp only [xstep] at h
      split at h
      · next hx => exact xp_fork0 hC hr hok hx h
      · cases h
  | 13, hok, h =>
    match st, h with
    | y :: x :: st', h =>
      simp only [xstep] at h
      split at h
      · next hx =>
        simp only [Bool.and_eq_true] at hx
        exact xp_fork hC hr hok hx.1 hx.2 h
      · cases h
  | 14, hok, h => exact xp_T hC hr (st0 := []) (st1 := []) hok h
  | 15, hok, h =>
    match st, h with
    | x :: st', h =>
      simp only [xstep] at h
      split at h
      · next hx => exact xp_sw hC hr hok hx h
      · cases h
  | 16, hok, h =>
    match st, h with
    | (1, i) :: st', h =>
      simp only [xstep] at h
      split at h
      · next ci fs hK =>
        split at h
        · next he =>
          rw [Nat.beq_eq] at he
          rw [he] at hK
          split at h
          · cases h
          · next v hv => exact xp_getf hC hr hok hK hv h
        · cases h
      · cases h
  | 17, hok, h =>
    match st, h with
    | v :: (1, i) :: st', h =>
      obtain ⟨ty, fin, z, e1, e2, e3⟩ := hok
      dsimp only at e1
      subst e1
      simp only [xstep] at h
      split at h
      · next ci fs hK =>
        split at h
        · next he =>
          simp only [Bool.and_eq_true, Nat.beq_eq, Nat.blt_eq] at he
          obtain ⟨h1, h2, h3⟩ := he
          rw [h1] at hK h
          exact xp_putf hC hr e2 e3 h2 h3 hK h
        · cases h
      · cases h
  | 18, hok, h =>
    match st, h with
    | (1, i) :: st', h =>
      simp only [xstep] at h
      split at h
      · next t vs hK =>
        split at h
        · next ht =>
          rw [Nat.blt_eq] at ht
          exact xp_alen hC hr hok ht hK h
        · cases h
      · cases h
  | 19, hok, h =>
    match st, h with
    | j :: (1, i) :: st', h =>
      simp only [xstep] at h
      split at h
      · next t vs n hK hj =>
        split at h
        · next hc =>
          simp only [Bool.and_eq_true, Nat.beq_eq, Nat.blt_eq] at hc
          obtain ⟨h1, hn⟩ := hc
          rw [h1] at hK
          split at h
          · cases h
          · next v hv =>
            split at h
            · next hk => exact xp_read hC hr hok.1 hok.2 hj hn hK hv hk h
            · cases h
        · cases h
      · cases h
  | 20, hok, h =>
    match st, h with
    | j :: (1, i) :: st', h =>
      simp only [xstep] at h
      split at h
      · next vs n hK hj =>
        split at h
        · next hn =>
          rw [Nat.blt_eq] at hn
          split at h
          · next q hv => exact xp_readr hC hr hok hj hn hK hv h
          · cases h
        · cases h
      · cases h
  | 21, hok, h =>
    match st, h with
    | v :: j :: (1, i) :: st', h =>
      simp only [xstep] at h
      split at h
      · next t vs n hK hj =>
        split at h
        · next hc =>
          simp only [Bool.and_eq_true, Nat.beq_eq, Nat.blt_eq] at hc
          obtain ⟨h1, hn, hl, hv⟩ := hc
          obtain ⟨w1, w2, w3⟩ := xwok_ok hds hv
          rw [h1] at hK h w1 w3
          exact xp_write hC hr w1 hok hj hn hK hl w2 w3 h
        · cases h
      · cases h
  | 22, hok, h =>
    simp only [xstep] at h
    split at h
    · next hc =>
      simp only [Bool.and_eq_true, Nat.blt_eq, Nat.ble_eq] at hc
      exact xp_new hC hr hok hc.1 hc.2.1 hc.2.2.1 hc.2.2.2 h
    · cases h
  | 23, hok, h =>
    match st, h with
    | (0, n) :: st', h =>
      simp only [xstep] at h
      split at h
      · next hc =>
        simp only [Bool.and_eq_true, Nat.blt_eq, Nat.ble_eq] at hc
        exact xp_newa hC hr hok.1 hok.2 hc.1 hc.2.1 hc.2.2.1 hc.2.2.2 h
      · cases h
  | 25, hok, h =>
    match st, h with
    | (1, i) :: st', h =>
      simp only [xstep] at h
      split at h
      · next hc =>
        simp only [Bool.and_eq_true, Nat.ble_eq] at hc
        exact xp_oinit hC hr hok hc.1 hc.2 h
      · cases h
  | 26, hok, h =>
    match st, h with
    | (0, n) :: (0, dp) :: (1, d0) :: (0, sp) :: (1, s0) :: st', h =>
      simp only [xstep] at h
      split at h
      · next vs ws hKs hKd =>
        split at h
        · next hc =>
          simp only [Bool.and_eq_true, Nat.ble_eq, Nat.blt_eq] at hc
          obtain ⟨c1, c2, c3, c4, c5, c6⟩ := hc
          exact xp_copy hC hr hok hKs hKd c1 c2 c3 c4 c5 c6 h
        · cases h
      · cases h
  | 27, hok, h =>
    obtain ⟨e1, M', hmi, hc⟩ := hok
    dsimp only at e1 hmi
    subst e1
    exact xcallS_ok hC hE hmt hr hcl hmi hc h
  | 28, hok, h =>
    obtain ⟨e1, M', hmi, hc, q, hq, hqn⟩ := hok
    dsimp only at e1 hmi hq
    subst e1
    simp only [xstep, hmi] at h
    split at h
    · next i r hd =>
      split at h
      · next ci fs hK =>
        split at h
        · next he =>
          rw [Nat.beq_eq] at he
          rw [he] at hK
          exact xcallV_ok hC hE hmt hr hcl hmi hc hK hq hqn hd h
        · cases h
      · cases h
    · cases h
  | 29, hok, h =>
    obtain ⟨e1, M', hmi, hc⟩ := hok
    dsimp only at e1 hmi
    subst e1
    simp only [xstep, hmi] at h
    split at h
    · next i r hd => exact xcallI_ok hC hE hmt hr hcl hmi hc hd h
    · cases h
  | 30, hok, h =>
    match st, h with
    | [v], h =>
      obtain ⟨hd, ty, h1, h2, h3⟩ := hok
      dsimp only at h2
      simp only [xstep] at h
      split at h
      · next hc =>
        simp only [Bool.and_eq_true, Nat.ble_eq] at hc
        cases h
        rw [← h2] at hc
        exact xp_iret hC hd h1 h3 hc.1 hc.2.1 hc.2.2
      · cases h
  | 31, hok, h =>
    match st, h with
    | [v], h =>
      simp only [xstep] at h
      split at h
      · next hc =>
        simp only [Bool.and_eq_true, Nat.ble_eq] at hc
        cases h
        exact xp_lret hC hok.1 hok.2 hc.1 hc.2.1 hc.2.2
      · cases h
  | 32, hok, h =>
    match st, h with
    | [], h =>
      simp only [xstep] at h
      split at h
      · next hc =>
        simp only [Bool.and_eq_true, Nat.ble_eq] at hc
        cases h
        exact xp_vret hC hok.1 hok.2 hc.1 hc.2
      · cases h
  | 24, hok, h => cases h
  | n + 33, hok, h => cases h
end XE
end
section
section XF
variable {al : Bool} {b : Nat} {ρ : Nat → Int32} {sa : Nat → Nat} {dA : Nat → ClassId} {D : va_G} {l : Launch} {EX : State → Prop} {mt : List xM} {ds : xD}
/-- a method's contract out of the run of its body -/
theorem xMet_of {M : xM} (hM : xMok mt M) {avs : List xV} {K : xH} {κ : xK} {Lc : List xR} (hs : xsum avs ≤ xMl M) (hκ : xKok ρ κ) {sz : Nat} (hb : b ≤ sz)
    (hrun : ∀ (p : Program) (e : Env) (s : State) (m : MethodId) (args : Array Value) (below : List Frame) (meth : Method) (c : Code) (A : Nat → Prop) (Qc : Array Value → State → Outcome → State → Prop), xCtx b dA D M p s m args meth c A EX → xGood al b ρ sa dA D M p l e s m args below meth c A Qc 0 (xargs 0 avs) [] K 0 0 κ Lc) : xMet al b ρ sa dA D EX l M avs K Lc sz := by
  refine Met.ofW (cc := xMc M) (maxL := xMl M) (ret := xMr M) hM.2.2.2.1 rfl ?_
  intro p e s m args below meth c s₁ B hml hv
  obtain ⟨rfl, hsz, hP, hK, hz, hEX⟩ := hv
  subst hsz
  have hts := atoms_spec (ws := xWs M) B.pre
  have hown : s.vm.findClass (xMy M).cls = some m.cls := findClass_of_methodNamed B.named
  have hC : xCtx b dA D M p s m (avs.map (xdv b ρ sa)).toArray meth c (xA b K.length s.heap.size) EX :=
    ⟨⟨B.exec, B.bytes, by rw [hM.2.2.2.2.1]; exact hown, fun w hw => hts w (List.mem_cons_of_mem _ hw)⟩, hml, hK, fun q h => Or.inr h, fun q h => by
      rcases h with h | h
      · exact h.1
      · omega, B.returns, B.notSynchronized, (name_of_methodNamed B.named B.method).1, hEX, hb⟩
  have hl := lv_entry (avs.map (xdv b ρ sa)) (n := xMl M) (by rw [xlen_ok]; exact hs)
  rw [xargs_ok] at hl
  rw [lg_entry_eq]
  exact hrun p e s m _ below meth c _ _ hC _ [] _ hl hP va_S.rf hz (fun i hi => Or.inl ⟨by omega, by omega⟩) hκ (fun lf hlf k1 t k2 k3 k4 k5 => ⟨lf, hlf, k1, rfl, k2, k3, k4, k5⟩)
theorem xe_ok (hE : xEok b EX) (hds : xdok ρ ds) (hmt : ∀ (mi : Nat) (M' : xM), mt[mi]? = some M' → xMok mt M') : ∀ (n : Nat) (mi : Nat) (M : xM), mt[mi]? = some M → ∀ (p : Program) (e : Env) (s : State) (m : MethodId) (args : Array Value) (below : List Frame) (meth : Method) (c : Code) (A : Nat → Prop) (Qc : Array Value → State → Outcome → State → Prop), xCtx b dA D M p s m args meth c A EX → xSnd al b ρ sa dA D M p l e s m args below meth c A Qc (xe mt ds al n M) := by
  intro n
  induction n with
  | zero =>
    intro mi M hmi p e s m args below meth c A Qc hC pc lv st K ce sl κ Ls h
    cases h
  | succ n ih =>
    intro mi M hmi p e s m args below meth c A Qc hC pc lv st K ce sl κ Ls h
    rw [xe_succ] at h
    simp only [xgo] at h
    split at h
    · cases h
    · next op hop =>
      refine xstep_ok hC hE hds hmt (ih mi M hmi p e s m args below meth c A Qc hC) (fun mi' M' avs K κ Lc hmi' hc hs hκ sz hb => ?_) ((hmt mi M hmi).2.2.2.2.2 _ (xfind_mem hop)) h
      exact xMet_of (hmt mi' M' hmi') hs hκ hb (fun p e s m args below meth c A Qc hC => ih mi' M' hmi' p e s m args below meth c A Qc hC _ _ _ _ _ _ _ _ hc)
/-- THE CONTRACT of a method, by a run of it -/
theorem xmet (hE : xEok b EX) (hds : xdok ρ ds) (hmt : ∀ (mi : Nat) (M' : xM), mt[mi]? = some M' → xMok mt M') {n mi : Nat} {M : xM} (hmi : mt[mi]? = some M) {avs : List xV} {K : xH} {κ : xK} {Lc : List xR} (h : xe mt ds al n M 0 (xargs 0 avs) [] K 0 0 κ = some Lc) (hs : xsum avs ≤ xMl M) (hκ : xKok ρ κ) {sz : Nat} (hb : b ≤ sz) : xMet al b ρ sa dA D EX l M avs K Lc sz :=
  xMet_of (hmt mi M hmi) hs hκ hb (fun p e s m args below meth c A Qc hC => xe_ok hE hds hmt n mi M hmi p e s m args below meth c A Qc hC _ _ _ _ _ _ _ _ h)
end XF
end
section
theorem dX12_init_0 : decode cX12_init 0 = .ok (.aload_n 0, 1) := by decide +kernel
theorem dX12_init_1 : decode cX12_init 1 = .ok (.invokespecial 1, 3) := by decide +kernel
theorem dX12_init_4 : decode cX12_init 4 = .ok (.aload_n 0, 1) := by decide +kernel
theorem dX12_init_5 : decode cX12_init 5 = .ok (.sipush 800, 3) := by decide +kernel
theorem dX12_init_8 : decode cX12_init 8 = .ok (.newarray .int, 2) := by decide +kernel
theorem dX12_init_10 : decode cX12_init 10 = .ok (.putfield 7, 3) := by decide +kernel
theorem dX12_init_13 : decode cX12_init 13 = .ok (.aload_n 0, 1) := by decide +kernel
theorem dX12_init_14 : decode cX12_init 14 = .ok (.bipush 14, 2) := by decide +kernel
theorem dX12_init_16 : decode cX12_init 16 = .ok (.newarray .int, 2) := by decide +kernel
theorem dX12_init_18 : decode cX12_init 18 = .ok (.putfield 13, 3) := by decide +kernel
theorem dX12_init_21 : decode cX12_init 21 = .ok (.aload_n 0, 1) := by decide +kernel
theorem dX12_init_22 : decode cX12_init 22 = .ok (.bipush 6, 2) := by decide +kernel
theorem dX12_init_24 : decode cX12_init 24 = .ok (.newarray .int, 2) := by decide +kernel
theorem dX12_init_26 : decode cX12_init 26 = .ok (.putfield 16, 3) := by decide +kernel
theorem dX12_init_29 : decode cX12_init 29 = .ok (.aload_n 0, 1) := by decide +kernel
theorem dX12_init_30 : decode cX12_init 30 = .ok (.bipush 6, 2) := by decide +kernel
theorem dX12_init_32 : decode cX12_init 32 = .ok (.newarray .int, 2) := by decide +kernel
theorem dX12_init_34 : decode cX12_init 34 = .ok (.putfield 19, 3) := by decide +kernel
theorem dX12_init_37 : decode cX12_init 37 = .ok (.aload_n 0, 1) := by decide +kernel
theorem dX12_init_38 : decode cX12_init 38 = .ok (.bipush 6, 2) := by decide +kernel
theorem dX12_init_40 : decode cX12_init 40 = .ok (.newarray .int, 2) := by decide +kernel
theorem dX12_init_42 : decode cX12_init 42 = .ok (.putfield 22, 3) := by decide +kernel
theorem dX12_init_45 : decode cX12_init 45 = .ok (.aload_n 0, 1) := by decide +kernel
theorem dX12_init_46 : decode cX12_init 46 = .ok (.bipush 12, 2) := by decide +kernel
theorem dX12_init_48 : decode cX12_init 48 = .ok (.newarray .int, 2) := by decide +kernel
theorem dX12_init_50 : decode cX12_init 50 = .ok (.putfield 25, 3) := by decide +kernel
theorem dX12_init_53 : decode cX12_init 53 = .ok (.aload_n 0, 1) := by decide +kernel
theorem dX12_init_54 : decode cX12_init 54 = .ok (.bipush 12, 2) := by decide +kernel
theorem dX12_init_56 : decode cX12_init 56 = .ok (.newarray .int, 2) := by decide +kernel
theorem dX12_init_58 : decode cX12_init 58 = .ok (.putfield 28, 3) := by decide +kernel
theorem dX12_init_61 : decode cX12_init 61 = .ok (.aload_n 0, 1) := by decide +kernel
theorem dX12_init_62 : decode cX12_init 62 = .ok (.bipush 12, 2) := by decide +kernel
theorem dX12_init_64 : decode cX12_init 64 = .ok (.newarray .int, 2) := by decide +kernel
theorem dX12_init_66 : decode cX12_init 66 = .ok (.putfield 31, 3) := by decide +kernel
theorem dX12_init_69 : decode cX12_init 69 = .ok (.aload_n 0, 1) := by decide +kernel
theorem dX12_init_70 : decode cX12_init 70 = .ok (.bipush 12, 2) := by decide +kernel
theorem dX12_init_72 : decode cX12_init 72 = .ok (.newarray .boolean, 2) := by decide +kernel
theorem dX12_init_74 : decode cX12_init 74 = .ok (.putfield 34, 3) := by decide +kernel
theorem dX12_init_77 : decode cX12_init 77 = .ok (.aload_n 0, 1) := by decide +kernel
theorem dX12_init_78 : decode cX12_init 78 = .ok (.bipush 12, 2) := by decide +kernel
theorem dX12_init_80 : decode cX12_init 80 = .ok (.newarray .int, 2) := by decide +kernel
theorem dX12_init_82 : decode cX12_init 82 = .ok (.dup, 1) := by decide +kernel
theorem dX12_init_83 : decode cX12_init 83 = .ok (.iconst 0, 1) := by decide +kernel
theorem dX12_init_84 : decode cX12_init 84 = .ok (.iconst (-1), 1) := by decide +kernel
theorem dX12_init_85 : decode cX12_init 85 = .ok (.iastore, 1) := by decide +kernel
theorem dX12_init_86 : decode cX12_init 86 = .ok (.dup, 1) := by decide +kernel
theorem dX12_init_87 : decode cX12_init 87 = .ok (.iconst 1, 1) := by decide +kernel
theorem dX12_init_88 : decode cX12_init 88 = .ok (.iconst (-1), 1) := by decide +kernel
theorem dX12_init_89 : decode cX12_init 89 = .ok (.iastore, 1) := by decide +kernel
theorem dX12_init_90 : decode cX12_init 90 = .ok (.dup, 1) := by decide +kernel
theorem dX12_init_91 : decode cX12_init 91 = .ok (.iconst 2, 1) := by decide +kernel
theorem dX12_init_92 : decode cX12_init 92 = .ok (.iconst (-1), 1) := by decide +kernel
theorem dX12_init_93 : decode cX12_init 93 = .ok (.iastore, 1) := by decide +kernel
theorem dX12_init_94 : decode cX12_init 94 = .ok (.dup, 1) := by decide +kernel
theorem dX12_init_95 : decode cX12_init 95 = .ok (.iconst 3, 1) := by decide +kernel
theorem dX12_init_96 : decode cX12_init 96 = .ok (.iconst (-1), 1) := by decide +kernel
theorem dX12_init_97 : decode cX12_init 97 = .ok (.iastore, 1) := by decide +kernel
theorem dX12_init_98 : decode cX12_init 98 = .ok (.dup, 1) := by decide +kernel
theorem dX12_init_99 : decode cX12_init 99 = .ok (.iconst 4, 1) := by decide +kernel
theorem dX12_init_100 : decode cX12_init 100 = .ok (.iconst (-1), 1) := by decide +kernel
theorem dX12_init_101 : decode cX12_init 101 = .ok (.iastore, 1) := by decide +kernel
theorem dX12_init_102 : decode cX12_init 102 = .ok (.dup, 1) := by decide +kernel
theorem dX12_init_103 : decode cX12_init 103 = .ok (.iconst 5, 1) := by decide +kernel
theorem dX12_init_104 : decode cX12_init 104 = .ok (.iconst (-1), 1) := by decide +kernel
theorem dX12_init_105 : decode cX12_init 105 = .ok (.iastore, 1) := by decide +kernel
theorem dX12_init_106 : decode cX12_init 106 = .ok (.dup, 1) := by decide +kernel
theorem dX12_init_107 : decode cX12_init 107 = .ok (.bipush 6, 2) := by decide +kernel
theorem dX12_init_109 : decode cX12_init 109 = .ok (.iconst (-1), 1) := by decide +kernel
theorem dX12_init_110 : decode cX12_init 110 = .ok (.iastore, 1) := by decide +kernel
theorem dX12_init_111 : decode cX12_init 111 = .ok (.dup, 1) := by decide +kernel
theorem dX12_init_112 : decode cX12_init 112 = .ok (.bipush 7, 2) := by decide +kernel
theorem dX12_init_114 : decode cX12_init 114 = .ok (.iconst (-1), 1) := by decide +kernel
theorem dX12_init_115 : decode cX12_init 115 = .ok (.iastore, 1) := by decide +kernel
theorem dX12_init_116 : decode cX12_init 116 = .ok (.dup, 1) := by decide +kernel
theorem dX12_init_117 : decode cX12_init 117 = .ok (.bipush 8, 2) := by decide +kernel
theorem dX12_init_119 : decode cX12_init 119 = .ok (.iconst (-1), 1) := by decide +kernel
theorem dX12_init_120 : decode cX12_init 120 = .ok (.iastore, 1) := by decide +kernel
theorem dX12_init_121 : decode cX12_init 121 = .ok (.dup, 1) := by decide +kernel
theorem dX12_init_122 : decode cX12_init 122 = .ok (.bipush 9, 2) := by decide +kernel
theorem dX12_init_124 : decode cX12_init 124 = .ok (.iconst (-1), 1) := by decide +kernel
theorem dX12_init_125 : decode cX12_init 125 = .ok (.iastore, 1) := by decide +kernel
theorem dX12_init_126 : decode cX12_init 126 = .ok (.dup, 1) := by decide +kernel
theorem dX12_init_127 : decode cX12_init 127 = .ok (.bipush 10, 2) := by decide +kernel
theorem dX12_init_129 : decode cX12_init 129 = .ok (.iconst (-1), 1) := by decide +kernel
theorem dX12_init_130 : decode cX12_init 130 = .ok (.iastore, 1) := by decide +kernel
theorem dX12_init_131 : decode cX12_init 131 = .ok (.dup, 1) := by decide +kernel
theorem dX12_init_132 : decode cX12_init 132 = .ok (.bipush 11, 2) := by decide +kernel
theorem dX12_init_134 : decode cX12_init 134 = .ok (.iconst (-1), 1) := by decide +kernel
theorem dX12_init_135 : decode cX12_init 135 = .ok (.iastore, 1) := by decide +kernel
theorem dX12_init_136 : decode cX12_init 136 = .ok (.putfield 38, 3) := by decide +kernel
theorem dX12_init_139 : decode cX12_init 139 = .ok (.aload_n 0, 1) := by decide +kernel
theorem dX12_init_140 : decode cX12_init 140 = .ok (.bipush 12, 2) := by decide +kernel
theorem dX12_init_142 : decode cX12_init 142 = .ok (.newarray .int, 2) := by decide +kernel
theorem dX12_init_144 : decode cX12_init 144 = .ok (.putfield 41, 3) := by decide +kernel
theorem dX12_init_147 : decode cX12_init 147 = .ok (.aload_n 0, 1) := by decide +kernel
theorem dX12_init_148 : decode cX12_init 148 = .ok (.bipush 12, 2) := by decide +kernel
theorem dX12_init_150 : decode cX12_init 150 = .ok (.newarray .int, 2) := by decide +kernel
theorem dX12_init_152 : decode cX12_init 152 = .ok (.putfield 44, 3) := by decide +kernel
theorem dX12_init_155 : decode cX12_init 155 = .ok (.aload_n 0, 1) := by decide +kernel
theorem dX12_init_156 : decode cX12_init 156 = .ok (.bipush 8, 2) := by decide +kernel
theorem dX12_init_158 : decode cX12_init 158 = .ok (.newarray .int, 2) := by decide +kernel
theorem dX12_init_160 : decode cX12_init 160 = .ok (.putfield 47, 3) := by decide +kernel
theorem dX12_init_163 : decode cX12_init 163 = .ok (.aload_n 0, 1) := by decide +kernel
theorem dX12_init_164 : decode cX12_init 164 = .ok (.bipush 8, 2) := by decide +kernel
theorem dX12_init_166 : decode cX12_init 166 = .ok (.newarray .int, 2) := by decide +kernel
theorem dX12_init_168 : decode cX12_init 168 = .ok (.putfield 50, 3) := by decide +kernel
theorem dX12_init_171 : decode cX12_init 171 = .ok (.aload_n 0, 1) := by decide +kernel
theorem dX12_init_172 : decode cX12_init 172 = .ok (.bipush 24, 2) := by decide +kernel
theorem dX12_init_174 : decode cX12_init 174 = .ok (.newarray .int, 2) := by decide +kernel
theorem dX12_init_176 : decode cX12_init 176 = .ok (.putfield 53, 3) := by decide +kernel
theorem dX12_init_179 : decode cX12_init 179 = .ok (.aload_n 0, 1) := by decide +kernel
theorem dX12_init_180 : decode cX12_init 180 = .ok (.sipush 192, 3) := by decide +kernel
theorem dX12_init_183 : decode cX12_init 183 = .ok (.newarray .int, 2) := by decide +kernel
theorem dX12_init_185 : decode cX12_init 185 = .ok (.putfield 56, 3) := by decide +kernel
theorem dX12_init_188 : decode cX12_init 188 = .ok (.aload_n 0, 1) := by decide +kernel
theorem dX12_init_189 : decode cX12_init 189 = .ok (.bipush 6, 2) := by decide +kernel
theorem dX12_init_191 : decode cX12_init 191 = .ok (.newarray .int, 2) := by decide +kernel
theorem dX12_init_193 : decode cX12_init 193 = .ok (.putfield 59, 3) := by decide +kernel
theorem dX12_init_196 : decode cX12_init 196 = .ok (.aload_n 0, 1) := by decide +kernel
theorem dX12_init_197 : decode cX12_init 197 = .ok (.bipush 6, 2) := by decide +kernel
theorem dX12_init_199 : decode cX12_init 199 = .ok (.newarray .int, 2) := by decide +kernel
theorem dX12_init_201 : decode cX12_init 201 = .ok (.putfield 62, 3) := by decide +kernel
theorem dX12_init_204 : decode cX12_init 204 = .ok (.aload_n 0, 1) := by decide +kernel
theorem dX12_init_205 : decode cX12_init 205 = .ok (.bipush 10, 2) := by decide +kernel
theorem dX12_init_207 : decode cX12_init 207 = .ok (.newarray .int, 2) := by decide +kernel
theorem dX12_init_209 : decode cX12_init 209 = .ok (.putfield 65, 3) := by decide +kernel
theorem dX12_init_212 : decode cX12_init 212 = .ok (.aload_n 0, 1) := by decide +kernel
theorem dX12_init_213 : decode cX12_init 213 = .ok (.bipush 10, 2) := by decide +kernel
theorem dX12_init_215 : decode cX12_init 215 = .ok (.newarray .int, 2) := by decide +kernel
theorem dX12_init_217 : decode cX12_init 217 = .ok (.putfield 68, 3) := by decide +kernel
theorem dX12_init_220 : decode cX12_init 220 = .ok (.aload_n 0, 1) := by decide +kernel
theorem dX12_init_221 : decode cX12_init 221 = .ok (.sipush 128, 3) := by decide +kernel
theorem dX12_init_224 : decode cX12_init 224 = .ok (.newarray .int, 2) := by decide +kernel
theorem dX12_init_226 : decode cX12_init 226 = .ok (.putfield 71, 3) := by decide +kernel
theorem dX12_init_229 : decode cX12_init 229 = .ok (.aload_n 0, 1) := by decide +kernel
theorem dX12_init_230 : decode cX12_init 230 = .ok (.sipush 128, 3) := by decide +kernel
theorem dX12_init_233 : decode cX12_init 233 = .ok (.newarray .int, 2) := by decide +kernel
theorem dX12_init_235 : decode cX12_init 235 = .ok (.putfield 74, 3) := by decide +kernel
theorem dX12_init_238 : decode cX12_init 238 = .ok (.aload_n 0, 1) := by decide +kernel
theorem dX12_init_239 : decode cX12_init 239 = .ok (.iconst (-1), 1) := by decide +kernel
theorem dX12_init_240 : decode cX12_init 240 = .ok (.putfield 77, 3) := by decide +kernel
theorem dX12_init_243 : decode cX12_init 243 = .ok (.aload_n 0, 1) := by decide +kernel
theorem dX12_init_244 : decode cX12_init 244 = .ok (.iconst 2, 1) := by decide +kernel
theorem dX12_init_245 : decode cX12_init 245 = .ok (.newarray .int, 2) := by decide +kernel
theorem dX12_init_247 : decode cX12_init 247 = .ok (.putfield 81, 3) := by decide +kernel
theorem dX12_init_250 : decode cX12_init 250 = .ok (.aload_n 0, 1) := by decide +kernel
theorem dX12_init_251 : decode cX12_init 251 = .ok (.iconst 2, 1) := by decide +kernel
theorem dX12_init_252 : decode cX12_init 252 = .ok (.newarray .int, 2) := by decide +kernel
theorem dX12_init_254 : decode cX12_init 254 = .ok (.putfield 84, 3) := by decide +kernel
theorem dX12_init_257 : decode cX12_init 257 = .ok (.aload_n 0, 1) := by decide +kernel
theorem dX12_init_258 : decode cX12_init 258 = .ok (.iconst 2, 1) := by decide +kernel
theorem dX12_init_259 : decode cX12_init 259 = .ok (.newarray .int, 2) := by decide +kernel
theorem dX12_init_261 : decode cX12_init 261 = .ok (.putfield 87, 3) := by decide +kernel
theorem dX12_init_264 : decode cX12_init 264 = .ok (.aload_n 0, 1) := by decide +kernel
theorem dX12_init_265 : decode cX12_init 265 = .ok (.iconst 2, 1) := by decide +kernel
theorem dX12_init_266 : decode cX12_init 266 = .ok (.newarray .int, 2) := by decide +kernel
theorem dX12_init_268 : decode cX12_init 268 = .ok (.putfield 90, 3) := by decide +kernel
theorem dX12_init_271 : decode cX12_init 271 = .ok (.aload_n 0, 1) := by decide +kernel
theorem dX12_init_272 : decode cX12_init 272 = .ok (.iconst 2, 1) := by decide +kernel
theorem dX12_init_273 : decode cX12_init 273 = .ok (.newarray .int, 2) := by decide +kernel
theorem dX12_init_275 : decode cX12_init 275 = .ok (.putfield 93, 3) := by decide +kernel
theorem dX12_init_278 : decode cX12_init 278 = .ok (.aload_n 0, 1) := by decide +kernel
theorem dX12_init_279 : decode cX12_init 279 = .ok (.bipush 6, 2) := by decide +kernel
theorem dX12_init_281 : decode cX12_init 281 = .ok (.newarray .int, 2) := by decide +kernel
theorem dX12_init_283 : decode cX12_init 283 = .ok (.putfield 96, 3) := by decide +kernel
theorem dX12_init_286 : decode cX12_init 286 = .ok (.aload_n 0, 1) := by decide +kernel
theorem dX12_init_287 : decode cX12_init 287 = .ok (.bipush 6, 2) := by decide +kernel
theorem dX12_init_289 : decode cX12_init 289 = .ok (.newarray .int, 2) := by decide +kernel
theorem dX12_init_291 : decode cX12_init 291 = .ok (.putfield 99, 3) := by decide +kernel
theorem dX12_init_294 : decode cX12_init 294 = .ok (.aload_n 0, 1) := by decide +kernel
theorem dX12_init_295 : decode cX12_init 295 = .ok (.bipush 12, 2) := by decide +kernel
theorem dX12_init_297 : decode cX12_init 297 = .ok (.newarray .int, 2) := by decide +kernel
theorem dX12_init_299 : decode cX12_init 299 = .ok (.putfield 102, 3) := by decide +kernel
theorem dX12_init_302 : decode cX12_init 302 = .ok (.aload_n 0, 1) := by decide +kernel
theorem dX12_init_303 : decode cX12_init 303 = .ok (.bipush 24, 2) := by decide +kernel
theorem dX12_init_305 : decode cX12_init 305 = .ok (.newarray .int, 2) := by decide +kernel
theorem dX12_init_307 : decode cX12_init 307 = .ok (.putfield 105, 3) := by decide +kernel
theorem dX12_init_310 : decode cX12_init 310 = .ok (.aload_n 0, 1) := by decide +kernel
theorem dX12_init_311 : decode cX12_init 311 = .ok (.iconst 2, 1) := by decide +kernel
theorem dX12_init_312 : decode cX12_init 312 = .ok (.newarray .int, 2) := by decide +kernel
theorem dX12_init_314 : decode cX12_init 314 = .ok (.putfield 108, 3) := by decide +kernel
theorem dX12_init_317 : decode cX12_init 317 = .ok (.aload_n 0, 1) := by decide +kernel
theorem dX12_init_318 : decode cX12_init 318 = .ok (.bipush 24, 2) := by decide +kernel
theorem dX12_init_320 : decode cX12_init 320 = .ok (.newarray .int, 2) := by decide +kernel
theorem dX12_init_322 : decode cX12_init 322 = .ok (.putfield 111, 3) := by decide +kernel
theorem dX12_init_325 : decode cX12_init 325 = .ok (.aload_n 0, 1) := by decide +kernel
theorem dX12_init_326 : decode cX12_init 326 = .ok (.bipush 24, 2) := by decide +kernel
theorem dX12_init_328 : decode cX12_init 328 = .ok (.newarray .int, 2) := by decide +kernel
theorem dX12_init_330 : decode cX12_init 330 = .ok (.putfield 114, 3) := by decide +kernel
theorem dX12_init_333 : decode cX12_init 333 = .ok (.aload_n 0, 1) := by decide +kernel
theorem dX12_init_334 : decode cX12_init 334 = .ok (.bipush 7, 2) := by decide +kernel
theorem dX12_init_336 : decode cX12_init 336 = .ok (.newarray .long, 2) := by decide +kernel
theorem dX12_init_338 : decode cX12_init 338 = .ok (.putfield 117, 3) := by decide +kernel
theorem dX12_init_341 : decode cX12_init 341 = .ok (.aload_n 0, 1) := by decide +kernel
theorem dX12_init_342 : decode cX12_init 342 = .ok (.bipush 64, 2) := by decide +kernel
theorem dX12_init_344 : decode cX12_init 344 = .ok (.newarray .long, 2) := by decide +kernel
theorem dX12_init_346 : decode cX12_init 346 = .ok (.putfield 121, 3) := by decide +kernel
theorem dX12_init_349 : decode cX12_init 349 = .ok (.aload_n 0, 1) := by decide +kernel
theorem dX12_init_350 : decode cX12_init 350 = .ok (.sipush 5000, 3) := by decide +kernel
theorem dX12_init_353 : decode cX12_init 353 = .ok (.newarray .int, 2) := by decide +kernel
theorem dX12_init_355 : decode cX12_init 355 = .ok (.putfield 124, 3) := by decide +kernel
theorem dX12_init_358 : decode cX12_init 358 = .ok (.aload_n 0, 1) := by decide +kernel
theorem dX12_init_359 : decode cX12_init 359 = .ok (.sipush 5000, 3) := by decide +kernel
theorem dX12_init_362 : decode cX12_init 362 = .ok (.newarray .int, 2) := by decide +kernel
theorem dX12_init_364 : decode cX12_init 364 = .ok (.putfield 127, 3) := by decide +kernel
theorem dX12_init_367 : decode cX12_init 367 = .ok (.aload_n 0, 1) := by decide +kernel
theorem dX12_init_368 : decode cX12_init 368 = .ok (.bipush 72, 2) := by decide +kernel
theorem dX12_init_370 : decode cX12_init 370 = .ok (.newarray .int, 2) := by decide +kernel
theorem dX12_init_372 : decode cX12_init 372 = .ok (.putfield 130, 3) := by decide +kernel
theorem dX12_init_375 : decode cX12_init 375 = .ok (.aload_n 0, 1) := by decide +kernel
theorem dX12_init_376 : decode cX12_init 376 = .ok (.bipush 72, 2) := by decide +kernel
theorem dX12_init_378 : decode cX12_init 378 = .ok (.newarray .int, 2) := by decide +kernel
theorem dX12_init_380 : decode cX12_init 380 = .ok (.putfield 133, 3) := by decide +kernel
theorem dX12_init_383 : decode cX12_init 383 = .ok (.aload_n 0, 1) := by decide +kernel
theorem dX12_init_384 : decode cX12_init 384 = .ok (.iconst 3, 1) := by decide +kernel
theorem dX12_init_385 : decode cX12_init 385 = .ok (.newarray .int, 2) := by decide +kernel
theorem dX12_init_387 : decode cX12_init 387 = .ok (.putfield 136, 3) := by decide +kernel
theorem dX12_init_390 : decode cX12_init 390 = .ok (.aload_n 0, 1) := by decide +kernel
theorem dX12_init_391 : decode cX12_init 391 = .ok (.iconst 3, 1) := by decide +kernel
theorem dX12_init_392 : decode cX12_init 392 = .ok (.newarray .int, 2) := by decide +kernel
theorem dX12_init_394 : decode cX12_init 394 = .ok (.putfield 139, 3) := by decide +kernel
theorem dX12_init_397 : decode cX12_init 397 = .ok (.aload_n 0, 1) := by decide +kernel
theorem dX12_init_398 : decode cX12_init 398 = .ok (.iconst (-1), 1) := by decide +kernel
theorem dX12_init_399 : decode cX12_init 399 = .ok (.putfield 142, 3) := by decide +kernel
theorem dX12_init_402 : decode cX12_init 402 = .ok (.aload_n 0, 1) := by decide +kernel
theorem dX12_init_403 : decode cX12_init 403 = .ok (.bipush 24, 2) := by decide +kernel
theorem dX12_init_405 : decode cX12_init 405 = .ok (.newarray .int, 2) := by decide +kernel
theorem dX12_init_407 : decode cX12_init 407 = .ok (.putfield 145, 3) := by decide +kernel
theorem dX12_init_410 : decode cX12_init 410 = .ok (.aload_n 0, 1) := by decide +kernel
theorem dX12_init_411 : decode cX12_init 411 = .ok (.bipush 24, 2) := by decide +kernel
theorem dX12_init_413 : decode cX12_init 413 = .ok (.newarray .int, 2) := by decide +kernel
theorem dX12_init_415 : decode cX12_init 415 = .ok (.putfield 148, 3) := by decide +kernel
theorem dX12_init_418 : decode cX12_init 418 = .ok (.aload_n 0, 1) := by decide +kernel
theorem dX12_init_419 : decode cX12_init 419 = .ok (.bipush 24, 2) := by decide +kernel
theorem dX12_init_421 : decode cX12_init 421 = .ok (.newarray .boolean, 2) := by decide +kernel
theorem dX12_init_423 : decode cX12_init 423 = .ok (.putfield 151, 3) := by decide +kernel
theorem dX12_init_426 : decode cX12_init 426 = .ok (.aload_n 0, 1) := by decide +kernel
theorem dX12_init_427 : decode cX12_init 427 = .ok (.iconst 4, 1) := by decide +kernel
theorem dX12_init_428 : decode cX12_init 428 = .ok (.newarray .int, 2) := by decide +kernel
theorem dX12_init_430 : decode cX12_init 430 = .ok (.putfield 154, 3) := by decide +kernel
theorem dX12_init_433 : decode cX12_init 433 = .ok (.aload_n 0, 1) := by decide +kernel
theorem dX12_init_434 : decode cX12_init 434 = .ok (.iconst 4, 1) := by decide +kernel
theorem dX12_init_435 : decode cX12_init 435 = .ok (.newarray .int, 2) := by decide +kernel
theorem dX12_init_437 : decode cX12_init 437 = .ok (.putfield 157, 3) := by decide +kernel
theorem dX12_init_440 : decode cX12_init 440 = .ok (.aload_n 0, 1) := by decide +kernel
theorem dX12_init_441 : decode cX12_init 441 = .ok (.invokevirtual 160, 3) := by decide +kernel
theorem dX12_init_444 : decode cX12_init 444 = .ok (.return_, 1) := by decide +kernel
theorem dX12_areVerses_0 : decode cX12_areVerses 0 = .ok (.iload_n 1, 1) := by decide +kernel
theorem dX12_areVerses_1 : decode cX12_areVerses 1 = .ok (.ifCond .lt 19, 3) := by decide +kernel
theorem dX12_areVerses_4 : decode cX12_areVerses 4 = .ok (.iload_n 1, 1) := by decide +kernel
theorem dX12_areVerses_5 : decode cX12_areVerses 5 = .ok (.iconst 1, 1) := by decide +kernel
theorem dX12_areVerses_6 : decode cX12_areVerses 6 = .ok (.aload_n 0, 1) := by decide +kernel
theorem dX12_areVerses_7 : decode cX12_areVerses 7 = .ok (.getfield 13, 3) := by decide +kernel
theorem dX12_areVerses_10 : decode cX12_areVerses 10 = .ok (.iconst 2, 1) := by decide +kernel
theorem dX12_areVerses_11 : decode cX12_areVerses 11 = .ok (.iaload, 1) := by decide +kernel
theorem dX12_areVerses_12 : decode cX12_areVerses 12 = .ok (.ishl, 1) := by decide +kernel
theorem dX12_areVerses_13 : decode cX12_areVerses 13 = .ok (.if_icmp .ge 7, 3) := by decide +kernel
theorem dX12_areVerses_16 : decode cX12_areVerses 16 = .ok (.iconst 1, 1) := by decide +kernel
theorem dX12_areVerses_17 : decode cX12_areVerses 17 = .ok (.goto 4, 3) := by decide +kernel
theorem dX12_areVerses_20 : decode cX12_areVerses 20 = .ok (.iconst 0, 1) := by decide +kernel
theorem dX12_areVerses_21 : decode cX12_areVerses 21 = .ok (.ireturn, 1) := by decide +kernel
theorem dX12_back_0 : decode cX12_back 0 = .ok (.aload_n 0, 1) := by decide +kernel
theorem dX12_back_1 : decode cX12_back 1 = .ok (.iconst 0, 1) := by decide +kernel
theorem dX12_back_2 : decode cX12_back 2 = .ok (.putfield 163, 3) := by decide +kernel
theorem dX12_back_5 : decode cX12_back 5 = .ok (.aload_n 0, 1) := by decide +kernel
theorem dX12_back_6 : decode cX12_back 6 = .ok (.getfield 328, 3) := by decide +kernel
theorem dX12_back_9 : decode cX12_back 9 = .ok (.ifCond .ne 5, 3) := by decide +kernel
theorem dX12_back_12 : decode cX12_back 12 = .ok (.iconst (-1), 1) := by decide +kernel
theorem dX12_back_13 : decode cX12_back 13 = .ok (.ireturn, 1) := by decide +kernel
theorem dX12_bar_0 : decode cX12_bar 0 = .ok (.aload_n 0, 1) := by decide +kernel
theorem dX12_bar_1 : decode cX12_bar 1 = .ok (.iconst 0, 1) := by decide +kernel
theorem dX12_bar_2 : decode cX12_bar 2 = .ok (.putfield 163, 3) := by decide +kernel
theorem dX12_bar_5 : decode cX12_bar 5 = .ok (.aload_n 0, 1) := by decide +kernel
theorem dX12_bar_6 : decode cX12_bar 6 = .ok (.iload_n 1, 1) := by decide +kernel
theorem dX12_bar_7 : decode cX12_bar 7 = .ok (.invokevirtual 332, 3) := by decide +kernel
theorem dX12_bar_10 : decode cX12_bar 10 = .ok (.ifCond .eq 13, 3) := by decide +kernel
theorem dX12_bar_23 : decode cX12_bar 23 = .ok (.iconst (-1), 1) := by decide +kernel
theorem dX12_bar_24 : decode cX12_bar 24 = .ok (.ireturn, 1) := by decide +kernel
theorem dX12_begins_0 : decode cX12_begins 0 = .ok (.aload_n 0, 1) := by decide +kernel
theorem dX12_begins_1 : decode cX12_begins 1 = .ok (.getfield 81, 3) := by decide +kernel
theorem dX12_begins_4 : decode cX12_begins 4 = .ok (.iconst 0, 1) := by decide +kernel
theorem dX12_begins_5 : decode cX12_begins 5 = .ok (.iconst 0, 1) := by decide +kernel
theorem dX12_begins_6 : decode cX12_begins 6 = .ok (.iastore, 1) := by decide +kernel
theorem dX12_begins_7 : decode cX12_begins 7 = .ok (.aload_n 0, 1) := by decide +kernel
theorem dX12_begins_8 : decode cX12_begins 8 = .ok (.getfield 84, 3) := by decide +kernel
theorem dX12_begins_11 : decode cX12_begins 11 = .ok (.iconst 0, 1) := by decide +kernel
theorem dX12_begins_12 : decode cX12_begins 12 = .ok (.aload_n 0, 1) := by decide +kernel
theorem dX12_begins_13 : decode cX12_begins 13 = .ok (.getfield 13, 3) := by decide +kernel
theorem dX12_begins_16 : decode cX12_begins 16 = .ok (.iconst 4, 1) := by decide +kernel
theorem dX12_begins_17 : decode cX12_begins 17 = .ok (.iaload, 1) := by decide +kernel
theorem dX12_begins_18 : decode cX12_begins 18 = .ok (.iastore, 1) := by decide +kernel
theorem dX12_begins_19 : decode cX12_begins 19 = .ok (.aload_n 0, 1) := by decide +kernel
theorem dX12_begins_20 : decode cX12_begins 20 = .ok (.getfield 87, 3) := by decide +kernel
theorem dX12_begins_23 : decode cX12_begins 23 = .ok (.iconst 0, 1) := by decide +kernel
theorem dX12_begins_24 : decode cX12_begins 24 = .ok (.aload_n 0, 1) := by decide +kernel
theorem dX12_begins_25 : decode cX12_begins 25 = .ok (.getfield 13, 3) := by decide +kernel
theorem dX12_begins_28 : decode cX12_begins 28 = .ok (.iconst 5, 1) := by decide +kernel
theorem dX12_begins_29 : decode cX12_begins 29 = .ok (.iaload, 1) := by decide +kernel
theorem dX12_begins_30 : decode cX12_begins 30 = .ok (.iastore, 1) := by decide +kernel
theorem dX12_begins_31 : decode cX12_begins 31 = .ok (.aload_n 0, 1) := by decide +kernel
theorem dX12_begins_32 : decode cX12_begins 32 = .ok (.getfield 90, 3) := by decide +kernel
theorem dX12_begins_35 : decode cX12_begins 35 = .ok (.iconst 0, 1) := by decide +kernel
theorem dX12_begins_36 : decode cX12_begins 36 = .ok (.iconst 0, 1) := by decide +kernel
theorem dX12_begins_37 : decode cX12_begins 37 = .ok (.iastore, 1) := by decide +kernel
theorem dX12_begins_38 : decode cX12_begins 38 = .ok (.aload_n 0, 1) := by decide +kernel
theorem dX12_begins_39 : decode cX12_begins 39 = .ok (.getfield 93, 3) := by decide +kernel
theorem dX12_begins_42 : decode cX12_begins 42 = .ok (.iconst 0, 1) := by decide +kernel
theorem dX12_begins_43 : decode cX12_begins 43 = .ok (.iconst 0, 1) := by decide +kernel
theorem dX12_begins_44 : decode cX12_begins 44 = .ok (.iastore, 1) := by decide +kernel
theorem dX12_begins_45 : decode cX12_begins 45 = .ok (.aload_n 0, 1) := by decide +kernel
theorem dX12_begins_46 : decode cX12_begins 46 = .ok (.getfield 108, 3) := by decide +kernel
theorem dX12_begins_49 : decode cX12_begins 49 = .ok (.iconst 0, 1) := by decide +kernel
theorem dX12_begins_50 : decode cX12_begins 50 = .ok (.iconst 0, 1) := by decide +kernel
theorem dX12_begins_51 : decode cX12_begins 51 = .ok (.iastore, 1) := by decide +kernel
theorem dX12_begins_52 : decode cX12_begins 52 = .ok (.iconst 0, 1) := by decide +kernel
theorem dX12_begins_53 : decode cX12_begins 53 = .ok (.istore_n 1, 1) := by decide +kernel
theorem dX12_begins_54 : decode cX12_begins 54 = .ok (.iload_n 1, 1) := by decide +kernel
theorem dX12_begins_55 : decode cX12_begins 55 = .ok (.iconst 3, 1) := by decide +kernel
theorem dX12_begins_56 : decode cX12_begins 56 = .ok (.if_icmp .ge 35, 3) := by decide +kernel
theorem dX12_begins_59 : decode cX12_begins 59 = .ok (.aload_n 0, 1) := by decide +kernel
theorem dX12_begins_60 : decode cX12_begins 60 = .ok (.getfield 96, 3) := by decide +kernel
theorem dX12_begins_63 : decode cX12_begins 63 = .ok (.iload_n 1, 1) := by decide +kernel
theorem dX12_begins_64 : decode cX12_begins 64 = .ok (.iload_n 1, 1) := by decide +kernel
theorem dX12_begins_65 : decode cX12_begins 65 = .ok (.aload_n 0, 1) := by decide +kernel
theorem dX12_begins_66 : decode cX12_begins 66 = .ok (.getfield 13, 3) := by decide +kernel
theorem dX12_begins_69 : decode cX12_begins 69 = .ok (.iconst 0, 1) := by decide +kernel
theorem dX12_begins_70 : decode cX12_begins 70 = .ok (.iaload, 1) := by decide +kernel
theorem dX12_begins_71 : decode cX12_begins 71 = .ok (.if_icmp .ge 12, 3) := by decide +kernel
theorem dX12_begins_83 : decode cX12_begins 83 = .ok (.iconst 0, 1) := by decide +kernel
theorem dX12_begins_84 : decode cX12_begins 84 = .ok (.iastore, 1) := by decide +kernel
theorem dX12_begins_85 : decode cX12_begins 85 = .ok (.iinc 1 1, 3) := by decide +kernel
theorem dX12_begins_88 : decode cX12_begins 88 = .ok (.goto (-34), 3) := by decide +kernel
theorem dX12_begins_91 : decode cX12_begins 91 = .ok (.iconst 0, 1) := by decide +kernel
theorem dX12_begins_92 : decode cX12_begins 92 = .ok (.istore_n 1, 1) := by decide +kernel
theorem dX12_begins_93 : decode cX12_begins 93 = .ok (.iload_n 1, 1) := by decide +kernel
theorem dX12_begins_94 : decode cX12_begins 94 = .ok (.iconst 3, 1) := by decide +kernel
theorem dX12_begins_95 : decode cX12_begins 95 = .ok (.if_icmp .ge 35, 3) := by decide +kernel
theorem dX12_begins_98 : decode cX12_begins 98 = .ok (.aload_n 0, 1) := by decide +kernel
theorem dX12_begins_99 : decode cX12_begins 99 = .ok (.getfield 99, 3) := by decide +kernel
theorem dX12_begins_102 : decode cX12_begins 102 = .ok (.iload_n 1, 1) := by decide +kernel
theorem dX12_begins_103 : decode cX12_begins 103 = .ok (.iload_n 1, 1) := by decide +kernel
theorem dX12_begins_104 : decode cX12_begins 104 = .ok (.aload_n 0, 1) := by decide +kernel
theorem dX12_begins_105 : decode cX12_begins 105 = .ok (.getfield 13, 3) := by decide +kernel
theorem dX12_begins_108 : decode cX12_begins 108 = .ok (.iconst 3, 1) := by decide +kernel
theorem dX12_begins_109 : decode cX12_begins 109 = .ok (.iaload, 1) := by decide +kernel
theorem dX12_begins_110 : decode cX12_begins 110 = .ok (.if_icmp .ge 12, 3) := by decide +kernel
theorem dX12_begins_122 : decode cX12_begins 122 = .ok (.iconst 0, 1) := by decide +kernel
theorem dX12_begins_123 : decode cX12_begins 123 = .ok (.iastore, 1) := by decide +kernel
theorem dX12_begins_124 : decode cX12_begins 124 = .ok (.iinc 1 1, 3) := by decide +kernel
theorem dX12_begins_127 : decode cX12_begins 127 = .ok (.goto (-34), 3) := by decide +kernel
theorem dX12_begins_130 : decode cX12_begins 130 = .ok (.iconst 0, 1) := by decide +kernel
theorem dX12_begins_131 : decode cX12_begins 131 = .ok (.istore_n 1, 1) := by decide +kernel
theorem dX12_begins_132 : decode cX12_begins 132 = .ok (.iload_n 1, 1) := by decide +kernel
theorem dX12_begins_133 : decode cX12_begins 133 = .ok (.bipush 6, 2) := by decide +kernel
theorem dX12_begins_135 : decode cX12_begins 135 = .ok (.if_icmp .ge 16, 3) := by decide +kernel
theorem dX12_begins_138 : decode cX12_begins 138 = .ok (.aload_n 0, 1) := by decide +kernel
theorem dX12_begins_139 : decode cX12_begins 139 = .ok (.getfield 102, 3) := by decide +kernel
theorem dX12_begins_142 : decode cX12_begins 142 = .ok (.iload_n 1, 1) := by decide +kernel
theorem dX12_begins_143 : decode cX12_begins 143 = .ok (.iconst 0, 1) := by decide +kernel
theorem dX12_begins_144 : decode cX12_begins 144 = .ok (.iastore, 1) := by decide +kernel
theorem dX12_begins_145 : decode cX12_begins 145 = .ok (.iinc 1 1, 3) := by decide +kernel
theorem dX12_begins_148 : decode cX12_begins 148 = .ok (.goto (-16), 3) := by decide +kernel
theorem dX12_begins_151 : decode cX12_begins 151 = .ok (.iconst 0, 1) := by decide +kernel
theorem dX12_begins_152 : decode cX12_begins 152 = .ok (.istore_n 1, 1) := by decide +kernel
theorem dX12_begins_153 : decode cX12_begins 153 = .ok (.iload_n 1, 1) := by decide +kernel
theorem dX12_begins_154 : decode cX12_begins 154 = .ok (.bipush 12, 2) := by decide +kernel
theorem dX12_begins_156 : decode cX12_begins 156 = .ok (.if_icmp .ge 16, 3) := by decide +kernel
theorem dX12_begins_159 : decode cX12_begins 159 = .ok (.aload_n 0, 1) := by decide +kernel
theorem dX12_begins_160 : decode cX12_begins 160 = .ok (.getfield 105, 3) := by decide +kernel
theorem dX12_begins_163 : decode cX12_begins 163 = .ok (.iload_n 1, 1) := by decide +kernel
theorem dX12_begins_164 : decode cX12_begins 164 = .ok (.iconst (-1), 1) := by decide +kernel
theorem dX12_begins_165 : decode cX12_begins 165 = .ok (.iastore, 1) := by decide +kernel
theorem dX12_begins_166 : decode cX12_begins 166 = .ok (.iinc 1 1, 3) := by decide +kernel
theorem dX12_begins_169 : decode cX12_begins 169 = .ok (.goto (-16), 3) := by decide +kernel
theorem dX12_begins_172 : decode cX12_begins 172 = .ok (.return_, 1) := by decide +kernel
theorem dX12_best_0 : decode cX12_best 0 = .ok (.aload_n 0, 1) := by decide +kernel
theorem dX12_best_1 : decode cX12_best 1 = .ok (.iconst 0, 1) := by decide +kernel
theorem dX12_best_2 : decode cX12_best 2 = .ok (.putfield 163, 3) := by decide +kernel
theorem dX12_best_5 : decode cX12_best 5 = .ok (.iload_n 1, 1) := by decide +kernel
theorem dX12_best_6 : decode cX12_best 6 = .ok (.invokestatic 446, 3) := by decide +kernel
theorem dX12_best_9 : decode cX12_best 9 = .ok (.ifCond .eq 12, 3) := by decide +kernel
theorem dX12_best_12 : decode cX12_best 12 = .ok (.iload_n 2, 1) := by decide +kernel
theorem dX12_best_13 : decode cX12_best 13 = .ok (.ifCond .lt 8, 3) := by decide +kernel
theorem dX12_best_16 : decode cX12_best 16 = .ok (.iload_n 2, 1) := by decide +kernel
theorem dX12_best_17 : decode cX12_best 17 = .ok (.iconst 1, 1) := by decide +kernel
theorem dX12_best_18 : decode cX12_best 18 = .ok (.if_icmp .le 5, 3) := by decide +kernel
theorem dX12_best_21 : decode cX12_best 21 = .ok (.iconst (-1), 1) := by decide +kernel
theorem dX12_best_22 : decode cX12_best 22 = .ok (.ireturn, 1) := by decide +kernel
theorem dX12_best_23 : decode cX12_best 23 = .ok (.aload_n 0, 1) := by decide +kernel
theorem dX12_best_24 : decode cX12_best 24 = .ok (.iload_n 1, 1) := by decide +kernel
theorem dX12_best_25 : decode cX12_best 25 = .ok (.invokevirtual 449, 3) := by decide +kernel
theorem dX12_best_28 : decode cX12_best 28 = .ok (.iload_n 2, 1) := by decide +kernel
theorem dX12_best_29 : decode cX12_best 29 = .ok (.ifCond .ne 12, 3) := by decide +kernel
theorem dX12_best_32 : decode cX12_best 32 = .ok (.aload_n 0, 1) := by decide +kernel
theorem dX12_best_33 : decode cX12_best 33 = .ok (.getfield 124, 3) := by decide +kernel
theorem dX12_best_36 : decode cX12_best 36 = .ok (.iload_n 1, 1) := by decide +kernel
theorem dX12_best_37 : decode cX12_best 37 = .ok (.iaload, 1) := by decide +kernel
theorem dX12_best_38 : decode cX12_best 38 = .ok (.goto 9, 3) := by decide +kernel
theorem dX12_best_41 : decode cX12_best 41 = .ok (.aload_n 0, 1) := by decide +kernel
theorem dX12_best_42 : decode cX12_best 42 = .ok (.getfield 127, 3) := by decide +kernel
theorem dX12_best_45 : decode cX12_best 45 = .ok (.iload_n 1, 1) := by decide +kernel
theorem dX12_best_46 : decode cX12_best 46 = .ok (.iaload, 1) := by decide +kernel
theorem dX12_best_47 : decode cX12_best 47 = .ok (.ireturn, 1) := by decide +kernel
theorem dX12_bids_0 : decode cX12_bids 0 = .ok (.aload_n 0, 1) := by decide +kernel
theorem dX12_bids_1 : decode cX12_bids 1 = .ok (.iconst 0, 1) := by decide +kernel
theorem dX12_bids_2 : decode cX12_bids 2 = .ok (.putfield 163, 3) := by decide +kernel
theorem dX12_bids_5 : decode cX12_bids 5 = .ok (.iload_n 1, 1) := by decide +kernel
theorem dX12_bids_6 : decode cX12_bids 6 = .ok (.ifCond .lt 36, 3) := by decide +kernel
theorem dX12_bids_9 : decode cX12_bids 9 = .ok (.iload_n 1, 1) := by decide +kernel
theorem dX12_bids_10 : decode cX12_bids 10 = .ok (.aload_n 0, 1) := by decide +kernel
theorem dX12_bids_11 : decode cX12_bids 11 = .ok (.getfield 13, 3) := by decide +kernel
theorem dX12_bids_14 : decode cX12_bids 14 = .ok (.iconst 3, 1) := by decide +kernel
theorem dX12_bids_15 : decode cX12_bids 15 = .ok (.iaload, 1) := by decide +kernel
theorem dX12_bids_16 : decode cX12_bids 16 = .ok (.if_icmp .ge 26, 3) := by decide +kernel
theorem dX12_bids_42 : decode cX12_bids 42 = .ok (.iconst (-1), 1) := by decide +kernel
theorem dX12_bids_43 : decode cX12_bids 43 = .ok (.ireturn, 1) := by decide +kernel
theorem dX12_bitsOf_0 : decode cX12_bitsOf 0 = .ok (.iconst 0, 1) := by decide +kernel
theorem dX12_bitsOf_1 : decode cX12_bitsOf 1 = .ok (.istore_n 1, 1) := by decide +kernel
theorem dX12_bitsOf_2 : decode cX12_bitsOf 2 = .ok (.iconst 0, 1) := by decide +kernel
theorem dX12_bitsOf_3 : decode cX12_bitsOf 3 = .ok (.istore_n 2, 1) := by decide +kernel
theorem dX12_bitsOf_4 : decode cX12_bitsOf 4 = .ok (.iload_n 2, 1) := by decide +kernel
theorem dX12_bitsOf_5 : decode cX12_bitsOf 5 = .ok (.bipush 6, 2) := by decide +kernel
theorem dX12_bitsOf_7 : decode cX12_bitsOf 7 = .ok (.if_icmp .ge 17, 3) := by decide +kernel
theorem dX12_bitsOf_10 : decode cX12_bitsOf 10 = .ok (.iload_n 1, 1) := by decide +kernel
theorem dX12_bitsOf_11 : decode cX12_bitsOf 11 = .ok (.iload_n 0, 1) := by decide +kernel
theorem dX12_bitsOf_12 : decode cX12_bitsOf 12 = .ok (.iload_n 2, 1) := by decide +kernel
theorem dX12_bitsOf_13 : decode cX12_bitsOf 13 = .ok (.ishr, 1) := by decide +kernel
theorem dX12_bitsOf_14 : decode cX12_bitsOf 14 = .ok (.iconst 1, 1) := by decide +kernel
theorem dX12_bitsOf_15 : decode cX12_bitsOf 15 = .ok (.iand, 1) := by decide +kernel
theorem dX12_bitsOf_16 : decode cX12_bitsOf 16 = .ok (.iadd, 1) := by decide +kernel
theorem dX12_bitsOf_17 : decode cX12_bitsOf 17 = .ok (.istore_n 1, 1) := by decide +kernel
theorem dX12_bitsOf_18 : decode cX12_bitsOf 18 = .ok (.iinc 2 1, 3) := by decide +kernel
theorem dX12_bitsOf_21 : decode cX12_bitsOf 21 = .ok (.goto (-17), 3) := by decide +kernel
theorem dX12_bitsOf_24 : decode cX12_bitsOf 24 = .ok (.iload_n 1, 1) := by decide +kernel
theorem dX12_bitsOf_25 : decode cX12_bitsOf 25 = .ok (.ireturn, 1) := by decide +kernel
theorem dX12_chosen_0 : decode cX12_chosen 0 = .ok (.aload_n 0, 1) := by decide +kernel
theorem dX12_chosen_1 : decode cX12_chosen 1 = .ok (.iconst 0, 1) := by decide +kernel
theorem dX12_chosen_2 : decode cX12_chosen 2 = .ok (.putfield 163, 3) := by decide +kernel
theorem dX12_chosen_5 : decode cX12_chosen 5 = .ok (.iload_n 1, 1) := by decide +kernel
theorem dX12_chosen_6 : decode cX12_chosen 6 = .ok (.invokestatic 446, 3) := by decide +kernel
theorem dX12_chosen_9 : decode cX12_chosen 9 = .ok (.ifCond .eq 12, 3) := by decide +kernel
theorem dX12_chosen_12 : decode cX12_chosen 12 = .ok (.aload_n 0, 1) := by decide +kernel
theorem dX12_chosen_13 : decode cX12_chosen 13 = .ok (.iload_n 2, 1) := by decide +kernel
theorem dX12_chosen_14 : decode cX12_chosen 14 = .ok (.iload_n 3, 1) := by decide +kernel
theorem dX12_chosen_15 : decode cX12_chosen 15 = .ok (.invokevirtual 344, 3) := by decide +kernel
theorem dX12_chosen_18 : decode cX12_chosen 18 = .ok (.ifCond .ne 5, 3) := by decide +kernel
theorem dX12_chosen_21 : decode cX12_chosen 21 = .ok (.iconst (-1), 1) := by decide +kernel
theorem dX12_chosen_22 : decode cX12_chosen 22 = .ok (.ireturn, 1) := by decide +kernel
theorem dX12_copies_0 : decode cX12_copies 0 = .ok (.aload_n 0, 1) := by decide +kernel
theorem dX12_copies_1 : decode cX12_copies 1 = .ok (.getfield 81, 3) := by decide +kernel
theorem dX12_copies_4 : decode cX12_copies 4 = .ok (.iload_n 1, 1) := by decide +kernel
theorem dX12_copies_5 : decode cX12_copies 5 = .ok (.aload_n 0, 1) := by decide +kernel
theorem dX12_copies_6 : decode cX12_copies 6 = .ok (.getfield 81, 3) := by decide +kernel
theorem dX12_copies_9 : decode cX12_copies 9 = .ok (.iload_n 2, 1) := by decide +kernel
theorem dX12_copies_10 : decode cX12_copies 10 = .ok (.iaload, 1) := by decide +kernel
theorem dX12_copies_11 : decode cX12_copies 11 = .ok (.iastore, 1) := by decide +kernel
theorem dX12_copies_12 : decode cX12_copies 12 = .ok (.aload_n 0, 1) := by decide +kernel
theorem dX12_copies_13 : decode cX12_copies 13 = .ok (.getfield 84, 3) := by decide +kernel
theorem dX12_copies_16 : decode cX12_copies 16 = .ok (.iload_n 1, 1) := by decide +kernel
theorem dX12_copies_17 : decode cX12_copies 17 = .ok (.aload_n 0, 1) := by decide +kernel
theorem dX12_copies_18 : decode cX12_copies 18 = .ok (.getfield 84, 3) := by decide +kernel
theorem dX12_copies_21 : decode cX12_copies 21 = .ok (.iload_n 2, 1) := by decide +kernel
theorem dX12_copies_22 : decode cX12_copies 22 = .ok (.iaload, 1) := by decide +kernel
theorem dX12_copies_23 : decode cX12_copies 23 = .ok (.iastore, 1) := by decide +kernel
theorem dX12_copies_24 : decode cX12_copies 24 = .ok (.aload_n 0, 1) := by decide +kernel
theorem dX12_copies_25 : decode cX12_copies 25 = .ok (.getfield 87, 3) := by decide +kernel
theorem dX12_copies_28 : decode cX12_copies 28 = .ok (.iload_n 1, 1) := by decide +kernel
theorem dX12_copies_29 : decode cX12_copies 29 = .ok (.aload_n 0, 1) := by decide +kernel
theorem dX12_copies_30 : decode cX12_copies 30 = .ok (.getfield 87, 3) := by decide +kernel
theorem dX12_copies_33 : decode cX12_copies 33 = .ok (.iload_n 2, 1) := by decide +kernel
theorem dX12_copies_34 : decode cX12_copies 34 = .ok (.iaload, 1) := by decide +kernel
theorem dX12_copies_35 : decode cX12_copies 35 = .ok (.iastore, 1) := by decide +kernel
theorem dX12_copies_36 : decode cX12_copies 36 = .ok (.aload_n 0, 1) := by decide +kernel
theorem dX12_copies_37 : decode cX12_copies 37 = .ok (.getfield 90, 3) := by decide +kernel
theorem dX12_copies_40 : decode cX12_copies 40 = .ok (.iload_n 1, 1) := by decide +kernel
theorem dX12_copies_41 : decode cX12_copies 41 = .ok (.aload_n 0, 1) := by decide +kernel
theorem dX12_copies_42 : decode cX12_copies 42 = .ok (.getfield 90, 3) := by decide +kernel
theorem dX12_copies_45 : decode cX12_copies 45 = .ok (.iload_n 2, 1) := by decide +kernel
theorem dX12_copies_46 : decode cX12_copies 46 = .ok (.iaload, 1) := by decide +kernel
theorem dX12_copies_47 : decode cX12_copies 47 = .ok (.iastore, 1) := by decide +kernel
theorem dX12_copies_48 : decode cX12_copies 48 = .ok (.aload_n 0, 1) := by decide +kernel
theorem dX12_copies_49 : decode cX12_copies 49 = .ok (.getfield 93, 3) := by decide +kernel
theorem dX12_copies_52 : decode cX12_copies 52 = .ok (.iload_n 1, 1) := by decide +kernel
theorem dX12_copies_53 : decode cX12_copies 53 = .ok (.aload_n 0, 1) := by decide +kernel
theorem dX12_copies_54 : decode cX12_copies 54 = .ok (.getfield 93, 3) := by decide +kernel
theorem dX12_copies_57 : decode cX12_copies 57 = .ok (.iload_n 2, 1) := by decide +kernel
theorem dX12_copies_58 : decode cX12_copies 58 = .ok (.iaload, 1) := by decide +kernel
theorem dX12_copies_59 : decode cX12_copies 59 = .ok (.iastore, 1) := by decide +kernel
theorem dX12_copies_60 : decode cX12_copies 60 = .ok (.aload_n 0, 1) := by decide +kernel
theorem dX12_copies_61 : decode cX12_copies 61 = .ok (.getfield 108, 3) := by decide +kernel
theorem dX12_copies_64 : decode cX12_copies 64 = .ok (.iload_n 1, 1) := by decide +kernel
theorem dX12_copies_65 : decode cX12_copies 65 = .ok (.aload_n 0, 1) := by decide +kernel
theorem dX12_copies_66 : decode cX12_copies 66 = .ok (.getfield 108, 3) := by decide +kernel
theorem dX12_copies_69 : decode cX12_copies 69 = .ok (.iload_n 2, 1) := by decide +kernel
theorem dX12_copies_70 : decode cX12_copies 70 = .ok (.iaload, 1) := by decide +kernel
theorem dX12_copies_71 : decode cX12_copies 71 = .ok (.iastore, 1) := by decide +kernel
theorem dX12_copies_72 : decode cX12_copies 72 = .ok (.iconst 0, 1) := by decide +kernel
theorem dX12_copies_73 : decode cX12_copies 73 = .ok (.istore_n 3, 1) := by decide +kernel
theorem dX12_copies_74 : decode cX12_copies 74 = .ok (.iload_n 3, 1) := by decide +kernel
theorem dX12_copies_75 : decode cX12_copies 75 = .ok (.iconst 3, 1) := by decide +kernel
theorem dX12_copies_76 : decode cX12_copies 76 = .ok (.if_icmp .ge 29, 3) := by decide +kernel
theorem dX12_copies_79 : decode cX12_copies 79 = .ok (.aload_n 0, 1) := by decide +kernel
theorem dX12_copies_80 : decode cX12_copies 80 = .ok (.getfield 96, 3) := by decide +kernel
theorem dX12_copies_83 : decode cX12_copies 83 = .ok (.iconst 3, 1) := by decide +kernel
theorem dX12_copies_84 : decode cX12_copies 84 = .ok (.iload_n 1, 1) := by decide +kernel
theorem dX12_copies_85 : decode cX12_copies 85 = .ok (.imul, 1) := by decide +kernel
theorem dX12_copies_86 : decode cX12_copies 86 = .ok (.iload_n 3, 1) := by decide +kernel
theorem dX12_copies_87 : decode cX12_copies 87 = .ok (.iadd, 1) := by decide +kernel
theorem dX12_copies_88 : decode cX12_copies 88 = .ok (.aload_n 0, 1) := by decide +kernel
theorem dX12_copies_89 : decode cX12_copies 89 = .ok (.getfield 96, 3) := by decide +kernel
theorem dX12_copies_92 : decode cX12_copies 92 = .ok (.iconst 3, 1) := by decide +kernel
theorem dX12_copies_93 : decode cX12_copies 93 = .ok (.iload_n 2, 1) := by decide +kernel
theorem dX12_copies_94 : decode cX12_copies 94 = .ok (.imul, 1) := by decide +kernel
theorem dX12_copies_95 : decode cX12_copies 95 = .ok (.iload_n 3, 1) := by decide +kernel
theorem dX12_copies_96 : decode cX12_copies 96 = .ok (.iadd, 1) := by decide +kernel
theorem dX12_copies_97 : decode cX12_copies 97 = .ok (.iaload, 1) := by decide +kernel
theorem dX12_copies_98 : decode cX12_copies 98 = .ok (.iastore, 1) := by decide +kernel
theorem dX12_copies_99 : decode cX12_copies 99 = .ok (.iinc 3 1, 3) := by decide +kernel
theorem dX12_copies_102 : decode cX12_copies 102 = .ok (.goto (-28), 3) := by decide +kernel
theorem dX12_copies_105 : decode cX12_copies 105 = .ok (.iconst 0, 1) := by decide +kernel
theorem dX12_copies_106 : decode cX12_copies 106 = .ok (.istore_n 3, 1) := by decide +kernel
theorem dX12_copies_107 : decode cX12_copies 107 = .ok (.iload_n 3, 1) := by decide +kernel
theorem dX12_copies_108 : decode cX12_copies 108 = .ok (.iconst 3, 1) := by decide +kernel
theorem dX12_copies_109 : decode cX12_copies 109 = .ok (.if_icmp .ge 29, 3) := by decide +kernel
theorem dX12_copies_112 : decode cX12_copies 112 = .ok (.aload_n 0, 1) := by decide +kernel
theorem dX12_copies_113 : decode cX12_copies 113 = .ok (.getfield 99, 3) := by decide +kernel
theorem dX12_copies_116 : decode cX12_copies 116 = .ok (.iconst 3, 1) := by decide +kernel
theorem dX12_copies_117 : decode cX12_copies 117 = .ok (.iload_n 1, 1) := by decide +kernel
theorem dX12_copies_118 : decode cX12_copies 118 = .ok (.imul, 1) := by decide +kernel
theorem dX12_copies_119 : decode cX12_copies 119 = .ok (.iload_n 3, 1) := by decide +kernel
theorem dX12_copies_120 : decode cX12_copies 120 = .ok (.iadd, 1) := by decide +kernel
theorem dX12_copies_121 : decode cX12_copies 121 = .ok (.aload_n 0, 1) := by decide +kernel
theorem dX12_copies_122 : decode cX12_copies 122 = .ok (.getfield 99, 3) := by decide +kernel
theorem dX12_copies_125 : decode cX12_copies 125 = .ok (.iconst 3, 1) := by decide +kernel
theorem dX12_copies_126 : decode cX12_copies 126 = .ok (.iload_n 2, 1) := by decide +kernel
theorem dX12_copies_127 : decode cX12_copies 127 = .ok (.imul, 1) := by decide +kernel
theorem dX12_copies_128 : decode cX12_copies 128 = .ok (.iload_n 3, 1) := by decide +kernel
theorem dX12_copies_129 : decode cX12_copies 129 = .ok (.iadd, 1) := by decide +kernel
theorem dX12_copies_130 : decode cX12_copies 130 = .ok (.iaload, 1) := by decide +kernel
theorem dX12_copies_131 : decode cX12_copies 131 = .ok (.iastore, 1) := by decide +kernel
theorem dX12_copies_132 : decode cX12_copies 132 = .ok (.iinc 3 1, 3) := by decide +kernel
theorem dX12_copies_135 : decode cX12_copies 135 = .ok (.goto (-28), 3) := by decide +kernel
theorem dX12_copies_138 : decode cX12_copies 138 = .ok (.iconst 0, 1) := by decide +kernel
theorem dX12_copies_139 : decode cX12_copies 139 = .ok (.istore_n 3, 1) := by decide +kernel
theorem dX12_copies_140 : decode cX12_copies 140 = .ok (.iload_n 3, 1) := by decide +kernel
theorem dX12_copies_141 : decode cX12_copies 141 = .ok (.bipush 6, 2) := by decide +kernel
theorem dX12_copies_143 : decode cX12_copies 143 = .ok (.if_icmp .ge 31, 3) := by decide +kernel
theorem dX12_copies_146 : decode cX12_copies 146 = .ok (.aload_n 0, 1) := by decide +kernel
theorem dX12_copies_147 : decode cX12_copies 147 = .ok (.getfield 102, 3) := by decide +kernel
theorem dX12_copies_150 : decode cX12_copies 150 = .ok (.bipush 6, 2) := by decide +kernel
theorem dX12_copies_152 : decode cX12_copies 152 = .ok (.iload_n 1, 1) := by decide +kernel
theorem dX12_copies_153 : decode cX12_copies 153 = .ok (.imul, 1) := by decide +kernel
theorem dX12_copies_154 : decode cX12_copies 154 = .ok (.iload_n 3, 1) := by decide +kernel
theorem dX12_copies_155 : decode cX12_copies 155 = .ok (.iadd, 1) := by decide +kernel
theorem dX12_copies_156 : decode cX12_copies 156 = .ok (.aload_n 0, 1) := by decide +kernel
theorem dX12_copies_157 : decode cX12_copies 157 = .ok (.getfield 102, 3) := by decide +kernel
theorem dX12_copies_160 : decode cX12_copies 160 = .ok (.bipush 6, 2) := by decide +kernel
theorem dX12_copies_162 : decode cX12_copies 162 = .ok (.iload_n 2, 1) := by decide +kernel
theorem dX12_copies_163 : decode cX12_copies 163 = .ok (.imul, 1) := by decide +kernel
theorem dX12_copies_164 : decode cX12_copies 164 = .ok (.iload_n 3, 1) := by decide +kernel
theorem dX12_copies_165 : decode cX12_copies 165 = .ok (.iadd, 1) := by decide +kernel
theorem dX12_copies_166 : decode cX12_copies 166 = .ok (.iaload, 1) := by decide +kernel
theorem dX12_copies_167 : decode cX12_copies 167 = .ok (.iastore, 1) := by decide +kernel
theorem dX12_copies_168 : decode cX12_copies 168 = .ok (.iinc 3 1, 3) := by decide +kernel
theorem dX12_copies_171 : decode cX12_copies 171 = .ok (.goto (-31), 3) := by decide +kernel
theorem dX12_copies_174 : decode cX12_copies 174 = .ok (.iconst 0, 1) := by decide +kernel
theorem dX12_copies_175 : decode cX12_copies 175 = .ok (.istore_n 3, 1) := by decide +kernel
theorem dX12_copies_176 : decode cX12_copies 176 = .ok (.iload_n 3, 1) := by decide +kernel
theorem dX12_copies_177 : decode cX12_copies 177 = .ok (.bipush 12, 2) := by decide +kernel
theorem dX12_copies_179 : decode cX12_copies 179 = .ok (.if_icmp .ge 75, 3) := by decide +kernel
theorem dX12_copies_182 : decode cX12_copies 182 = .ok (.aload_n 0, 1) := by decide +kernel
theorem dX12_copies_183 : decode cX12_copies 183 = .ok (.getfield 105, 3) := by decide +kernel
theorem dX12_copies_186 : decode cX12_copies 186 = .ok (.bipush 12, 2) := by decide +kernel
theorem dX12_copies_188 : decode cX12_copies 188 = .ok (.iload_n 1, 1) := by decide +kernel
theorem dX12_copies_189 : decode cX12_copies 189 = .ok (.imul, 1) := by decide +kernel
theorem dX12_copies_190 : decode cX12_copies 190 = .ok (.iload_n 3, 1) := by decide +kernel
theorem dX12_copies_191 : decode cX12_copies 191 = .ok (.iadd, 1) := by decide +kernel
theorem dX12_copies_192 : decode cX12_copies 192 = .ok (.aload_n 0, 1) := by decide +kernel
theorem dX12_copies_193 : decode cX12_copies 193 = .ok (.getfield 105, 3) := by decide +kernel
theorem dX12_copies_196 : decode cX12_copies 196 = .ok (.bipush 12, 2) := by decide +kernel
theorem dX12_copies_198 : decode cX12_copies 198 = .ok (.iload_n 2, 1) := by decide +kernel
theorem dX12_copies_199 : decode cX12_copies 199 = .ok (.imul, 1) := by decide +kernel
theorem dX12_copies_200 : decode cX12_copies 200 = .ok (.iload_n 3, 1) := by decide +kernel
theorem dX12_copies_201 : decode cX12_copies 201 = .ok (.iadd, 1) := by decide +kernel
theorem dX12_copies_202 : decode cX12_copies 202 = .ok (.iaload, 1) := by decide +kernel
theorem dX12_copies_203 : decode cX12_copies 203 = .ok (.iastore, 1) := by decide +kernel
theorem dX12_copies_204 : decode cX12_copies 204 = .ok (.aload_n 0, 1) := by decide +kernel
theorem dX12_copies_205 : decode cX12_copies 205 = .ok (.getfield 111, 3) := by decide +kernel
theorem dX12_copies_208 : decode cX12_copies 208 = .ok (.bipush 12, 2) := by decide +kernel
theorem dX12_copies_210 : decode cX12_copies 210 = .ok (.iload_n 1, 1) := by decide +kernel
theorem dX12_copies_211 : decode cX12_copies 211 = .ok (.imul, 1) := by decide +kernel
theorem dX12_copies_212 : decode cX12_copies 212 = .ok (.iload_n 3, 1) := by decide +kernel
theorem dX12_copies_213 : decode cX12_copies 213 = .ok (.iadd, 1) := by decide +kernel
theorem dX12_copies_214 : decode cX12_copies 214 = .ok (.aload_n 0, 1) := by decide +kernel
theorem dX12_copies_215 : decode cX12_copies 215 = .ok (.getfield 111, 3) := by decide +kernel
theorem dX12_copies_218 : decode cX12_copies 218 = .ok (.bipush 12, 2) := by decide +kernel
theorem dX12_copies_220 : decode cX12_copies 220 = .ok (.iload_n 2, 1) := by decide +kernel
theorem dX12_copies_221 : decode cX12_copies 221 = .ok (.imul, 1) := by decide +kernel
theorem dX12_copies_222 : decode cX12_copies 222 = .ok (.iload_n 3, 1) := by decide +kernel
theorem dX12_copies_223 : decode cX12_copies 223 = .ok (.iadd, 1) := by decide +kernel
theorem dX12_copies_224 : decode cX12_copies 224 = .ok (.iaload, 1) := by decide +kernel
theorem dX12_copies_225 : decode cX12_copies 225 = .ok (.iastore, 1) := by decide +kernel
theorem dX12_copies_226 : decode cX12_copies 226 = .ok (.aload_n 0, 1) := by decide +kernel
theorem dX12_copies_227 : decode cX12_copies 227 = .ok (.getfield 114, 3) := by decide +kernel
theorem dX12_copies_230 : decode cX12_copies 230 = .ok (.bipush 12, 2) := by decide +kernel
theorem dX12_copies_232 : decode cX12_copies 232 = .ok (.iload_n 1, 1) := by decide +kernel
theorem dX12_copies_233 : decode cX12_copies 233 = .ok (.imul, 1) := by decide +kernel
theorem dX12_copies_234 : decode cX12_copies 234 = .ok (.iload_n 3, 1) := by decide +kernel
theorem dX12_copies_235 : decode cX12_copies 235 = .ok (.iadd, 1) := by decide +kernel
theorem dX12_copies_236 : decode cX12_copies 236 = .ok (.aload_n 0, 1) := by decide +kernel
theorem dX12_copies_237 : decode cX12_copies 237 = .ok (.getfield 114, 3) := by decide +kernel
theorem dX12_copies_240 : decode cX12_copies 240 = .ok (.bipush 12, 2) := by decide +kernel
theorem dX12_copies_242 : decode cX12_copies 242 = .ok (.iload_n 2, 1) := by decide +kernel
theorem dX12_copies_243 : decode cX12_copies 243 = .ok (.imul, 1) := by decide +kernel
theorem dX12_copies_244 : decode cX12_copies 244 = .ok (.iload_n 3, 1) := by decide +kernel
theorem dX12_copies_245 : decode cX12_copies 245 = .ok (.iadd, 1) := by decide +kernel
theorem dX12_copies_246 : decode cX12_copies 246 = .ok (.iaload, 1) := by decide +kernel
theorem dX12_copies_247 : decode cX12_copies 247 = .ok (.iastore, 1) := by decide +kernel
theorem dX12_copies_248 : decode cX12_copies 248 = .ok (.iinc 3 1, 3) := by decide +kernel
theorem dX12_copies_251 : decode cX12_copies 251 = .ok (.goto (-75), 3) := by decide +kernel
theorem dX12_copies_254 : decode cX12_copies 254 = .ok (.return_, 1) := by decide +kernel
theorem dX12_count_0 : decode cX12_count 0 = .ok (.aload_n 0, 1) := by decide +kernel
theorem dX12_count_1 : decode cX12_count 1 = .ok (.iconst 0, 1) := by decide +kernel
theorem dX12_count_2 : decode cX12_count 2 = .ok (.putfield 163, 3) := by decide +kernel
theorem dX12_count_5 : decode cX12_count 5 = .ok (.iconst 0, 1) := by decide +kernel
theorem dX12_count_6 : decode cX12_count 6 = .ok (.istore_n 2, 1) := by decide +kernel
theorem dX12_count_7 : decode cX12_count 7 = .ok (.iload_n 1, 1) := by decide +kernel
theorem dX12_count_8 : decode cX12_count 8 = .ok (.tableswitch 211 0 11 #[64, 71, 78, 85, 92, 100, 107, 114, 121, 126, 131, 141], 64) := by decide +kernel
theorem dX12_count_72 : decode cX12_count 72 = .ok (.aload_n 0, 1) := by decide +kernel
theorem dX12_count_73 : decode cX12_count 73 = .ok (.getfield 13, 3) := by decide +kernel
theorem dX12_count_76 : decode cX12_count 76 = .ok (.iconst 0, 1) := by decide +kernel
theorem dX12_count_77 : decode cX12_count 77 = .ok (.iaload, 1) := by decide +kernel
theorem dX12_count_78 : decode cX12_count 78 = .ok (.ireturn, 1) := by decide +kernel
theorem dX12_count_79 : decode cX12_count 79 = .ok (.aload_n 0, 1) := by decide +kernel
theorem dX12_count_80 : decode cX12_count 80 = .ok (.getfield 13, 3) := by decide +kernel
theorem dX12_count_83 : decode cX12_count 83 = .ok (.iconst 1, 1) := by decide +kernel
theorem dX12_count_84 : decode cX12_count 84 = .ok (.iaload, 1) := by decide +kernel
theorem dX12_count_85 : decode cX12_count 85 = .ok (.ireturn, 1) := by decide +kernel
theorem dX12_count_86 : decode cX12_count 86 = .ok (.aload_n 0, 1) := by decide +kernel
theorem dX12_count_87 : decode cX12_count 87 = .ok (.getfield 13, 3) := by decide +kernel
theorem dX12_count_90 : decode cX12_count 90 = .ok (.iconst 2, 1) := by decide +kernel
theorem dX12_count_91 : decode cX12_count 91 = .ok (.iaload, 1) := by decide +kernel
theorem dX12_count_92 : decode cX12_count 92 = .ok (.ireturn, 1) := by decide +kernel
theorem dX12_count_93 : decode cX12_count 93 = .ok (.aload_n 0, 1) := by decide +kernel
theorem dX12_count_94 : decode cX12_count 94 = .ok (.getfield 13, 3) := by decide +kernel
theorem dX12_count_97 : decode cX12_count 97 = .ok (.iconst 3, 1) := by decide +kernel
theorem dX12_count_98 : decode cX12_count 98 = .ok (.iaload, 1) := by decide +kernel
theorem dX12_count_99 : decode cX12_count 99 = .ok (.ireturn, 1) := by decide +kernel
theorem dX12_count_100 : decode cX12_count 100 = .ok (.aload_n 0, 1) := by decide +kernel
theorem dX12_count_101 : decode cX12_count 101 = .ok (.getfield 13, 3) := by decide +kernel
theorem dX12_count_104 : decode cX12_count 104 = .ok (.bipush 6, 2) := by decide +kernel
theorem dX12_count_106 : decode cX12_count 106 = .ok (.iaload, 1) := by decide +kernel
theorem dX12_count_107 : decode cX12_count 107 = .ok (.ireturn, 1) := by decide +kernel
theorem dX12_count_108 : decode cX12_count 108 = .ok (.aload_n 0, 1) := by decide +kernel
theorem dX12_count_109 : decode cX12_count 109 = .ok (.getfield 81, 3) := by decide +kernel
theorem dX12_count_112 : decode cX12_count 112 = .ok (.iconst 0, 1) := by decide +kernel
theorem dX12_count_113 : decode cX12_count 113 = .ok (.iaload, 1) := by decide +kernel
theorem dX12_count_114 : decode cX12_count 114 = .ok (.ireturn, 1) := by decide +kernel
theorem dX12_count_115 : decode cX12_count 115 = .ok (.aload_n 0, 1) := by decide +kernel
theorem dX12_count_116 : decode cX12_count 116 = .ok (.getfield 84, 3) := by decide +kernel
theorem dX12_count_119 : decode cX12_count 119 = .ok (.iconst 0, 1) := by decide +kernel
theorem dX12_count_120 : decode cX12_count 120 = .ok (.iaload, 1) := by decide +kernel
theorem dX12_count_121 : decode cX12_count 121 = .ok (.ireturn, 1) := by decide +kernel
theorem dX12_count_122 : decode cX12_count 122 = .ok (.aload_n 0, 1) := by decide +kernel
theorem dX12_count_123 : decode cX12_count 123 = .ok (.getfield 108, 3) := by decide +kernel
theorem dX12_count_126 : decode cX12_count 126 = .ok (.iconst 0, 1) := by decide +kernel
theorem dX12_count_127 : decode cX12_count 127 = .ok (.iaload, 1) := by decide +kernel
theorem dX12_count_128 : decode cX12_count 128 = .ok (.ireturn, 1) := by decide +kernel
theorem dX12_count_129 : decode cX12_count 129 = .ok (.aload_n 0, 1) := by decide +kernel
theorem dX12_count_130 : decode cX12_count 130 = .ok (.getfield 325, 3) := by decide +kernel
theorem dX12_count_133 : decode cX12_count 133 = .ok (.ireturn, 1) := by decide +kernel
theorem dX12_count_134 : decode cX12_count 134 = .ok (.aload_n 0, 1) := by decide +kernel
theorem dX12_count_135 : decode cX12_count 135 = .ok (.invokevirtual 467, 3) := by decide +kernel
theorem dX12_count_138 : decode cX12_count 138 = .ok (.ireturn, 1) := by decide +kernel
theorem dX12_count_139 : decode cX12_count 139 = .ok (.aload_n 0, 1) := by decide +kernel
theorem dX12_count_140 : decode cX12_count 140 = .ok (.getfield 93, 3) := by decide +kernel
theorem dX12_count_143 : decode cX12_count 143 = .ok (.iconst 0, 1) := by decide +kernel
theorem dX12_count_144 : decode cX12_count 144 = .ok (.iaload, 1) := by decide +kernel
theorem dX12_count_145 : decode cX12_count 145 = .ok (.invokestatic 485, 3) := by decide +kernel
theorem dX12_count_148 : decode cX12_count 148 = .ok (.ireturn, 1) := by decide +kernel
theorem dX12_count_149 : decode cX12_count 149 = .ok (.iconst 0, 1) := by decide +kernel
theorem dX12_count_150 : decode cX12_count 150 = .ok (.istore_n 3, 1) := by decide +kernel
theorem dX12_count_151 : decode cX12_count 151 = .ok (.iload_n 3, 1) := by decide +kernel
theorem dX12_count_152 : decode cX12_count 152 = .ok (.aload_n 0, 1) := by decide +kernel
theorem dX12_count_153 : decode cX12_count 153 = .ok (.getfield 13, 3) := by decide +kernel
theorem dX12_count_156 : decode cX12_count 156 = .ok (.iconst 0, 1) := by decide +kernel
theorem dX12_count_157 : decode cX12_count 157 = .ok (.iaload, 1) := by decide +kernel
theorem dX12_count_158 : decode cX12_count 158 = .ok (.if_icmp .ge 18, 3) := by decide +kernel
theorem dX12_count_176 : decode cX12_count 176 = .ok (.iconst 0, 1) := by decide +kernel
theorem dX12_count_177 : decode cX12_count 177 = .ok (.istore_n 3, 1) := by decide +kernel
theorem dX12_count_178 : decode cX12_count 178 = .ok (.iload_n 3, 1) := by decide +kernel
theorem dX12_count_179 : decode cX12_count 179 = .ok (.aload_n 0, 1) := by decide +kernel
theorem dX12_count_180 : decode cX12_count 180 = .ok (.getfield 13, 3) := by decide +kernel
theorem dX12_count_183 : decode cX12_count 183 = .ok (.iconst 3, 1) := by decide +kernel
theorem dX12_count_184 : decode cX12_count 184 = .ok (.iaload, 1) := by decide +kernel
theorem dX12_count_185 : decode cX12_count 185 = .ok (.if_icmp .ge 18, 3) := by decide +kernel
theorem dX12_count_203 : decode cX12_count 203 = .ok (.iload_n 2, 1) := by decide +kernel
theorem dX12_count_204 : decode cX12_count 204 = .ok (.aload_n 0, 1) := by decide +kernel
theorem dX12_count_205 : decode cX12_count 205 = .ok (.getfield 84, 3) := by decide +kernel
theorem dX12_count_208 : decode cX12_count 208 = .ok (.iconst 0, 1) := by decide +kernel
theorem dX12_count_209 : decode cX12_count 209 = .ok (.iaload, 1) := by decide +kernel
theorem dX12_count_210 : decode cX12_count 210 = .ok (.iadd, 1) := by decide +kernel
theorem dX12_count_211 : decode cX12_count 211 = .ok (.aload_n 0, 1) := by decide +kernel
theorem dX12_count_212 : decode cX12_count 212 = .ok (.getfield 90, 3) := by decide +kernel
theorem dX12_count_215 : decode cX12_count 215 = .ok (.iconst 0, 1) := by decide +kernel
theorem dX12_count_216 : decode cX12_count 216 = .ok (.iaload, 1) := by decide +kernel
theorem dX12_count_217 : decode cX12_count 217 = .ok (.iadd, 1) := by decide +kernel
theorem dX12_count_218 : decode cX12_count 218 = .ok (.ireturn, 1) := by decide +kernel
theorem dX12_count_219 : decode cX12_count 219 = .ok (.iconst (-1), 1) := by decide +kernel
theorem dX12_count_220 : decode cX12_count 220 = .ok (.ireturn, 1) := by decide +kernel
theorem dX12_cracks_0 : decode cX12_cracks 0 = .ok (.aload_n 0, 1) := by decide +kernel
theorem dX12_cracks_1 : decode cX12_cracks 1 = .ok (.iconst 0, 1) := by decide +kernel
theorem dX12_cracks_2 : decode cX12_cracks 2 = .ok (.putfield 163, 3) := by decide +kernel
theorem dX12_cracks_5 : decode cX12_cracks 5 = .ok (.aload_n 0, 1) := by decide +kernel
theorem dX12_cracks_6 : decode cX12_cracks 6 = .ok (.iload_n 1, 1) := by decide +kernel
theorem dX12_cracks_7 : decode cX12_cracks 7 = .ok (.invokevirtual 335, 3) := by decide +kernel
theorem dX12_cracks_10 : decode cX12_cracks 10 = .ok (.ifCond .eq 12, 3) := by decide +kernel
theorem dX12_cracks_22 : decode cX12_cracks 22 = .ok (.iconst (-1), 1) := by decide +kernel
theorem dX12_cracks_23 : decode cX12_cracks 23 = .ok (.ireturn, 1) := by decide +kernel
theorem dX12_due_0 : decode cX12_due 0 = .ok (.aload_n 0, 1) := by decide +kernel
theorem dX12_due_1 : decode cX12_due 1 = .ok (.iconst 0, 1) := by decide +kernel
theorem dX12_due_2 : decode cX12_due 2 = .ok (.putfield 163, 3) := by decide +kernel
theorem dX12_due_5 : decode cX12_due 5 = .ok (.aload_n 0, 1) := by decide +kernel
theorem dX12_due_6 : decode cX12_due 6 = .ok (.iload_n 1, 1) := by decide +kernel
theorem dX12_due_7 : decode cX12_due 7 = .ok (.iload_n 2, 1) := by decide +kernel
theorem dX12_due_8 : decode cX12_due 8 = .ok (.invokevirtual 344, 3) := by decide +kernel
theorem dX12_due_11 : decode cX12_due 11 = .ok (.ifCond .eq 24, 3) := by decide +kernel
theorem dX12_due_35 : decode cX12_due 35 = .ok (.iconst (-1), 1) := by decide +kernel
theorem dX12_due_36 : decode cX12_due 36 = .ok (.ireturn, 1) := by decide +kernel
theorem dX12_easter_0 : decode cX12_easter 0 = .ok (.aload_n 0, 1) := by decide +kernel
theorem dX12_easter_1 : decode cX12_easter 1 = .ok (.iconst 0, 1) := by decide +kernel
theorem dX12_easter_2 : decode cX12_easter 2 = .ok (.putfield 163, 3) := by decide +kernel
theorem dX12_easter_5 : decode cX12_easter 5 = .ok (.aload_n 0, 1) := by decide +kernel
theorem dX12_easter_6 : decode cX12_easter 6 = .ok (.iload_n 1, 1) := by decide +kernel
theorem dX12_easter_7 : decode cX12_easter 7 = .ok (.invokevirtual 461, 3) := by decide +kernel
theorem dX12_easter_10 : decode cX12_easter 10 = .ok (.ifCond .ne 5, 3) := by decide +kernel
theorem dX12_easter_13 : decode cX12_easter 13 = .ok (.iconst (-1), 1) := by decide +kernel
theorem dX12_easter_14 : decode cX12_easter 14 = .ok (.ireturn, 1) := by decide +kernel
theorem dX12_easter_15 : decode cX12_easter 15 = .ok (.aload_n 0, 1) := by decide +kernel
theorem dX12_easter_16 : decode cX12_easter 16 = .ok (.iload_n 1, 1) := by decide +kernel
theorem dX12_easter_17 : decode cX12_easter 17 = .ok (.aload_n 0, 1) := by decide +kernel
theorem dX12_easter_18 : decode cX12_easter 18 = .ok (.getfield 13, 3) := by decide +kernel
theorem dX12_easter_21 : decode cX12_easter 21 = .ok (.iconst 2, 1) := by decide +kernel
theorem dX12_easter_22 : decode cX12_easter 22 = .ok (.iaload, 1) := by decide +kernel
theorem dX12_easter_23 : decode cX12_easter 23 = .ok (.iconst 1, 1) := by decide +kernel
theorem dX12_easter_24 : decode cX12_easter 24 = .ok (.isub, 1) := by decide +kernel
theorem dX12_easter_25 : decode cX12_easter 25 = .ok (.invokevirtual 464, 3) := by decide +kernel
theorem dX12_easter_28 : decode cX12_easter 28 = .ok (.istore_n 2, 1) := by decide +kernel
theorem dX12_easter_29 : decode cX12_easter 29 = .ok (.iconst 0, 1) := by decide +kernel
theorem dX12_easter_30 : decode cX12_easter 30 = .ok (.istore_n 3, 1) := by decide +kernel
theorem dX12_easter_31 : decode cX12_easter 31 = .ok (.iload_n 3, 1) := by decide +kernel
theorem dX12_easter_32 : decode cX12_easter 32 = .ok (.aload_n 0, 1) := by decide +kernel
theorem dX12_easter_33 : decode cX12_easter 33 = .ok (.getfield 13, 3) := by decide +kernel
theorem dX12_easter_36 : decode cX12_easter 36 = .ok (.iconst 3, 1) := by decide +kernel
theorem dX12_easter_37 : decode cX12_easter 37 = .ok (.iaload, 1) := by decide +kernel
theorem dX12_easter_38 : decode cX12_easter 38 = .ok (.if_icmp .ge 21, 3) := by decide +kernel
theorem dX12_easter_59 : decode cX12_easter 59 = .ok (.aload_n 0, 1) := by decide +kernel
theorem dX12_easter_60 : decode cX12_easter 60 = .ok (.getfield 84, 3) := by decide +kernel
theorem dX12_easter_63 : decode cX12_easter 63 = .ok (.iconst 0, 1) := by decide +kernel
theorem dX12_easter_64 : decode cX12_easter 64 = .ok (.dup2, 1) := by decide +kernel
theorem dX12_easter_65 : decode cX12_easter 65 = .ok (.iaload, 1) := by decide +kernel
theorem dX12_easter_66 : decode cX12_easter 66 = .ok (.iload_n 2, 1) := by decide +kernel
theorem dX12_easter_67 : decode cX12_easter 67 = .ok (.iadd, 1) := by decide +kernel
theorem dX12_easter_68 : decode cX12_easter 68 = .ok (.iastore, 1) := by decide +kernel
theorem dX12_easter_69 : decode cX12_easter 69 = .ok (.iload_n 2, 1) := by decide +kernel
theorem dX12_easter_70 : decode cX12_easter 70 = .ok (.ireturn, 1) := by decide +kernel
theorem dX12_entry_0 : decode cX12_entry 0 = .ok (.aload_n 0, 1) := by decide +kernel
theorem dX12_entry_1 : decode cX12_entry 1 = .ok (.iconst 0, 1) := by decide +kernel
theorem dX12_entry_2 : decode cX12_entry 2 = .ok (.putfield 163, 3) := by decide +kernel
theorem dX12_entry_5 : decode cX12_entry 5 = .ok (.aload_n 0, 1) := by decide +kernel
theorem dX12_entry_6 : decode cX12_entry 6 = .ok (.iload_n 1, 1) := by decide +kernel
theorem dX12_entry_7 : decode cX12_entry 7 = .ok (.iload_n 2, 1) := by decide +kernel
theorem dX12_entry_8 : decode cX12_entry 8 = .ok (.invokevirtual 344, 3) := by decide +kernel
theorem dX12_entry_11 : decode cX12_entry 11 = .ok (.ifCond .eq 23, 3) := by decide +kernel
theorem dX12_entry_34 : decode cX12_entry 34 = .ok (.iconst (-1), 1) := by decide +kernel
theorem dX12_entry_35 : decode cX12_entry 35 = .ok (.ireturn, 1) := by decide +kernel
theorem dX12_fault_0 : decode cX12_fault 0 = .ok (.aload_n 0, 1) := by decide +kernel
theorem dX12_fault_1 : decode cX12_fault 1 = .ok (.iconst 0, 1) := by decide +kernel
theorem dX12_fault_2 : decode cX12_fault 2 = .ok (.putfield 163, 3) := by decide +kernel
theorem dX12_fault_5 : decode cX12_fault 5 = .ok (.iload_n 1, 1) := by decide +kernel
theorem dX12_fault_6 : decode cX12_fault 6 = .ok (.ifCond .ne 10, 3) := by decide +kernel
theorem dX12_fault_9 : decode cX12_fault 9 = .ok (.aload_n 0, 1) := by decide +kernel
theorem dX12_fault_10 : decode cX12_fault 10 = .ok (.getfield 318, 3) := by decide +kernel
theorem dX12_fault_13 : decode cX12_fault 13 = .ok (.goto 16, 3) := by decide +kernel
theorem dX12_fault_16 : decode cX12_fault 16 = .ok (.iload_n 1, 1) := by decide +kernel
theorem dX12_fault_17 : decode cX12_fault 17 = .ok (.iconst 1, 1) := by decide +kernel
theorem dX12_fault_18 : decode cX12_fault 18 = .ok (.if_icmp .ne 10, 3) := by decide +kernel
theorem dX12_fault_21 : decode cX12_fault 21 = .ok (.aload_n 0, 1) := by decide +kernel
theorem dX12_fault_22 : decode cX12_fault 22 = .ok (.getfield 77, 3) := by decide +kernel
theorem dX12_fault_25 : decode cX12_fault 25 = .ok (.goto 4, 3) := by decide +kernel
theorem dX12_fault_28 : decode cX12_fault 28 = .ok (.iconst (-1), 1) := by decide +kernel
theorem dX12_fault_29 : decode cX12_fault 29 = .ok (.ireturn, 1) := by decide +kernel
theorem dX12_feed_0 : decode cX12_feed 0 = .ok (.aload_n 0, 1) := by decide +kernel
theorem dX12_feed_1 : decode cX12_feed 1 = .ok (.iconst 0, 1) := by decide +kernel
theorem dX12_feed_2 : decode cX12_feed 2 = .ok (.putfield 163, 3) := by decide +kernel
theorem dX12_feed_5 : decode cX12_feed 5 = .ok (.aload_n 0, 1) := by decide +kernel
theorem dX12_feed_6 : decode cX12_feed 6 = .ok (.getfield 166, 3) := by decide +kernel
theorem dX12_feed_9 : decode cX12_feed 9 = .ok (.sipush 780, 3) := by decide +kernel
theorem dX12_feed_12 : decode cX12_feed 12 = .ok (.if_icmp .le 5, 3) := by decide +kernel
theorem dX12_feed_17 : decode cX12_feed 17 = .ok (.iconst 0, 1) := by decide +kernel
theorem dX12_feed_18 : decode cX12_feed 18 = .ok (.istore 6, 2) := by decide +kernel
theorem dX12_feed_20 : decode cX12_feed 20 = .ok (.iload 6, 2) := by decide +kernel
theorem dX12_feed_22 : decode cX12_feed 22 = .ok (.bipush 20, 2) := by decide +kernel
theorem dX12_feed_24 : decode cX12_feed 24 = .ok (.if_icmp .ge 86, 3) := by decide +kernel
theorem dX12_feed_27 : decode cX12_feed 27 = .ok (.iload 6, 2) := by decide +kernel
theorem dX12_feed_29 : decode cX12_feed 29 = .ok (.iconst 4, 1) := by decide +kernel
theorem dX12_feed_30 : decode cX12_feed 30 = .ok (.if_icmp .ge 7, 3) := by decide +kernel
theorem dX12_feed_33 : decode cX12_feed 33 = .ok (.iload_n 1, 1) := by decide +kernel
theorem dX12_feed_34 : decode cX12_feed 34 = .ok (.goto 39, 3) := by decide +kernel
theorem dX12_feed_37 : decode cX12_feed 37 = .ok (.iload 6, 2) := by decide +kernel
theorem dX12_feed_39 : decode cX12_feed 39 = .ok (.bipush 8, 2) := by decide +kernel
theorem dX12_feed_41 : decode cX12_feed 41 = .ok (.if_icmp .ge 7, 3) := by decide +kernel
theorem dX12_feed_44 : decode cX12_feed 44 = .ok (.iload_n 2, 1) := by decide +kernel
theorem dX12_feed_45 : decode cX12_feed 45 = .ok (.goto 28, 3) := by decide +kernel
theorem dX12_feed_48 : decode cX12_feed 48 = .ok (.iload 6, 2) := by decide +kernel
theorem dX12_feed_50 : decode cX12_feed 50 = .ok (.bipush 12, 2) := by decide +kernel
theorem dX12_feed_52 : decode cX12_feed 52 = .ok (.if_icmp .ge 7, 3) := by decide +kernel
theorem dX12_feed_55 : decode cX12_feed 55 = .ok (.iload_n 3, 1) := by decide +kernel
theorem dX12_feed_56 : decode cX12_feed 56 = .ok (.goto 17, 3) := by decide +kernel
theorem dX12_feed_59 : decode cX12_feed 59 = .ok (.iload 6, 2) := by decide +kernel
theorem dX12_feed_61 : decode cX12_feed 61 = .ok (.bipush 16, 2) := by decide +kernel
theorem dX12_feed_63 : decode cX12_feed 63 = .ok (.if_icmp .ge 8, 3) := by decide +kernel
theorem dX12_feed_66 : decode cX12_feed 66 = .ok (.iload 4, 2) := by decide +kernel
theorem dX12_feed_68 : decode cX12_feed 68 = .ok (.goto 5, 3) := by decide +kernel
theorem dX12_feed_71 : decode cX12_feed 71 = .ok (.iload 5, 2) := by decide +kernel
theorem dX12_feed_73 : decode cX12_feed 73 = .ok (.istore 7, 2) := by decide +kernel
theorem dX12_feed_75 : decode cX12_feed 75 = .ok (.aload_n 0, 1) := by decide +kernel
theorem dX12_feed_76 : decode cX12_feed 76 = .ok (.getfield 7, 3) := by decide +kernel
theorem dX12_feed_79 : decode cX12_feed 79 = .ok (.aload_n 0, 1) := by decide +kernel
theorem dX12_feed_80 : decode cX12_feed 80 = .ok (.getfield 166, 3) := by decide +kernel
theorem dX12_feed_83 : decode cX12_feed 83 = .ok (.iload 6, 2) := by decide +kernel
theorem dX12_feed_85 : decode cX12_feed 85 = .ok (.iadd, 1) := by decide +kernel
theorem dX12_feed_86 : decode cX12_feed 86 = .ok (.iload 7, 2) := by decide +kernel
theorem dX12_feed_88 : decode cX12_feed 88 = .ok (.bipush 24, 2) := by decide +kernel
theorem dX12_feed_90 : decode cX12_feed 90 = .ok (.bipush 8, 2) := by decide +kernel
theorem dX12_feed_92 : decode cX12_feed 92 = .ok (.iload 6, 2) := by decide +kernel
theorem dX12_feed_94 : decode cX12_feed 94 = .ok (.iconst 4, 1) := by decide +kernel
theorem dX12_feed_95 : decode cX12_feed 95 = .ok (.irem, 1) := by decide +kernel
theorem dX12_feed_96 : decode cX12_feed 96 = .ok (.imul, 1) := by decide +kernel
theorem dX12_feed_97 : decode cX12_feed 97 = .ok (.isub, 1) := by decide +kernel
theorem dX12_feed_98 : decode cX12_feed 98 = .ok (.ishr, 1) := by decide +kernel
theorem dX12_feed_99 : decode cX12_feed 99 = .ok (.sipush 255, 3) := by decide +kernel
theorem dX12_feed_102 : decode cX12_feed 102 = .ok (.iand, 1) := by decide +kernel
theorem dX12_feed_103 : decode cX12_feed 103 = .ok (.iastore, 1) := by decide +kernel
theorem dX12_feed_104 : decode cX12_feed 104 = .ok (.iinc 6 1, 3) := by decide +kernel
theorem dX12_feed_107 : decode cX12_feed 107 = .ok (.goto (-87), 3) := by decide +kernel
theorem dX12_feed_110 : decode cX12_feed 110 = .ok (.aload_n 0, 1) := by decide +kernel
theorem dX12_feed_111 : decode cX12_feed 111 = .ok (.dup, 1) := by decide +kernel
theorem dX12_feed_112 : decode cX12_feed 112 = .ok (.getfield 166, 3) := by decide +kernel
theorem dX12_feed_115 : decode cX12_feed 115 = .ok (.bipush 20, 2) := by decide +kernel
theorem dX12_feed_117 : decode cX12_feed 117 = .ok (.iadd, 1) := by decide +kernel
theorem dX12_feed_118 : decode cX12_feed 118 = .ok (.putfield 166, 3) := by decide +kernel
theorem dX12_feed_121 : decode cX12_feed 121 = .ok (.aload_n 0, 1) := by decide +kernel
theorem dX12_feed_122 : decode cX12_feed 122 = .ok (.getfield 166, 3) := by decide +kernel
theorem dX12_feed_125 : decode cX12_feed 125 = .ok (.ireturn, 1) := by decide +kernel
theorem dX12_found_0 : decode cX12_found 0 = .ok (.iconst 0, 1) := by decide +kernel
theorem dX12_found_1 : decode cX12_found 1 = .ok (.istore 4, 2) := by decide +kernel
theorem dX12_found_3 : decode cX12_found 3 = .ok (.iload 4, 2) := by decide +kernel
theorem dX12_found_5 : decode cX12_found 5 = .ok (.iload_n 2, 1) := by decide +kernel
theorem dX12_found_6 : decode cX12_found 6 = .ok (.if_icmp .ge 22, 3) := by decide +kernel
theorem dX12_found_28 : decode cX12_found 28 = .ok (.iconst (-1), 1) := by decide +kernel
theorem dX12_found_29 : decode cX12_found 29 = .ok (.ireturn, 1) := by decide +kernel
theorem dX12_gang_0 : decode cX12_gang 0 = .ok (.aload_n 0, 1) := by decide +kernel
theorem dX12_gang_1 : decode cX12_gang 1 = .ok (.iconst 0, 1) := by decide +kernel
theorem dX12_gang_2 : decode cX12_gang 2 = .ok (.putfield 163, 3) := by decide +kernel
theorem dX12_gang_5 : decode cX12_gang 5 = .ok (.aload_n 0, 1) := by decide +kernel
theorem dX12_gang_6 : decode cX12_gang 6 = .ok (.invokevirtual 473, 3) := by decide +kernel
theorem dX12_gang_9 : decode cX12_gang 9 = .ok (.bipush (-2), 2) := by decide +kernel
theorem dX12_gang_11 : decode cX12_gang 11 = .ok (.istore_n 1, 1) := by decide +kernel
theorem dX12_gang_12 : decode cX12_gang 12 = .ok (.iconst 0, 1) := by decide +kernel
theorem dX12_gang_13 : decode cX12_gang 13 = .ok (.istore_n 2, 1) := by decide +kernel
theorem dX12_gang_14 : decode cX12_gang 14 = .ok (.iload_n 2, 1) := by decide +kernel
theorem dX12_gang_15 : decode cX12_gang 15 = .ok (.iconst 1, 1) := by decide +kernel
theorem dX12_gang_16 : decode cX12_gang 16 = .ok (.aload_n 0, 1) := by decide +kernel
theorem dX12_gang_17 : decode cX12_gang 17 = .ok (.getfield 13, 3) := by decide +kernel
theorem dX12_gang_20 : decode cX12_gang 20 = .ok (.iconst 1, 1) := by decide +kernel
theorem dX12_gang_21 : decode cX12_gang 21 = .ok (.iaload, 1) := by decide +kernel
theorem dX12_gang_22 : decode cX12_gang 22 = .ok (.ishl, 1) := by decide +kernel
theorem dX12_gang_23 : decode cX12_gang 23 = .ok (.if_icmp .ge 36, 3) := by decide +kernel
theorem dX12_gang_26 : decode cX12_gang 26 = .ok (.iload_n 1, 1) := by decide +kernel
theorem dX12_gang_27 : decode cX12_gang 27 = .ok (.bipush (-2), 2) := by decide +kernel
theorem dX12_gang_29 : decode cX12_gang 29 = .ok (.if_icmp .eq 14, 3) := by decide +kernel
theorem dX12_gang_43 : decode cX12_gang 43 = .ok (.aload_n 0, 1) := by decide +kernel
theorem dX12_gang_44 : decode cX12_gang 44 = .ok (.iload_n 2, 1) := by decide +kernel
theorem dX12_gang_45 : decode cX12_gang 45 = .ok (.invokevirtual 488, 3) := by decide +kernel
theorem dX12_gang_48 : decode cX12_gang 48 = .ok (.ifCond .eq 5, 3) := by decide +kernel
theorem dX12_gang_51 : decode cX12_gang 51 = .ok (.iload_n 2, 1) := by decide +kernel
theorem dX12_gang_52 : decode cX12_gang 52 = .ok (.istore_n 1, 1) := by decide +kernel
theorem dX12_gang_53 : decode cX12_gang 53 = .ok (.iinc 2 1, 3) := by decide +kernel
theorem dX12_gang_56 : decode cX12_gang 56 = .ok (.goto (-42), 3) := by decide +kernel
theorem dX12_gang_59 : decode cX12_gang 59 = .ok (.iload_n 1, 1) := by decide +kernel
theorem dX12_gang_60 : decode cX12_gang 60 = .ok (.ireturn, 1) := by decide +kernel
theorem dX12_half_0 : decode cX12_half 0 = .ok (.aload_n 0, 1) := by decide +kernel
theorem dX12_half_1 : decode cX12_half 1 = .ok (.arraylength, 1) := by decide +kernel
theorem dX12_half_2 : decode cX12_half 2 = .ok (.iconst 2, 1) := by decide +kernel
theorem dX12_half_3 : decode cX12_half 3 = .ok (.idiv, 1) := by decide +kernel
theorem dX12_half_4 : decode cX12_half 4 = .ok (.istore_n 1, 1) := by decide +kernel
theorem dX12_half_5 : decode cX12_half 5 = .ok (.iconst 0, 1) := by decide +kernel
theorem dX12_half_6 : decode cX12_half 6 = .ok (.istore_n 2, 1) := by decide +kernel
theorem dX12_half_7 : decode cX12_half 7 = .ok (.iload_n 2, 1) := by decide +kernel
theorem dX12_half_8 : decode cX12_half 8 = .ok (.iload_n 1, 1) := by decide +kernel
theorem dX12_half_9 : decode cX12_half 9 = .ok (.if_icmp .ge 17, 3) := by decide +kernel
theorem dX12_half_12 : decode cX12_half 12 = .ok (.aload_n 0, 1) := by decide +kernel
theorem dX12_half_13 : decode cX12_half 13 = .ok (.iload_n 2, 1) := by decide +kernel
theorem dX12_half_14 : decode cX12_half 14 = .ok (.aload_n 0, 1) := by decide +kernel
theorem dX12_half_15 : decode cX12_half 15 = .ok (.iload_n 1, 1) := by decide +kernel
theorem dX12_half_16 : decode cX12_half 16 = .ok (.iload_n 2, 1) := by decide +kernel
theorem dX12_half_17 : decode cX12_half 17 = .ok (.iadd, 1) := by decide +kernel
theorem dX12_half_18 : decode cX12_half 18 = .ok (.iaload, 1) := by decide +kernel
theorem dX12_half_19 : decode cX12_half 19 = .ok (.iastore, 1) := by decide +kernel
theorem dX12_half_20 : decode cX12_half 20 = .ok (.iinc 2 1, 3) := by decide +kernel
theorem dX12_half_23 : decode cX12_half 23 = .ok (.goto (-16), 3) := by decide +kernel
theorem dX12_half_26 : decode cX12_half 26 = .ok (.return_, 1) := by decide +kernel
theorem dX12_here_0 : decode cX12_here 0 = .ok (.aload_n 0, 1) := by decide +kernel
theorem dX12_here_1 : decode cX12_here 1 = .ok (.getfield 169, 3) := by decide +kernel
theorem dX12_here_4 : decode cX12_here 4 = .ok (.aload_n 0, 1) := by decide +kernel
theorem dX12_here_5 : decode cX12_here 5 = .ok (.getfield 172, 3) := by decide +kernel
theorem dX12_here_8 : decode cX12_here 8 = .ok (.if_icmp .ge 15, 3) := by decide +kernel
theorem dX12_here_23 : decode cX12_here 23 = .ok (.iconst (-1), 1) := by decide +kernel
theorem dX12_here_24 : decode cX12_here 24 = .ok (.ireturn, 1) := by decide +kernel
theorem dX12_hum_0 : decode cX12_hum 0 = .ok (.aload_n 0, 1) := by decide +kernel
theorem dX12_hum_1 : decode cX12_hum 1 = .ok (.iconst 0, 1) := by decide +kernel
theorem dX12_hum_2 : decode cX12_hum 2 = .ok (.putfield 163, 3) := by decide +kernel
theorem dX12_hum_5 : decode cX12_hum 5 = .ok (.iload_n 1, 1) := by decide +kernel
theorem dX12_hum_6 : decode cX12_hum 6 = .ok (.iconst 1, 1) := by decide +kernel
theorem dX12_hum_7 : decode cX12_hum 7 = .ok (.if_icmp .lt 18, 3) := by decide +kernel
theorem dX12_hum_10 : decode cX12_hum 10 = .ok (.iload_n 1, 1) := by decide +kernel
theorem dX12_hum_11 : decode cX12_hum 11 = .ok (.bipush 40, 2) := by decide +kernel
theorem dX12_hum_13 : decode cX12_hum 13 = .ok (.if_icmp .gt 12, 3) := by decide +kernel
theorem dX12_hum_16 : decode cX12_hum 16 = .ok (.aload_n 0, 1) := by decide +kernel
theorem dX12_hum_17 : decode cX12_hum 17 = .ok (.getfield 325, 3) := by decide +kernel
theorem dX12_hum_20 : decode cX12_hum 20 = .ok (.bipush 24, 2) := by decide +kernel
theorem dX12_hum_22 : decode cX12_hum 22 = .ok (.if_icmp .ne 5, 3) := by decide +kernel
theorem dX12_hum_25 : decode cX12_hum 25 = .ok (.iconst (-1), 1) := by decide +kernel
theorem dX12_hum_26 : decode cX12_hum 26 = .ok (.ireturn, 1) := by decide +kernel
theorem dX12_hum_27 : decode cX12_hum 27 = .ok (.aload_n 0, 1) := by decide +kernel
theorem dX12_hum_28 : decode cX12_hum 28 = .ok (.getfield 145, 3) := by decide +kernel
theorem dX12_hum_31 : decode cX12_hum 31 = .ok (.aload_n 0, 1) := by decide +kernel
theorem dX12_hum_32 : decode cX12_hum 32 = .ok (.getfield 325, 3) := by decide +kernel
theorem dX12_hum_35 : decode cX12_hum 35 = .ok (.iload_n 1, 1) := by decide +kernel
theorem dX12_hum_36 : decode cX12_hum 36 = .ok (.iastore, 1) := by decide +kernel
theorem dX12_hum_37 : decode cX12_hum 37 = .ok (.aload_n 0, 1) := by decide +kernel
theorem dX12_hum_38 : decode cX12_hum 38 = .ok (.getfield 148, 3) := by decide +kernel
theorem dX12_hum_41 : decode cX12_hum 41 = .ok (.aload_n 0, 1) := by decide +kernel
theorem dX12_hum_42 : decode cX12_hum 42 = .ok (.getfield 325, 3) := by decide +kernel
theorem dX12_hum_45 : decode cX12_hum 45 = .ok (.iconst (-1), 1) := by decide +kernel
theorem dX12_hum_46 : decode cX12_hum 46 = .ok (.iastore, 1) := by decide +kernel
theorem dX12_hum_47 : decode cX12_hum 47 = .ok (.aload_n 0, 1) := by decide +kernel
theorem dX12_hum_48 : decode cX12_hum 48 = .ok (.dup, 1) := by decide +kernel
theorem dX12_hum_49 : decode cX12_hum 49 = .ok (.getfield 325, 3) := by decide +kernel
theorem dX12_hum_52 : decode cX12_hum 52 = .ok (.iconst 1, 1) := by decide +kernel
theorem dX12_hum_53 : decode cX12_hum 53 = .ok (.iadd, 1) := by decide +kernel
theorem dX12_hum_54 : decode cX12_hum 54 = .ok (.putfield 325, 3) := by decide +kernel
theorem dX12_hum_57 : decode cX12_hum 57 = .ok (.aload_n 0, 1) := by decide +kernel
theorem dX12_hum_58 : decode cX12_hum 58 = .ok (.getfield 325, 3) := by decide +kernel
theorem dX12_hum_61 : decode cX12_hum 61 = .ok (.iconst 1, 1) := by decide +kernel
theorem dX12_hum_62 : decode cX12_hum 62 = .ok (.isub, 1) := by decide +kernel
theorem dX12_hum_63 : decode cX12_hum 63 = .ok (.ireturn, 1) := by decide +kernel
theorem dX12_isCrowns_0 : decode cX12_isCrowns 0 = .ok (.iload_n 0, 1) := by decide +kernel
theorem dX12_isCrowns_1 : decode cX12_isCrowns 1 = .ok (.ifCond .lt 14, 3) := by decide +kernel
theorem dX12_isCrowns_4 : decode cX12_isCrowns 4 = .ok (.iload_n 0, 1) := by decide +kernel
theorem dX12_isCrowns_5 : decode cX12_isCrowns 5 = .ok (.sipush 1000, 3) := by decide +kernel
theorem dX12_isCrowns_8 : decode cX12_isCrowns 8 = .ok (.if_icmp .ge 7, 3) := by decide +kernel
theorem dX12_isCrowns_11 : decode cX12_isCrowns 11 = .ok (.iconst 1, 1) := by decide +kernel
theorem dX12_isCrowns_12 : decode cX12_isCrowns 12 = .ok (.goto 4, 3) := by decide +kernel
theorem dX12_isCrowns_15 : decode cX12_isCrowns 15 = .ok (.iconst 0, 1) := by decide +kernel
theorem dX12_isCrowns_16 : decode cX12_isCrowns 16 = .ok (.ireturn, 1) := by decide +kernel
theorem dX12_isGang_0 : decode cX12_isGang 0 = .ok (.iconst 0, 1) := by decide +kernel
theorem dX12_isGang_1 : decode cX12_isGang 1 = .ok (.istore_n 2, 1) := by decide +kernel
theorem dX12_isGang_2 : decode cX12_isGang 2 = .ok (.iload_n 2, 1) := by decide +kernel
theorem dX12_isGang_3 : decode cX12_isGang 3 = .ok (.aload_n 0, 1) := by decide +kernel
theorem dX12_isGang_4 : decode cX12_isGang 4 = .ok (.invokevirtual 467, 3) := by decide +kernel
theorem dX12_isGang_7 : decode cX12_isGang 7 = .ok (.if_icmp .ge 90, 3) := by decide +kernel
theorem dX12_isGang_97 : decode cX12_isGang 97 = .ok (.iconst 1, 1) := by decide +kernel
theorem dX12_isGang_98 : decode cX12_isGang 98 = .ok (.ireturn, 1) := by decide +kernel
theorem dX12_isPart_0 : decode cX12_isPart 0 = .ok (.aload_n 0, 1) := by decide +kernel
theorem dX12_isPart_1 : decode cX12_isPart 1 = .ok (.iload_n 1, 1) := by decide +kernel
theorem dX12_isPart_2 : decode cX12_isPart 2 = .ok (.invokevirtual 332, 3) := by decide +kernel
theorem dX12_isPart_5 : decode cX12_isPart 5 = .ok (.ifCond .eq 21, 3) := by decide +kernel
theorem dX12_isPart_26 : decode cX12_isPart 26 = .ok (.iconst 0, 1) := by decide +kernel
theorem dX12_isPart_27 : decode cX12_isPart 27 = .ok (.ireturn, 1) := by decide +kernel
theorem dX12_isTavern_0 : decode cX12_isTavern 0 = .ok (.iload_n 1, 1) := by decide +kernel
theorem dX12_isTavern_1 : decode cX12_isTavern 1 = .ok (.ifCond .lt 17, 3) := by decide +kernel
theorem dX12_isTavern_4 : decode cX12_isTavern 4 = .ok (.iload_n 1, 1) := by decide +kernel
theorem dX12_isTavern_5 : decode cX12_isTavern 5 = .ok (.aload_n 0, 1) := by decide +kernel
theorem dX12_isTavern_6 : decode cX12_isTavern 6 = .ok (.getfield 13, 3) := by decide +kernel
theorem dX12_isTavern_9 : decode cX12_isTavern 9 = .ok (.iconst 0, 1) := by decide +kernel
theorem dX12_isTavern_10 : decode cX12_isTavern 10 = .ok (.iaload, 1) := by decide +kernel
theorem dX12_isTavern_11 : decode cX12_isTavern 11 = .ok (.if_icmp .ge 7, 3) := by decide +kernel
theorem dX12_isTavern_18 : decode cX12_isTavern 18 = .ok (.iconst 0, 1) := by decide +kernel
theorem dX12_isTavern_19 : decode cX12_isTavern 19 = .ok (.ireturn, 1) := by decide +kernel
theorem dX12_isVerse_0 : decode cX12_isVerse 0 = .ok (.iload_n 1, 1) := by decide +kernel
theorem dX12_isVerse_1 : decode cX12_isVerse 1 = .ok (.ifCond .lt 17, 3) := by decide +kernel
theorem dX12_isVerse_4 : decode cX12_isVerse 4 = .ok (.iload_n 1, 1) := by decide +kernel
theorem dX12_isVerse_5 : decode cX12_isVerse 5 = .ok (.aload_n 0, 1) := by decide +kernel
theorem dX12_isVerse_6 : decode cX12_isVerse 6 = .ok (.getfield 13, 3) := by decide +kernel
theorem dX12_isVerse_9 : decode cX12_isVerse 9 = .ok (.iconst 2, 1) := by decide +kernel
theorem dX12_isVerse_10 : decode cX12_isVerse 10 = .ok (.iaload, 1) := by decide +kernel
theorem dX12_isVerse_11 : decode cX12_isVerse 11 = .ok (.if_icmp .ge 7, 3) := by decide +kernel
theorem dX12_isVerse_18 : decode cX12_isVerse 18 = .ok (.iconst 0, 1) := by decide +kernel
theorem dX12_isVerse_19 : decode cX12_isVerse 19 = .ok (.ireturn, 1) := by decide +kernel
theorem dX12_isVoice_0 : decode cX12_isVoice 0 = .ok (.iload_n 1, 1) := by decide +kernel
theorem dX12_isVoice_1 : decode cX12_isVoice 1 = .ok (.ifCond .lt 17, 3) := by decide +kernel
theorem dX12_isVoice_4 : decode cX12_isVoice 4 = .ok (.iload_n 1, 1) := by decide +kernel
theorem dX12_isVoice_5 : decode cX12_isVoice 5 = .ok (.aload_n 0, 1) := by decide +kernel
theorem dX12_isVoice_6 : decode cX12_isVoice 6 = .ok (.getfield 13, 3) := by decide +kernel
theorem dX12_isVoice_9 : decode cX12_isVoice 9 = .ok (.iconst 1, 1) := by decide +kernel
theorem dX12_isVoice_10 : decode cX12_isVoice 10 = .ok (.iaload, 1) := by decide +kernel
theorem dX12_isVoice_11 : decode cX12_isVoice 11 = .ok (.if_icmp .ge 7, 3) := by decide +kernel
theorem dX12_isVoice_18 : decode cX12_isVoice 18 = .ok (.iconst 0, 1) := by decide +kernel
theorem dX12_isVoice_19 : decode cX12_isVoice 19 = .ok (.ireturn, 1) := by decide +kernel
theorem dX12_keep_0 : decode cX12_keep 0 = .ok (.aload_n 0, 1) := by decide +kernel
theorem dX12_keep_1 : decode cX12_keep 1 = .ok (.iconst 0, 1) := by decide +kernel
theorem dX12_keep_2 : decode cX12_keep 2 = .ok (.putfield 163, 3) := by decide +kernel
theorem dX12_keep_5 : decode cX12_keep 5 = .ok (.aload_n 0, 1) := by decide +kernel
theorem dX12_keep_6 : decode cX12_keep 6 = .ok (.iconst 1, 1) := by decide +kernel
theorem dX12_keep_7 : decode cX12_keep 7 = .ok (.iconst 0, 1) := by decide +kernel
theorem dX12_keep_8 : decode cX12_keep 8 = .ok (.invokevirtual 508, 3) := by decide +kernel
theorem dX12_keep_11 : decode cX12_keep 11 = .ok (.aload_n 0, 1) := by decide +kernel
theorem dX12_keep_12 : decode cX12_keep 12 = .ok (.iconst 1, 1) := by decide +kernel
theorem dX12_keep_13 : decode cX12_keep 13 = .ok (.putfield 328, 3) := by decide +kernel
theorem dX12_keep_16 : decode cX12_keep 16 = .ok (.aload_n 0, 1) := by decide +kernel
theorem dX12_keep_17 : decode cX12_keep 17 = .ok (.getfield 81, 3) := by decide +kernel
theorem dX12_keep_20 : decode cX12_keep 20 = .ok (.iconst 0, 1) := by decide +kernel
theorem dX12_keep_21 : decode cX12_keep 21 = .ok (.iaload, 1) := by decide +kernel
theorem dX12_keep_22 : decode cX12_keep 22 = .ok (.ireturn, 1) := by decide +kernel
theorem dX12_known_0 : decode cX12_known 0 = .ok (.aload_n 0, 1) := by decide +kernel
theorem dX12_known_1 : decode cX12_known 1 = .ok (.iconst 0, 1) := by decide +kernel
theorem dX12_known_2 : decode cX12_known 2 = .ok (.putfield 163, 3) := by decide +kernel
theorem dX12_known_5 : decode cX12_known 5 = .ok (.iload_n 1, 1) := by decide +kernel
theorem dX12_known_6 : decode cX12_known 6 = .ok (.iconst (-1), 1) := by decide +kernel
theorem dX12_known_7 : decode cX12_known 7 = .ok (.if_icmp .lt 11, 3) := by decide +kernel
theorem dX12_known_10 : decode cX12_known 10 = .ok (.iload_n 1, 1) := by decide +kernel
theorem dX12_known_11 : decode cX12_known 11 = .ok (.aload_n 0, 1) := by decide +kernel
theorem dX12_known_12 : decode cX12_known 12 = .ok (.getfield 325, 3) := by decide +kernel
theorem dX12_known_15 : decode cX12_known 15 = .ok (.if_icmp .le 5, 3) := by decide +kernel
theorem dX12_known_18 : decode cX12_known 18 = .ok (.iconst 0, 1) := by decide +kernel
theorem dX12_known_19 : decode cX12_known 19 = .ok (.ireturn, 1) := by decide +kernel
theorem dX12_known_20 : decode cX12_known 20 = .ok (.aload_n 0, 1) := by decide +kernel
theorem dX12_known_21 : decode cX12_known 21 = .ok (.iload_n 1, 1) := by decide +kernel
theorem dX12_known_22 : decode cX12_known 22 = .ok (.putfield 142, 3) := by decide +kernel
theorem dX12_known_25 : decode cX12_known 25 = .ok (.iconst 1, 1) := by decide +kernel
theorem dX12_known_26 : decode cX12_known 26 = .ok (.ireturn, 1) := by decide +kernel
theorem dX12_knownMany_0 : decode cX12_knownMany 0 = .ok (.aload_n 0, 1) := by decide +kernel
theorem dX12_knownMany_1 : decode cX12_knownMany 1 = .ok (.getfield 142, 3) := by decide +kernel
theorem dX12_knownMany_4 : decode cX12_knownMany 4 = .ok (.iconst (-1), 1) := by decide +kernel
theorem dX12_knownMany_5 : decode cX12_knownMany 5 = .ok (.if_icmp .ne 10, 3) := by decide +kernel
theorem dX12_knownMany_8 : decode cX12_knownMany 8 = .ok (.aload_n 0, 1) := by decide +kernel
theorem dX12_knownMany_9 : decode cX12_knownMany 9 = .ok (.getfield 325, 3) := by decide +kernel
theorem dX12_knownMany_12 : decode cX12_knownMany 12 = .ok (.goto 7, 3) := by decide +kernel
theorem dX12_knownMany_19 : decode cX12_knownMany 19 = .ok (.ireturn, 1) := by decide +kernel
theorem dX12_layBest_0 : decode cX12_layBest 0 = .ok (.aload_n 0, 1) := by decide +kernel
theorem dX12_layBest_1 : decode cX12_layBest 1 = .ok (.invokevirtual 424, 3) := by decide +kernel
theorem dX12_layBest_4 : decode cX12_layBest 4 = .ok (.iconst 0, 1) := by decide +kernel
theorem dX12_layBest_5 : decode cX12_layBest 5 = .ok (.istore_n 2, 1) := by decide +kernel
theorem dX12_layBest_6 : decode cX12_layBest 6 = .ok (.iload_n 2, 1) := by decide +kernel
theorem dX12_layBest_7 : decode cX12_layBest 7 = .ok (.iload_n 1, 1) := by decide +kernel
theorem dX12_layBest_8 : decode cX12_layBest 8 = .ok (.if_icmp .gt 45, 3) := by decide +kernel
theorem dX12_layBest_11 : decode cX12_layBest 11 = .ok (.aload_n 0, 1) := by decide +kernel
theorem dX12_layBest_12 : decode cX12_layBest 12 = .ok (.getfield 124, 3) := by decide +kernel
theorem dX12_layBest_15 : decode cX12_layBest 15 = .ok (.sipush 1000, 3) := by decide +kernel
theorem dX12_layBest_18 : decode cX12_layBest 18 = .ok (.aload_n 0, 1) := by decide +kernel
theorem dX12_layBest_19 : decode cX12_layBest 19 = .ok (.getfield 13, 3) := by decide +kernel
theorem dX12_layBest_22 : decode cX12_layBest 22 = .ok (.iconst 2, 1) := by decide +kernel
theorem dX12_layBest_23 : decode cX12_layBest 23 = .ok (.iaload, 1) := by decide +kernel
theorem dX12_layBest_24 : decode cX12_layBest 24 = .ok (.imul, 1) := by decide +kernel
theorem dX12_layBest_25 : decode cX12_layBest 25 = .ok (.iload_n 2, 1) := by decide +kernel
theorem dX12_layBest_26 : decode cX12_layBest 26 = .ok (.iadd, 1) := by decide +kernel
theorem dX12_layBest_27 : decode cX12_layBest 27 = .ok (.iconst 0, 1) := by decide +kernel
theorem dX12_layBest_28 : decode cX12_layBest 28 = .ok (.iastore, 1) := by decide +kernel
theorem dX12_layBest_29 : decode cX12_layBest 29 = .ok (.aload_n 0, 1) := by decide +kernel
theorem dX12_layBest_30 : decode cX12_layBest 30 = .ok (.getfield 127, 3) := by decide +kernel
theorem dX12_layBest_33 : decode cX12_layBest 33 = .ok (.sipush 1000, 3) := by decide +kernel
theorem dX12_layBest_36 : decode cX12_layBest 36 = .ok (.aload_n 0, 1) := by decide +kernel
theorem dX12_layBest_37 : decode cX12_layBest 37 = .ok (.getfield 13, 3) := by decide +kernel
theorem dX12_layBest_40 : decode cX12_layBest 40 = .ok (.iconst 2, 1) := by decide +kernel
theorem dX12_layBest_41 : decode cX12_layBest 41 = .ok (.iaload, 1) := by decide +kernel
theorem dX12_layBest_42 : decode cX12_layBest 42 = .ok (.imul, 1) := by decide +kernel
theorem dX12_layBest_43 : decode cX12_layBest 43 = .ok (.iload_n 2, 1) := by decide +kernel
theorem dX12_layBest_44 : decode cX12_layBest 44 = .ok (.iadd, 1) := by decide +kernel
theorem dX12_layBest_45 : decode cX12_layBest 45 = .ok (.iconst 0, 1) := by decide +kernel
theorem dX12_layBest_46 : decode cX12_layBest 46 = .ok (.iastore, 1) := by decide +kernel
theorem dX12_layBest_47 : decode cX12_layBest 47 = .ok (.iinc 2 1, 3) := by decide +kernel
theorem dX12_layBest_50 : decode cX12_layBest 50 = .ok (.goto (-44), 3) := by decide +kernel
theorem dX12_layBest_53 : decode cX12_layBest 53 = .ok (.aload_n 0, 1) := by decide +kernel
theorem dX12_layBest_54 : decode cX12_layBest 54 = .ok (.getfield 13, 3) := by decide +kernel
theorem dX12_layBest_57 : decode cX12_layBest 57 = .ok (.iconst 2, 1) := by decide +kernel
theorem dX12_layBest_58 : decode cX12_layBest 58 = .ok (.iaload, 1) := by decide +kernel
theorem dX12_layBest_59 : decode cX12_layBest 59 = .ok (.iconst 1, 1) := by decide +kernel
theorem dX12_layBest_60 : decode cX12_layBest 60 = .ok (.isub, 1) := by decide +kernel
theorem dX12_layBest_61 : decode cX12_layBest 61 = .ok (.istore_n 2, 1) := by decide +kernel
theorem dX12_layBest_62 : decode cX12_layBest 62 = .ok (.iload_n 2, 1) := by decide +kernel
theorem dX12_layBest_63 : decode cX12_layBest 63 = .ok (.ifCond .lt 71, 3) := by decide +kernel
theorem dX12_layBest_134 : decode cX12_layBest 134 = .ok (.return_, 1) := by decide +kernel
theorem dX12_layDues_0 : decode cX12_layDues 0 = .ok (.iconst 0, 1) := by decide +kernel
theorem dX12_layDues_1 : decode cX12_layDues 1 = .ok (.istore_n 1, 1) := by decide +kernel
theorem dX12_layDues_2 : decode cX12_layDues 2 = .ok (.iload_n 1, 1) := by decide +kernel
theorem dX12_layDues_3 : decode cX12_layDues 3 = .ok (.bipush 12, 2) := by decide +kernel
theorem dX12_layDues_5 : decode cX12_layDues 5 = .ok (.if_icmp .ge 77, 3) := by decide +kernel
theorem dX12_layDues_8 : decode cX12_layDues 8 = .ok (.aload_n 0, 1) := by decide +kernel
end
section
theorem dX12_layDues_9 : decode cX12_layDues 9 = .ok (.iload_n 1, 1) := by decide +kernel
theorem dX12_layDues_10 : decode cX12_layDues 10 = .ok (.iconst 3, 1) := by decide +kernel
theorem dX12_layDues_11 : decode cX12_layDues 11 = .ok (.idiv, 1) := by decide +kernel
theorem dX12_layDues_12 : decode cX12_layDues 12 = .ok (.iload_n 1, 1) := by decide +kernel
theorem dX12_layDues_13 : decode cX12_layDues 13 = .ok (.iconst 3, 1) := by decide +kernel
theorem dX12_layDues_14 : decode cX12_layDues 14 = .ok (.irem, 1) := by decide +kernel
theorem dX12_layDues_15 : decode cX12_layDues 15 = .ok (.invokevirtual 344, 3) := by decide +kernel
theorem dX12_layDues_18 : decode cX12_layDues 18 = .ok (.ifCond .ne 6, 3) := by decide +kernel
theorem dX12_layDues_21 : decode cX12_layDues 21 = .ok (.goto 55, 3) := by decide +kernel
theorem dX12_layDues_76 : decode cX12_layDues 76 = .ok (.iinc 1 1, 3) := by decide +kernel
theorem dX12_layDues_79 : decode cX12_layDues 79 = .ok (.goto (-77), 3) := by decide +kernel
theorem dX12_layDues_82 : decode cX12_layDues 82 = .ok (.return_, 1) := by decide +kernel
theorem dX12_named_0 : decode cX12_named 0 = .ok (.aload_n 0, 1) := by decide +kernel
theorem dX12_named_1 : decode cX12_named 1 = .ok (.iconst 0, 1) := by decide +kernel
theorem dX12_named_2 : decode cX12_named 2 = .ok (.putfield 163, 3) := by decide +kernel
theorem dX12_named_5 : decode cX12_named 5 = .ok (.iload_n 1, 1) := by decide +kernel
theorem dX12_named_6 : decode cX12_named 6 = .ok (.tableswitch 94 0 3 #[30, 46, 62, 78], 30) := by decide +kernel
theorem dX12_named_36 : decode cX12_named 36 = .ok (.aload_n 0, 1) := by decide +kernel
theorem dX12_named_37 : decode cX12_named 37 = .ok (.getfield 16, 3) := by decide +kernel
theorem dX12_named_40 : decode cX12_named 40 = .ok (.iconst 0, 1) := by decide +kernel
theorem dX12_named_41 : decode cX12_named 41 = .ok (.aload_n 0, 1) := by decide +kernel
theorem dX12_named_42 : decode cX12_named 42 = .ok (.getfield 13, 3) := by decide +kernel
theorem dX12_named_45 : decode cX12_named 45 = .ok (.iconst 0, 1) := by decide +kernel
theorem dX12_named_46 : decode cX12_named 46 = .ok (.iaload, 1) := by decide +kernel
theorem dX12_named_47 : decode cX12_named 47 = .ok (.iload_n 2, 1) := by decide +kernel
theorem dX12_named_48 : decode cX12_named 48 = .ok (.invokestatic 229, 3) := by decide +kernel
theorem dX12_named_51 : decode cX12_named 51 = .ok (.ireturn, 1) := by decide +kernel
theorem dX12_named_52 : decode cX12_named 52 = .ok (.aload_n 0, 1) := by decide +kernel
theorem dX12_named_53 : decode cX12_named 53 = .ok (.getfield 25, 3) := by decide +kernel
theorem dX12_named_56 : decode cX12_named 56 = .ok (.iconst 0, 1) := by decide +kernel
theorem dX12_named_57 : decode cX12_named 57 = .ok (.aload_n 0, 1) := by decide +kernel
theorem dX12_named_58 : decode cX12_named 58 = .ok (.getfield 13, 3) := by decide +kernel
theorem dX12_named_61 : decode cX12_named 61 = .ok (.iconst 1, 1) := by decide +kernel
theorem dX12_named_62 : decode cX12_named 62 = .ok (.iaload, 1) := by decide +kernel
theorem dX12_named_63 : decode cX12_named 63 = .ok (.iload_n 2, 1) := by decide +kernel
theorem dX12_named_64 : decode cX12_named 64 = .ok (.invokestatic 229, 3) := by decide +kernel
theorem dX12_named_67 : decode cX12_named 67 = .ok (.ireturn, 1) := by decide +kernel
theorem dX12_named_68 : decode cX12_named 68 = .ok (.aload_n 0, 1) := by decide +kernel
theorem dX12_named_69 : decode cX12_named 69 = .ok (.getfield 47, 3) := by decide +kernel
theorem dX12_named_72 : decode cX12_named 72 = .ok (.iconst 0, 1) := by decide +kernel
theorem dX12_named_73 : decode cX12_named 73 = .ok (.aload_n 0, 1) := by decide +kernel
theorem dX12_named_74 : decode cX12_named 74 = .ok (.getfield 13, 3) := by decide +kernel
theorem dX12_named_77 : decode cX12_named 77 = .ok (.iconst 2, 1) := by decide +kernel
theorem dX12_named_78 : decode cX12_named 78 = .ok (.iaload, 1) := by decide +kernel
theorem dX12_named_79 : decode cX12_named 79 = .ok (.iload_n 2, 1) := by decide +kernel
theorem dX12_named_80 : decode cX12_named 80 = .ok (.invokestatic 229, 3) := by decide +kernel
theorem dX12_named_83 : decode cX12_named 83 = .ok (.ireturn, 1) := by decide +kernel
theorem dX12_named_84 : decode cX12_named 84 = .ok (.aload_n 0, 1) := by decide +kernel
theorem dX12_named_85 : decode cX12_named 85 = .ok (.getfield 59, 3) := by decide +kernel
theorem dX12_named_88 : decode cX12_named 88 = .ok (.iconst 0, 1) := by decide +kernel
theorem dX12_named_89 : decode cX12_named 89 = .ok (.aload_n 0, 1) := by decide +kernel
theorem dX12_named_90 : decode cX12_named 90 = .ok (.getfield 13, 3) := by decide +kernel
theorem dX12_named_93 : decode cX12_named 93 = .ok (.iconst 3, 1) := by decide +kernel
theorem dX12_named_94 : decode cX12_named 94 = .ok (.iaload, 1) := by decide +kernel
theorem dX12_named_95 : decode cX12_named 95 = .ok (.iload_n 2, 1) := by decide +kernel
theorem dX12_named_96 : decode cX12_named 96 = .ok (.invokestatic 229, 3) := by decide +kernel
theorem dX12_named_99 : decode cX12_named 99 = .ok (.ireturn, 1) := by decide +kernel
theorem dX12_named_100 : decode cX12_named 100 = .ok (.iconst (-1), 1) := by decide +kernel
theorem dX12_named_101 : decode cX12_named 101 = .ok (.ireturn, 1) := by decide +kernel
theorem dX12_odds_0 : decode cX12_odds 0 = .ok (.aload_n 0, 1) := by decide +kernel
theorem dX12_odds_1 : decode cX12_odds 1 = .ok (.iconst 0, 1) := by decide +kernel
theorem dX12_odds_2 : decode cX12_odds 2 = .ok (.putfield 163, 3) := by decide +kernel
theorem dX12_odds_5 : decode cX12_odds 5 = .ok (.aload_n 0, 1) := by decide +kernel
theorem dX12_odds_6 : decode cX12_odds 6 = .ok (.iload_n 1, 1) := by decide +kernel
theorem dX12_odds_7 : decode cX12_odds 7 = .ok (.invokevirtual 335, 3) := by decide +kernel
theorem dX12_odds_10 : decode cX12_odds 10 = .ok (.ifCond .eq 12, 3) := by decide +kernel
theorem dX12_odds_22 : decode cX12_odds 22 = .ok (.iconst (-1), 1) := by decide +kernel
theorem dX12_odds_23 : decode cX12_odds 23 = .ok (.ireturn, 1) := by decide +kernel
theorem dX12_pay_0 : decode cX12_pay 0 = .ok (.aload_n 0, 1) := by decide +kernel
theorem dX12_pay_1 : decode cX12_pay 1 = .ok (.iconst 0, 1) := by decide +kernel
theorem dX12_pay_2 : decode cX12_pay 2 = .ok (.putfield 163, 3) := by decide +kernel
theorem dX12_pay_5 : decode cX12_pay 5 = .ok (.aload_n 0, 1) := by decide +kernel
theorem dX12_pay_6 : decode cX12_pay 6 = .ok (.iload_n 1, 1) := by decide +kernel
theorem dX12_pay_7 : decode cX12_pay 7 = .ok (.invokevirtual 341, 3) := by decide +kernel
theorem dX12_pay_10 : decode cX12_pay 10 = .ok (.ifCond .ne 5, 3) := by decide +kernel
theorem dX12_pay_13 : decode cX12_pay 13 = .ok (.iconst (-1), 1) := by decide +kernel
theorem dX12_pay_14 : decode cX12_pay 14 = .ok (.ireturn, 1) := by decide +kernel
theorem dX12_pitch_0 : decode cX12_pitch 0 = .ok (.aload_n 0, 1) := by decide +kernel
theorem dX12_pitch_1 : decode cX12_pitch 1 = .ok (.iconst 0, 1) := by decide +kernel
theorem dX12_pitch_2 : decode cX12_pitch 2 = .ok (.putfield 163, 3) := by decide +kernel
theorem dX12_pitch_5 : decode cX12_pitch 5 = .ok (.aload_n 0, 1) := by decide +kernel
theorem dX12_pitch_6 : decode cX12_pitch 6 = .ok (.iload_n 1, 1) := by decide +kernel
theorem dX12_pitch_7 : decode cX12_pitch 7 = .ok (.iload_n 2, 1) := by decide +kernel
theorem dX12_pitch_8 : decode cX12_pitch 8 = .ok (.invokevirtual 344, 3) := by decide +kernel
theorem dX12_pitch_11 : decode cX12_pitch 11 = .ok (.ifCond .eq 39, 3) := by decide +kernel
theorem dX12_pitch_50 : decode cX12_pitch 50 = .ok (.iconst (-1), 1) := by decide +kernel
theorem dX12_pitch_51 : decode cX12_pitch 51 = .ok (.ireturn, 1) := by decide +kernel
theorem dX12_reads_0 : decode cX12_reads 0 = .ok (.aload_n 0, 1) := by decide +kernel
theorem dX12_reads_1 : decode cX12_reads 1 = .ok (.getfield 13, 3) := by decide +kernel
theorem dX12_reads_4 : decode cX12_reads 4 = .ok (.bipush 7, 2) := by decide +kernel
theorem dX12_reads_6 : decode cX12_reads 6 = .ok (.iload_n 1, 1) := by decide +kernel
theorem dX12_reads_7 : decode cX12_reads 7 = .ok (.iadd, 1) := by decide +kernel
theorem dX12_reads_8 : decode cX12_reads 8 = .ok (.iload_n 2, 1) := by decide +kernel
theorem dX12_reads_9 : decode cX12_reads 9 = .ok (.iastore, 1) := by decide +kernel
theorem dX12_reads_10 : decode cX12_reads 10 = .ok (.return_, 1) := by decide +kernel
theorem dX12_redeem_0 : decode cX12_redeem 0 = .ok (.aload_n 0, 1) := by decide +kernel
theorem dX12_redeem_1 : decode cX12_redeem 1 = .ok (.iconst 0, 1) := by decide +kernel
theorem dX12_redeem_2 : decode cX12_redeem 2 = .ok (.putfield 163, 3) := by decide +kernel
theorem dX12_redeem_5 : decode cX12_redeem 5 = .ok (.aload_n 0, 1) := by decide +kernel
theorem dX12_redeem_6 : decode cX12_redeem 6 = .ok (.iload_n 1, 1) := by decide +kernel
theorem dX12_redeem_7 : decode cX12_redeem 7 = .ok (.iload_n 2, 1) := by decide +kernel
theorem dX12_redeem_8 : decode cX12_redeem 8 = .ok (.invokevirtual 344, 3) := by decide +kernel
theorem dX12_redeem_11 : decode cX12_redeem 11 = .ok (.ifCond .eq 42, 3) := by decide +kernel
theorem dX12_redeem_53 : decode cX12_redeem 53 = .ok (.iconst (-1), 1) := by decide +kernel
theorem dX12_redeem_54 : decode cX12_redeem 54 = .ok (.ireturn, 1) := by decide +kernel
theorem dX12_round_0 : decode cX12_round 0 = .ok (.aload_n 0, 1) := by decide +kernel
theorem dX12_round_1 : decode cX12_round 1 = .ok (.iconst 0, 1) := by decide +kernel
theorem dX12_round_2 : decode cX12_round 2 = .ok (.putfield 163, 3) := by decide +kernel
theorem dX12_round_5 : decode cX12_round 5 = .ok (.aload_n 0, 1) := by decide +kernel
theorem dX12_round_6 : decode cX12_round 6 = .ok (.iload_n 1, 1) := by decide +kernel
theorem dX12_round_7 : decode cX12_round 7 = .ok (.iload_n 2, 1) := by decide +kernel
theorem dX12_round_8 : decode cX12_round 8 = .ok (.invokevirtual 344, 3) := by decide +kernel
theorem dX12_round_11 : decode cX12_round 11 = .ok (.ifCond .eq 12, 3) := by decide +kernel
theorem dX12_round_23 : decode cX12_round 23 = .ok (.iconst (-1), 1) := by decide +kernel
theorem dX12_round_24 : decode cX12_round 24 = .ok (.ireturn, 1) := by decide +kernel
theorem dX12_run_0 : decode cX12_run 0 = .ok (.aload_n 0, 1) := by decide +kernel
theorem dX12_run_1 : decode cX12_run 1 = .ok (.iconst 0, 1) := by decide +kernel
theorem dX12_run_2 : decode cX12_run 2 = .ok (.putfield 163, 3) := by decide +kernel
theorem dX12_run_5 : decode cX12_run 5 = .ok (.aload_n 0, 1) := by decide +kernel
theorem dX12_run_6 : decode cX12_run 6 = .ok (.iload_n 1, 1) := by decide +kernel
theorem dX12_run_7 : decode cX12_run 7 = .ok (.invokevirtual 341, 3) := by decide +kernel
theorem dX12_run_10 : decode cX12_run 10 = .ok (.ifCond .eq 26, 3) := by decide +kernel
theorem dX12_run_36 : decode cX12_run 36 = .ok (.iconst (-1), 1) := by decide +kernel
theorem dX12_run_37 : decode cX12_run 37 = .ok (.ireturn, 1) := by decide +kernel
theorem dX12_sells_0 : decode cX12_sells 0 = .ok (.iconst 0, 1) := by decide +kernel
theorem dX12_sells_1 : decode cX12_sells 1 = .ok (.istore_n 3, 1) := by decide +kernel
theorem dX12_sells_2 : decode cX12_sells 2 = .ok (.iconst 0, 1) := by decide +kernel
theorem dX12_sells_3 : decode cX12_sells 3 = .ok (.istore 4, 2) := by decide +kernel
theorem dX12_sells_5 : decode cX12_sells 5 = .ok (.iload 4, 2) := by decide +kernel
theorem dX12_sells_7 : decode cX12_sells 7 = .ok (.aload_n 0, 1) := by decide +kernel
theorem dX12_sells_8 : decode cX12_sells 8 = .ok (.getfield 13, 3) := by decide +kernel
theorem dX12_sells_11 : decode cX12_sells 11 = .ok (.iconst 3, 1) := by decide +kernel
theorem dX12_sells_12 : decode cX12_sells 12 = .ok (.iaload, 1) := by decide +kernel
theorem dX12_sells_13 : decode cX12_sells 13 = .ok (.if_icmp .ge 23, 3) := by decide +kernel
theorem dX12_sells_36 : decode cX12_sells 36 = .ok (.iconst 0, 1) := by decide +kernel
theorem dX12_sells_37 : decode cX12_sells 37 = .ok (.istore 4, 2) := by decide +kernel
theorem dX12_sells_39 : decode cX12_sells 39 = .ok (.iload 4, 2) := by decide +kernel
theorem dX12_sells_41 : decode cX12_sells 41 = .ok (.iload_n 2, 1) := by decide +kernel
theorem dX12_sells_42 : decode cX12_sells 42 = .ok (.if_icmp .gt 146, 3) := by decide +kernel
theorem dX12_sells_188 : decode cX12_sells 188 = .ok (.iload_n 3, 1) := by decide +kernel
theorem dX12_sells_189 : decode cX12_sells 189 = .ok (.ireturn, 1) := by decide +kernel
theorem dX12_sings_0 : decode cX12_sings 0 = .ok (.aload_n 0, 1) := by decide +kernel
theorem dX12_sings_1 : decode cX12_sings 1 = .ok (.iconst 0, 1) := by decide +kernel
theorem dX12_sings_2 : decode cX12_sings 2 = .ok (.putfield 163, 3) := by decide +kernel
theorem dX12_sings_5 : decode cX12_sings 5 = .ok (.aload_n 0, 1) := by decide +kernel
theorem dX12_sings_6 : decode cX12_sings 6 = .ok (.iload_n 1, 1) := by decide +kernel
theorem dX12_sings_7 : decode cX12_sings 7 = .ok (.iload_n 2, 1) := by decide +kernel
theorem dX12_sings_8 : decode cX12_sings 8 = .ok (.invokevirtual 344, 3) := by decide +kernel
theorem dX12_sings_11 : decode cX12_sings 11 = .ok (.ifCond .ne 5, 3) := by decide +kernel
theorem dX12_sings_14 : decode cX12_sings 14 = .ok (.iconst (-1), 1) := by decide +kernel
theorem dX12_sings_15 : decode cX12_sings 15 = .ok (.ireturn, 1) := by decide +kernel
theorem dX12_sold_0 : decode cX12_sold 0 = .ok (.aload_n 0, 1) := by decide +kernel
theorem dX12_sold_1 : decode cX12_sold 1 = .ok (.iconst 0, 1) := by decide +kernel
theorem dX12_sold_2 : decode cX12_sold 2 = .ok (.putfield 163, 3) := by decide +kernel
theorem dX12_sold_5 : decode cX12_sold 5 = .ok (.aload_n 0, 1) := by decide +kernel
theorem dX12_sold_6 : decode cX12_sold 6 = .ok (.iload_n 1, 1) := by decide +kernel
theorem dX12_sold_7 : decode cX12_sold 7 = .ok (.invokevirtual 461, 3) := by decide +kernel
theorem dX12_sold_10 : decode cX12_sold 10 = .ok (.ifCond .eq 28, 3) := by decide +kernel
theorem dX12_sold_13 : decode cX12_sold 13 = .ok (.aload_n 0, 1) := by decide +kernel
theorem dX12_sold_14 : decode cX12_sold 14 = .ok (.iload_n 2, 1) := by decide +kernel
theorem dX12_sold_15 : decode cX12_sold 15 = .ok (.invokevirtual 332, 3) := by decide +kernel
theorem dX12_sold_18 : decode cX12_sold 18 = .ok (.ifCond .eq 20, 3) := by decide +kernel
theorem dX12_sold_38 : decode cX12_sold 38 = .ok (.iconst (-1), 1) := by decide +kernel
theorem dX12_sold_39 : decode cX12_sold 39 = .ok (.ireturn, 1) := by decide +kernel
theorem dX12_sounds_0 : decode cX12_sounds 0 = .ok (.aload_n 0, 1) := by decide +kernel
theorem dX12_sounds_1 : decode cX12_sounds 1 = .ok (.iconst 0, 1) := by decide +kernel
theorem dX12_sounds_2 : decode cX12_sounds 2 = .ok (.putfield 163, 3) := by decide +kernel
theorem dX12_sounds_5 : decode cX12_sounds 5 = .ok (.aload_n 0, 1) := by decide +kernel
theorem dX12_sounds_6 : decode cX12_sounds 6 = .ok (.iload_n 1, 1) := by decide +kernel
theorem dX12_sounds_7 : decode cX12_sounds 7 = .ok (.iload_n 2, 1) := by decide +kernel
theorem dX12_sounds_8 : decode cX12_sounds 8 = .ok (.invokevirtual 344, 3) := by decide +kernel
theorem dX12_sounds_11 : decode cX12_sounds 11 = .ok (.ifCond .eq 24, 3) := by decide +kernel
theorem dX12_sounds_35 : decode cX12_sounds 35 = .ok (.iconst (-1), 1) := by decide +kernel
theorem dX12_sounds_36 : decode cX12_sounds 36 = .ok (.ireturn, 1) := by decide +kernel
theorem dX12_strike_0 : decode cX12_strike 0 = .ok (.aload_n 0, 1) := by decide +kernel
theorem dX12_strike_1 : decode cX12_strike 1 = .ok (.iconst 0, 1) := by decide +kernel
theorem dX12_strike_2 : decode cX12_strike 2 = .ok (.putfield 163, 3) := by decide +kernel
theorem dX12_strike_5 : decode cX12_strike 5 = .ok (.iload_n 1, 1) := by decide +kernel
theorem dX12_strike_6 : decode cX12_strike 6 = .ok (.ifCond .lt 20, 3) := by decide +kernel
theorem dX12_strike_9 : decode cX12_strike 9 = .ok (.iload_n 1, 1) := by decide +kernel
theorem dX12_strike_10 : decode cX12_strike 10 = .ok (.aload_n 0, 1) := by decide +kernel
theorem dX12_strike_11 : decode cX12_strike 11 = .ok (.getfield 325, 3) := by decide +kernel
theorem dX12_strike_14 : decode cX12_strike 14 = .ok (.if_icmp .ge 12, 3) := by decide +kernel
theorem dX12_strike_26 : decode cX12_strike 26 = .ok (.iconst (-1), 1) := by decide +kernel
theorem dX12_strike_27 : decode cX12_strike 27 = .ok (.ireturn, 1) := by decide +kernel
theorem dX12_strikes_0 : decode cX12_strikes 0 = .ok (.iconst 0, 1) := by decide +kernel
theorem dX12_strikes_1 : decode cX12_strikes 1 = .ok (.istore_n 1, 1) := by decide +kernel
theorem dX12_strikes_2 : decode cX12_strikes 2 = .ok (.iload_n 1, 1) := by decide +kernel
theorem dX12_strikes_3 : decode cX12_strikes 3 = .ok (.aload_n 0, 1) := by decide +kernel
theorem dX12_strikes_4 : decode cX12_strikes 4 = .ok (.invokevirtual 467, 3) := by decide +kernel
theorem dX12_strikes_7 : decode cX12_strikes 7 = .ok (.if_icmp .ge 16, 3) := by decide +kernel
theorem dX12_strikes_23 : decode cX12_strikes 23 = .ok (.aload_n 0, 1) := by decide +kernel
theorem dX12_strikes_24 : decode cX12_strikes 24 = .ok (.invokevirtual 467, 3) := by decide +kernel
theorem dX12_strikes_27 : decode cX12_strikes 27 = .ok (.iconst 1, 1) := by decide +kernel
theorem dX12_strikes_28 : decode cX12_strikes 28 = .ok (.isub, 1) := by decide +kernel
theorem dX12_strikes_29 : decode cX12_strikes 29 = .ok (.istore_n 1, 1) := by decide +kernel
theorem dX12_strikes_30 : decode cX12_strikes 30 = .ok (.iload_n 1, 1) := by decide +kernel
theorem dX12_strikes_31 : decode cX12_strikes 31 = .ok (.ifCond .lt 40, 3) := by decide +kernel
theorem dX12_strikes_71 : decode cX12_strikes 71 = .ok (.return_, 1) := by decide +kernel
theorem dX12_sunday_0 : decode cX12_sunday 0 = .ok (.aload_n 0, 1) := by decide +kernel
theorem dX12_sunday_1 : decode cX12_sunday 1 = .ok (.iconst 0, 1) := by decide +kernel
theorem dX12_sunday_2 : decode cX12_sunday 2 = .ok (.putfield 163, 3) := by decide +kernel
theorem dX12_sunday_5 : decode cX12_sunday 5 = .ok (.iconst 0, 1) := by decide +kernel
theorem dX12_sunday_6 : decode cX12_sunday 6 = .ok (.istore_n 1, 1) := by decide +kernel
theorem dX12_sunday_7 : decode cX12_sunday 7 = .ok (.iconst 0, 1) := by decide +kernel
theorem dX12_sunday_8 : decode cX12_sunday 8 = .ok (.istore_n 2, 1) := by decide +kernel
theorem dX12_sunday_9 : decode cX12_sunday 9 = .ok (.iload_n 2, 1) := by decide +kernel
theorem dX12_sunday_10 : decode cX12_sunday 10 = .ok (.bipush 12, 2) := by decide +kernel
theorem dX12_sunday_12 : decode cX12_sunday 12 = .ok (.if_icmp .ge 64, 3) := by decide +kernel
theorem dX12_sunday_15 : decode cX12_sunday 15 = .ok (.aload_n 0, 1) := by decide +kernel
theorem dX12_sunday_16 : decode cX12_sunday 16 = .ok (.getfield 105, 3) := by decide +kernel
theorem dX12_sunday_19 : decode cX12_sunday 19 = .ok (.iload_n 2, 1) := by decide +kernel
theorem dX12_sunday_20 : decode cX12_sunday 20 = .ok (.iaload, 1) := by decide +kernel
theorem dX12_sunday_21 : decode cX12_sunday 21 = .ok (.istore_n 3, 1) := by decide +kernel
theorem dX12_sunday_22 : decode cX12_sunday 22 = .ok (.aload_n 0, 1) := by decide +kernel
theorem dX12_sunday_23 : decode cX12_sunday 23 = .ok (.getfield 105, 3) := by decide +kernel
theorem dX12_sunday_26 : decode cX12_sunday 26 = .ok (.iload_n 2, 1) := by decide +kernel
theorem dX12_sunday_27 : decode cX12_sunday 27 = .ok (.iconst (-1), 1) := by decide +kernel
theorem dX12_sunday_28 : decode cX12_sunday 28 = .ok (.iastore, 1) := by decide +kernel
theorem dX12_sunday_29 : decode cX12_sunday 29 = .ok (.iload_n 3, 1) := by decide +kernel
theorem dX12_sunday_30 : decode cX12_sunday 30 = .ok (.iconst (-1), 1) := by decide +kernel
theorem dX12_sunday_31 : decode cX12_sunday 31 = .ok (.if_icmp .ne 6, 3) := by decide +kernel
theorem dX12_sunday_34 : decode cX12_sunday 34 = .ok (.goto 36, 3) := by decide +kernel
theorem dX12_sunday_70 : decode cX12_sunday 70 = .ok (.iinc 2 1, 3) := by decide +kernel
theorem dX12_sunday_73 : decode cX12_sunday 73 = .ok (.goto (-64), 3) := by decide +kernel
theorem dX12_sunday_76 : decode cX12_sunday 76 = .ok (.aload_n 0, 1) := by decide +kernel
theorem dX12_sunday_77 : decode cX12_sunday 77 = .ok (.getfield 108, 3) := by decide +kernel
theorem dX12_sunday_80 : decode cX12_sunday 80 = .ok (.iconst 0, 1) := by decide +kernel
theorem dX12_sunday_81 : decode cX12_sunday 81 = .ok (.iconst 0, 1) := by decide +kernel
theorem dX12_sunday_82 : decode cX12_sunday 82 = .ok (.iastore, 1) := by decide +kernel
theorem dX12_sunday_83 : decode cX12_sunday 83 = .ok (.aload_n 0, 1) := by decide +kernel
theorem dX12_sunday_84 : decode cX12_sunday 84 = .ok (.getfield 93, 3) := by decide +kernel
theorem dX12_sunday_87 : decode cX12_sunday 87 = .ok (.iconst 0, 1) := by decide +kernel
theorem dX12_sunday_88 : decode cX12_sunday 88 = .ok (.iaload, 1) := by decide +kernel
theorem dX12_sunday_89 : decode cX12_sunday 89 = .ok (.istore_n 2, 1) := by decide +kernel
theorem dX12_sunday_90 : decode cX12_sunday 90 = .ok (.iconst 0, 1) := by decide +kernel
theorem dX12_sunday_91 : decode cX12_sunday 91 = .ok (.istore_n 3, 1) := by decide +kernel
theorem dX12_sunday_92 : decode cX12_sunday 92 = .ok (.iload_n 3, 1) := by decide +kernel
theorem dX12_sunday_93 : decode cX12_sunday 93 = .ok (.aload_n 0, 1) := by decide +kernel
theorem dX12_sunday_94 : decode cX12_sunday 94 = .ok (.getfield 13, 3) := by decide +kernel
theorem dX12_sunday_97 : decode cX12_sunday 97 = .ok (.iconst 1, 1) := by decide +kernel
theorem dX12_sunday_98 : decode cX12_sunday 98 = .ok (.iaload, 1) := by decide +kernel
theorem dX12_sunday_99 : decode cX12_sunday 99 = .ok (.if_icmp .ge 45, 3) := by decide +kernel
theorem dX12_sunday_144 : decode cX12_sunday 144 = .ok (.aload_n 0, 1) := by decide +kernel
theorem dX12_sunday_145 : decode cX12_sunday 145 = .ok (.getfield 93, 3) := by decide +kernel
theorem dX12_sunday_148 : decode cX12_sunday 148 = .ok (.iconst 0, 1) := by decide +kernel
theorem dX12_sunday_149 : decode cX12_sunday 149 = .ok (.iload_n 2, 1) := by decide +kernel
theorem dX12_sunday_150 : decode cX12_sunday 150 = .ok (.iastore, 1) := by decide +kernel
theorem dX12_sunday_151 : decode cX12_sunday 151 = .ok (.aload_n 0, 1) := by decide +kernel
theorem dX12_sunday_152 : decode cX12_sunday 152 = .ok (.getfield 81, 3) := by decide +kernel
theorem dX12_sunday_155 : decode cX12_sunday 155 = .ok (.iconst 0, 1) := by decide +kernel
theorem dX12_sunday_156 : decode cX12_sunday 156 = .ok (.dup2, 1) := by decide +kernel
theorem dX12_sunday_157 : decode cX12_sunday 157 = .ok (.iaload, 1) := by decide +kernel
theorem dX12_sunday_158 : decode cX12_sunday 158 = .ok (.iconst 1, 1) := by decide +kernel
theorem dX12_sunday_159 : decode cX12_sunday 159 = .ok (.iadd, 1) := by decide +kernel
theorem dX12_sunday_160 : decode cX12_sunday 160 = .ok (.iastore, 1) := by decide +kernel
theorem dX12_sunday_161 : decode cX12_sunday 161 = .ok (.iload_n 1, 1) := by decide +kernel
theorem dX12_sunday_162 : decode cX12_sunday 162 = .ok (.ireturn, 1) := by decide +kernel
theorem dX12_tavern_0 : decode cX12_tavern 0 = .ok (.aload_n 0, 1) := by decide +kernel
theorem dX12_tavern_1 : decode cX12_tavern 1 = .ok (.iconst 0, 1) := by decide +kernel
theorem dX12_tavern_2 : decode cX12_tavern 2 = .ok (.putfield 163, 3) := by decide +kernel
theorem dX12_tavern_5 : decode cX12_tavern 5 = .ok (.aload_n 0, 1) := by decide +kernel
theorem dX12_tavern_6 : decode cX12_tavern 6 = .ok (.iload_n 1, 1) := by decide +kernel
theorem dX12_tavern_7 : decode cX12_tavern 7 = .ok (.invokevirtual 341, 3) := by decide +kernel
theorem dX12_tavern_10 : decode cX12_tavern 10 = .ok (.ifCond .ne 5, 3) := by decide +kernel
theorem dX12_tavern_13 : decode cX12_tavern 13 = .ok (.iconst (-1), 1) := by decide +kernel
theorem dX12_tavern_14 : decode cX12_tavern 14 = .ok (.ireturn, 1) := by decide +kernel
theorem dX12_text_0 : decode cX12_text 0 = .ok (.aload_n 0, 1) := by decide +kernel
theorem dX12_text_1 : decode cX12_text 1 = .ok (.iconst 0, 1) := by decide +kernel
theorem dX12_text_2 : decode cX12_text 2 = .ok (.putfield 163, 3) := by decide +kernel
theorem dX12_text_5 : decode cX12_text 5 = .ok (.iload_n 1, 1) := by decide +kernel
theorem dX12_text_6 : decode cX12_text 6 = .ok (.ifCond .lt 11, 3) := by decide +kernel
theorem dX12_text_9 : decode cX12_text 9 = .ok (.iload_n 1, 1) := by decide +kernel
theorem dX12_text_10 : decode cX12_text 10 = .ok (.aload_n 0, 1) := by decide +kernel
theorem dX12_text_11 : decode cX12_text 11 = .ok (.getfield 166, 3) := by decide +kernel
theorem dX12_text_14 : decode cX12_text 14 = .ok (.if_icmp .le 6, 3) := by decide +kernel
theorem dX12_text_17 : decode cX12_text 17 = .ok (.bipush (-2), 2) := by decide +kernel
theorem dX12_text_19 : decode cX12_text 19 = .ok (.ireturn, 1) := by decide +kernel
theorem dX12_text_20 : decode cX12_text 20 = .ok (.aload_n 0, 1) := by decide +kernel
theorem dX12_text_21 : decode cX12_text 21 = .ok (.iload_n 1, 1) := by decide +kernel
theorem dX12_text_22 : decode cX12_text 22 = .ok (.putfield 172, 3) := by decide +kernel
theorem dX12_text_25 : decode cX12_text 25 = .ok (.aload_n 0, 1) := by decide +kernel
theorem dX12_text_26 : decode cX12_text 26 = .ok (.iconst 0, 1) := by decide +kernel
theorem dX12_text_27 : decode cX12_text 27 = .ok (.putfield 166, 3) := by decide +kernel
theorem dX12_text_30 : decode cX12_text 30 = .ok (.aload_n 0, 1) := by decide +kernel
theorem dX12_text_31 : decode cX12_text 31 = .ok (.iconst 0, 1) := by decide +kernel
theorem dX12_text_32 : decode cX12_text 32 = .ok (.putfield 169, 3) := by decide +kernel
theorem dX12_text_35 : decode cX12_text 35 = .ok (.aload_n 0, 1) := by decide +kernel
theorem dX12_text_36 : decode cX12_text 36 = .ok (.iconst 0, 1) := by decide +kernel
theorem dX12_text_37 : decode cX12_text 37 = .ok (.putfield 217, 3) := by decide +kernel
theorem dX12_text_40 : decode cX12_text 40 = .ok (.aload_n 0, 1) := by decide +kernel
theorem dX12_text_41 : decode cX12_text 41 = .ok (.iconst (-1), 1) := by decide +kernel
theorem dX12_text_42 : decode cX12_text 42 = .ok (.putfield 220, 3) := by decide +kernel
theorem dX12_text_45 : decode cX12_text 45 = .ok (.iconst 0, 1) := by decide +kernel
theorem dX12_text_46 : decode cX12_text 46 = .ok (.istore_n 2, 1) := by decide +kernel
theorem dX12_text_47 : decode cX12_text 47 = .ok (.iload_n 2, 1) := by decide +kernel
theorem dX12_text_48 : decode cX12_text 48 = .ok (.bipush 7, 2) := by decide +kernel
theorem dX12_text_50 : decode cX12_text 50 = .ok (.if_icmp .ge 15, 3) := by decide +kernel
theorem dX12_text_53 : decode cX12_text 53 = .ok (.aload_n 0, 1) := by decide +kernel
theorem dX12_text_54 : decode cX12_text 54 = .ok (.iload_n 2, 1) := by decide +kernel
theorem dX12_text_55 : decode cX12_text 55 = .ok (.iconst 0, 1) := by decide +kernel
theorem dX12_text_56 : decode cX12_text 56 = .ok (.invokevirtual 254, 3) := by decide +kernel
theorem dX12_text_59 : decode cX12_text 59 = .ok (.iinc 2 1, 3) := by decide +kernel
theorem dX12_text_62 : decode cX12_text 62 = .ok (.goto (-15), 3) := by decide +kernel
theorem dX12_text_65 : decode cX12_text 65 = .ok (.iconst 5, 1) := by decide +kernel
theorem dX12_text_66 : decode cX12_text 66 = .ok (.istore_n 2, 1) := by decide +kernel
theorem dX12_text_67 : decode cX12_text 67 = .ok (.iload_n 2, 1) := by decide +kernel
theorem dX12_text_68 : decode cX12_text 68 = .ok (.bipush 10, 2) := by decide +kernel
theorem dX12_text_70 : decode cX12_text 70 = .ok (.if_icmp .ge 23, 3) := by decide +kernel
theorem dX12_text_73 : decode cX12_text 73 = .ok (.aload_n 0, 1) := by decide +kernel
theorem dX12_text_74 : decode cX12_text 74 = .ok (.getfield 65, 3) := by decide +kernel
theorem dX12_text_77 : decode cX12_text 77 = .ok (.iload_n 2, 1) := by decide +kernel
theorem dX12_text_78 : decode cX12_text 78 = .ok (.iconst 0, 1) := by decide +kernel
theorem dX12_text_79 : decode cX12_text 79 = .ok (.iastore, 1) := by decide +kernel
theorem dX12_text_80 : decode cX12_text 80 = .ok (.aload_n 0, 1) := by decide +kernel
theorem dX12_text_81 : decode cX12_text 81 = .ok (.getfield 68, 3) := by decide +kernel
theorem dX12_text_84 : decode cX12_text 84 = .ok (.iload_n 2, 1) := by decide +kernel
theorem dX12_text_85 : decode cX12_text 85 = .ok (.iconst 0, 1) := by decide +kernel
theorem dX12_text_86 : decode cX12_text 86 = .ok (.iastore, 1) := by decide +kernel
theorem dX12_text_87 : decode cX12_text 87 = .ok (.iinc 2 1, 3) := by decide +kernel
theorem dX12_text_90 : decode cX12_text 90 = .ok (.goto (-23), 3) := by decide +kernel
theorem dX12_text_93 : decode cX12_text 93 = .ok (.aload_n 0, 1) := by decide +kernel
theorem dX12_text_94 : decode cX12_text 94 = .ok (.iconst 0, 1) := by decide +kernel
theorem dX12_text_95 : decode cX12_text 95 = .ok (.putfield 243, 3) := by decide +kernel
theorem dX12_text_98 : decode cX12_text 98 = .ok (.aload_n 0, 1) := by decide +kernel
theorem dX12_text_99 : decode cX12_text 99 = .ok (.iconst 0, 1) := by decide +kernel
theorem dX12_text_100 : decode cX12_text 100 = .ok (.putfield 273, 3) := by decide +kernel
theorem dX12_text_103 : decode cX12_text 103 = .ok (.aload_n 0, 1) := by decide +kernel
theorem dX12_text_104 : decode cX12_text 104 = .ok (.iconst 0, 1) := by decide +kernel
theorem dX12_text_105 : decode cX12_text 105 = .ok (.putfield 312, 3) := by decide +kernel
theorem dX12_text_108 : decode cX12_text 108 = .ok (.aload_n 0, 1) := by decide +kernel
theorem dX12_text_109 : decode cX12_text 109 = .ok (.iconst 0, 1) := by decide +kernel
theorem dX12_text_110 : decode cX12_text 110 = .ok (.putfield 288, 3) := by decide +kernel
theorem dX12_text_113 : decode cX12_text 113 = .ok (.aload_n 0, 1) := by decide +kernel
theorem dX12_text_114 : decode cX12_text 114 = .ok (.invokevirtual 223, 3) := by decide +kernel
theorem dX12_text_117 : decode cX12_text 117 = .ok (.aload_n 0, 1) := by decide +kernel
theorem dX12_text_118 : decode cX12_text 118 = .ok (.getfield 217, 3) := by decide +kernel
theorem dX12_text_121 : decode cX12_text 121 = .ok (.ifCond .ne 18, 3) := by decide +kernel
theorem dX12_text_124 : decode cX12_text 124 = .ok (.aload_n 0, 1) := by decide +kernel
theorem dX12_text_125 : decode cX12_text 125 = .ok (.getfield 182, 3) := by decide +kernel
theorem dX12_text_128 : decode cX12_text 128 = .ok (.iconst 4, 1) := by decide +kernel
theorem dX12_text_129 : decode cX12_text 129 = .ok (.if_icmp .eq 10, 3) := by decide +kernel
theorem dX12_text_139 : decode cX12_text 139 = .ok (.aload_n 0, 1) := by decide +kernel
theorem dX12_text_140 : decode cX12_text 140 = .ok (.aload_n 0, 1) := by decide +kernel
theorem dX12_text_141 : decode cX12_text 141 = .ok (.getfield 217, 3) := by decide +kernel
theorem dX12_text_144 : decode cX12_text 144 = .ok (.putfield 318, 3) := by decide +kernel
theorem dX12_text_147 : decode cX12_text 147 = .ok (.aload_n 0, 1) := by decide +kernel
theorem dX12_text_148 : decode cX12_text 148 = .ok (.aload_n 0, 1) := by decide +kernel
theorem dX12_text_149 : decode cX12_text 149 = .ok (.getfield 220, 3) := by decide +kernel
theorem dX12_text_152 : decode cX12_text 152 = .ok (.putfield 77, 3) := by decide +kernel
theorem dX12_text_155 : decode cX12_text 155 = .ok (.aload_n 0, 1) := by decide +kernel
theorem dX12_text_156 : decode cX12_text 156 = .ok (.getfield 217, 3) := by decide +kernel
theorem dX12_text_159 : decode cX12_text 159 = .ok (.ifCond .eq 5, 3) := by decide +kernel
theorem dX12_text_164 : decode cX12_text 164 = .ok (.aload_n 0, 1) := by decide +kernel
theorem dX12_text_165 : decode cX12_text 165 = .ok (.getfield 13, 3) := by decide +kernel
theorem dX12_text_168 : decode cX12_text 168 = .ok (.invokestatic 321, 3) := by decide +kernel
theorem dX12_text_171 : decode cX12_text 171 = .ok (.aload_n 0, 1) := by decide +kernel
theorem dX12_text_172 : decode cX12_text 172 = .ok (.getfield 16, 3) := by decide +kernel
theorem dX12_text_175 : decode cX12_text 175 = .ok (.invokestatic 321, 3) := by decide +kernel
theorem dX12_text_178 : decode cX12_text 178 = .ok (.aload_n 0, 1) := by decide +kernel
theorem dX12_text_179 : decode cX12_text 179 = .ok (.getfield 19, 3) := by decide +kernel
theorem dX12_text_182 : decode cX12_text 182 = .ok (.invokestatic 321, 3) := by decide +kernel
theorem dX12_text_185 : decode cX12_text 185 = .ok (.aload_n 0, 1) := by decide +kernel
theorem dX12_text_186 : decode cX12_text 186 = .ok (.getfield 22, 3) := by decide +kernel
theorem dX12_text_189 : decode cX12_text 189 = .ok (.invokestatic 321, 3) := by decide +kernel
theorem dX12_text_192 : decode cX12_text 192 = .ok (.aload_n 0, 1) := by decide +kernel
theorem dX12_text_193 : decode cX12_text 193 = .ok (.getfield 25, 3) := by decide +kernel
theorem dX12_text_196 : decode cX12_text 196 = .ok (.invokestatic 321, 3) := by decide +kernel
theorem dX12_text_199 : decode cX12_text 199 = .ok (.aload_n 0, 1) := by decide +kernel
theorem dX12_text_200 : decode cX12_text 200 = .ok (.getfield 28, 3) := by decide +kernel
theorem dX12_text_203 : decode cX12_text 203 = .ok (.invokestatic 321, 3) := by decide +kernel
theorem dX12_text_206 : decode cX12_text 206 = .ok (.aload_n 0, 1) := by decide +kernel
theorem dX12_text_207 : decode cX12_text 207 = .ok (.getfield 31, 3) := by decide +kernel
theorem dX12_text_210 : decode cX12_text 210 = .ok (.invokestatic 321, 3) := by decide +kernel
theorem dX12_text_213 : decode cX12_text 213 = .ok (.iconst 0, 1) := by decide +kernel
theorem dX12_text_214 : decode cX12_text 214 = .ok (.istore_n 2, 1) := by decide +kernel
theorem dX12_text_215 : decode cX12_text 215 = .ok (.iload_n 2, 1) := by decide +kernel
theorem dX12_text_216 : decode cX12_text 216 = .ok (.bipush 6, 2) := by decide +kernel
theorem dX12_text_218 : decode cX12_text 218 = .ok (.if_icmp .ge 24, 3) := by decide +kernel
theorem dX12_text_221 : decode cX12_text 221 = .ok (.aload_n 0, 1) := by decide +kernel
theorem dX12_text_222 : decode cX12_text 222 = .ok (.getfield 34, 3) := by decide +kernel
theorem dX12_text_225 : decode cX12_text 225 = .ok (.iload_n 2, 1) := by decide +kernel
theorem dX12_text_226 : decode cX12_text 226 = .ok (.aload_n 0, 1) := by decide +kernel
theorem dX12_text_227 : decode cX12_text 227 = .ok (.getfield 34, 3) := by decide +kernel
theorem dX12_text_230 : decode cX12_text 230 = .ok (.bipush 6, 2) := by decide +kernel
theorem dX12_text_232 : decode cX12_text 232 = .ok (.iload_n 2, 1) := by decide +kernel
theorem dX12_text_233 : decode cX12_text 233 = .ok (.iadd, 1) := by decide +kernel
theorem dX12_text_234 : decode cX12_text 234 = .ok (.baload, 1) := by decide +kernel
theorem dX12_text_235 : decode cX12_text 235 = .ok (.bastore, 1) := by decide +kernel
theorem dX12_text_236 : decode cX12_text 236 = .ok (.iinc 2 1, 3) := by decide +kernel
theorem dX12_text_239 : decode cX12_text 239 = .ok (.goto (-24), 3) := by decide +kernel
theorem dX12_text_242 : decode cX12_text 242 = .ok (.aload_n 0, 1) := by decide +kernel
theorem dX12_text_243 : decode cX12_text 243 = .ok (.getfield 38, 3) := by decide +kernel
theorem dX12_text_246 : decode cX12_text 246 = .ok (.invokestatic 321, 3) := by decide +kernel
theorem dX12_text_249 : decode cX12_text 249 = .ok (.aload_n 0, 1) := by decide +kernel
theorem dX12_text_250 : decode cX12_text 250 = .ok (.getfield 41, 3) := by decide +kernel
theorem dX12_text_253 : decode cX12_text 253 = .ok (.invokestatic 321, 3) := by decide +kernel
theorem dX12_text_256 : decode cX12_text 256 = .ok (.aload_n 0, 1) := by decide +kernel
theorem dX12_text_257 : decode cX12_text 257 = .ok (.getfield 44, 3) := by decide +kernel
theorem dX12_text_260 : decode cX12_text 260 = .ok (.invokestatic 321, 3) := by decide +kernel
theorem dX12_text_263 : decode cX12_text 263 = .ok (.aload_n 0, 1) := by decide +kernel
theorem dX12_text_264 : decode cX12_text 264 = .ok (.getfield 47, 3) := by decide +kernel
theorem dX12_text_267 : decode cX12_text 267 = .ok (.invokestatic 321, 3) := by decide +kernel
theorem dX12_text_270 : decode cX12_text 270 = .ok (.aload_n 0, 1) := by decide +kernel
theorem dX12_text_271 : decode cX12_text 271 = .ok (.getfield 50, 3) := by decide +kernel
theorem dX12_text_274 : decode cX12_text 274 = .ok (.invokestatic 321, 3) := by decide +kernel
theorem dX12_text_277 : decode cX12_text 277 = .ok (.aload_n 0, 1) := by decide +kernel
theorem dX12_text_278 : decode cX12_text 278 = .ok (.getfield 53, 3) := by decide +kernel
theorem dX12_text_281 : decode cX12_text 281 = .ok (.invokestatic 321, 3) := by decide +kernel
theorem dX12_text_284 : decode cX12_text 284 = .ok (.aload_n 0, 1) := by decide +kernel
theorem dX12_text_285 : decode cX12_text 285 = .ok (.getfield 56, 3) := by decide +kernel
theorem dX12_text_288 : decode cX12_text 288 = .ok (.invokestatic 321, 3) := by decide +kernel
theorem dX12_text_291 : decode cX12_text 291 = .ok (.aload_n 0, 1) := by decide +kernel
theorem dX12_text_292 : decode cX12_text 292 = .ok (.getfield 59, 3) := by decide +kernel
theorem dX12_text_295 : decode cX12_text 295 = .ok (.invokestatic 321, 3) := by decide +kernel
theorem dX12_text_298 : decode cX12_text 298 = .ok (.aload_n 0, 1) := by decide +kernel
theorem dX12_text_299 : decode cX12_text 299 = .ok (.getfield 62, 3) := by decide +kernel
theorem dX12_text_302 : decode cX12_text 302 = .ok (.invokestatic 321, 3) := by decide +kernel
theorem dX12_text_305 : decode cX12_text 305 = .ok (.aload_n 0, 1) := by decide +kernel
theorem dX12_text_306 : decode cX12_text 306 = .ok (.getfield 65, 3) := by decide +kernel
theorem dX12_text_309 : decode cX12_text 309 = .ok (.invokestatic 321, 3) := by decide +kernel
theorem dX12_text_312 : decode cX12_text 312 = .ok (.aload_n 0, 1) := by decide +kernel
theorem dX12_text_313 : decode cX12_text 313 = .ok (.getfield 68, 3) := by decide +kernel
theorem dX12_text_316 : decode cX12_text 316 = .ok (.invokestatic 321, 3) := by decide +kernel
theorem dX12_text_319 : decode cX12_text 319 = .ok (.aload_n 0, 1) := by decide +kernel
theorem dX12_text_320 : decode cX12_text 320 = .ok (.getfield 71, 3) := by decide +kernel
theorem dX12_text_323 : decode cX12_text 323 = .ok (.invokestatic 321, 3) := by decide +kernel
theorem dX12_text_326 : decode cX12_text 326 = .ok (.aload_n 0, 1) := by decide +kernel
theorem dX12_text_327 : decode cX12_text 327 = .ok (.getfield 74, 3) := by decide +kernel
theorem dX12_text_330 : decode cX12_text 330 = .ok (.invokestatic 321, 3) := by decide +kernel
theorem dX12_text_333 : decode cX12_text 333 = .ok (.aload_n 0, 1) := by decide +kernel
theorem dX12_text_334 : decode cX12_text 334 = .ok (.iconst 0, 1) := by decide +kernel
theorem dX12_text_335 : decode cX12_text 335 = .ok (.putfield 325, 3) := by decide +kernel
theorem dX12_text_338 : decode cX12_text 338 = .ok (.aload_n 0, 1) := by decide +kernel
theorem dX12_text_339 : decode cX12_text 339 = .ok (.iconst (-1), 1) := by decide +kernel
theorem dX12_text_340 : decode cX12_text 340 = .ok (.putfield 142, 3) := by decide +kernel
theorem dX12_text_343 : decode cX12_text 343 = .ok (.aload_n 0, 1) := by decide +kernel
theorem dX12_text_344 : decode cX12_text 344 = .ok (.iconst 0, 1) := by decide +kernel
theorem dX12_text_345 : decode cX12_text 345 = .ok (.putfield 328, 3) := by decide +kernel
theorem dX12_text_348 : decode cX12_text 348 = .ok (.aload_n 0, 1) := by decide +kernel
theorem dX12_text_349 : decode cX12_text 349 = .ok (.invokevirtual 160, 3) := by decide +kernel
theorem dX12_text_352 : decode cX12_text 352 = .ok (.aload_n 0, 1) := by decide +kernel
theorem dX12_text_353 : decode cX12_text 353 = .ok (.getfield 273, 3) := by decide +kernel
theorem dX12_text_356 : decode cX12_text 356 = .ok (.ireturn, 1) := by decide +kernel
theorem dX12_thieves_0 : decode cX12_thieves 0 = .ok (.aload_n 0, 1) := by decide +kernel
theorem dX12_thieves_1 : decode cX12_thieves 1 = .ok (.iconst 0, 1) := by decide +kernel
theorem dX12_thieves_2 : decode cX12_thieves 2 = .ok (.putfield 163, 3) := by decide +kernel
theorem dX12_thieves_5 : decode cX12_thieves 5 = .ok (.aload_n 0, 1) := by decide +kernel
theorem dX12_thieves_6 : decode cX12_thieves 6 = .ok (.invokevirtual 473, 3) := by decide +kernel
theorem dX12_thieves_9 : decode cX12_thieves 9 = .ok (.iconst 0, 1) := by decide +kernel
theorem dX12_thieves_10 : decode cX12_thieves 10 = .ok (.istore_n 1, 1) := by decide +kernel
theorem dX12_thieves_11 : decode cX12_thieves 11 = .ok (.iconst 0, 1) := by decide +kernel
theorem dX12_thieves_12 : decode cX12_thieves 12 = .ok (.istore_n 2, 1) := by decide +kernel
theorem dX12_thieves_13 : decode cX12_thieves 13 = .ok (.iload_n 2, 1) := by decide +kernel
theorem dX12_thieves_14 : decode cX12_thieves 14 = .ok (.aload_n 0, 1) := by decide +kernel
theorem dX12_thieves_15 : decode cX12_thieves 15 = .ok (.getfield 13, 3) := by decide +kernel
theorem dX12_thieves_18 : decode cX12_thieves 18 = .ok (.iconst 1, 1) := by decide +kernel
theorem dX12_thieves_19 : decode cX12_thieves 19 = .ok (.iaload, 1) := by decide +kernel
theorem dX12_thieves_20 : decode cX12_thieves 20 = .ok (.if_icmp .ge 27, 3) := by decide +kernel
theorem dX12_thieves_47 : decode cX12_thieves 47 = .ok (.iload_n 1, 1) := by decide +kernel
theorem dX12_thieves_48 : decode cX12_thieves 48 = .ok (.ireturn, 1) := by decide +kernel
theorem dX12_thrown_0 : decode cX12_thrown 0 = .ok (.aload_n 0, 1) := by decide +kernel
theorem dX12_thrown_1 : decode cX12_thrown 1 = .ok (.getfield 163, 3) := by decide +kernel
theorem dX12_thrown_4 : decode cX12_thrown 4 = .ok (.ireturn, 1) := by decide +kernel
theorem dX12_token_0 : decode cX12_token 0 = .ok (.aload_n 0, 1) := by decide +kernel
theorem dX12_token_1 : decode cX12_token 1 = .ok (.invokevirtual 175, 3) := by decide +kernel
theorem dX12_token_4 : decode cX12_token 4 = .ok (.bipush 10, 2) := by decide +kernel
theorem dX12_token_6 : decode cX12_token 6 = .ok (.if_icmp .eq 12, 3) := by decide +kernel
theorem dX12_token_9 : decode cX12_token 9 = .ok (.aload_n 0, 1) := by decide +kernel
theorem dX12_token_10 : decode cX12_token 10 = .ok (.invokevirtual 175, 3) := by decide +kernel
theorem dX12_token_13 : decode cX12_token 13 = .ok (.bipush 32, 2) := by decide +kernel
theorem dX12_token_15 : decode cX12_token 15 = .ok (.if_icmp .ne 16, 3) := by decide +kernel
theorem dX12_token_31 : decode cX12_token 31 = .ok (.aload_n 0, 1) := by decide +kernel
theorem dX12_token_32 : decode cX12_token 32 = .ok (.aload_n 0, 1) := by decide +kernel
theorem dX12_token_33 : decode cX12_token 33 = .ok (.getfield 169, 3) := by decide +kernel
theorem dX12_token_36 : decode cX12_token 36 = .ok (.putfield 179, 3) := by decide +kernel
theorem dX12_token_39 : decode cX12_token 39 = .ok (.aload_n 0, 1) := by decide +kernel
theorem dX12_token_40 : decode cX12_token 40 = .ok (.invokevirtual 175, 3) := by decide +kernel
theorem dX12_token_43 : decode cX12_token 43 = .ok (.istore_n 1, 1) := by decide +kernel
theorem dX12_token_44 : decode cX12_token 44 = .ok (.iload_n 1, 1) := by decide +kernel
theorem dX12_token_45 : decode cX12_token 45 = .ok (.iconst (-1), 1) := by decide +kernel
theorem dX12_token_46 : decode cX12_token 46 = .ok (.if_icmp .ne 11, 3) := by decide +kernel
theorem dX12_token_49 : decode cX12_token 49 = .ok (.aload_n 0, 1) := by decide +kernel
theorem dX12_token_50 : decode cX12_token 50 = .ok (.iconst 4, 1) := by decide +kernel
theorem dX12_token_51 : decode cX12_token 51 = .ok (.putfield 182, 3) := by decide +kernel
theorem dX12_token_54 : decode cX12_token 54 = .ok (.goto 171, 3) := by decide +kernel
theorem dX12_token_225 : decode cX12_token 225 = .ok (.return_, 1) := by decide +kernel
theorem dX12_undo_0 : decode cX12_undo 0 = .ok (.aload_n 0, 1) := by decide +kernel
theorem dX12_undo_1 : decode cX12_undo 1 = .ok (.iconst 0, 1) := by decide +kernel
theorem dX12_undo_2 : decode cX12_undo 2 = .ok (.putfield 163, 3) := by decide +kernel
theorem dX12_undo_5 : decode cX12_undo 5 = .ok (.aload_n 0, 1) := by decide +kernel
theorem dX12_undo_6 : decode cX12_undo 6 = .ok (.getfield 108, 3) := by decide +kernel
theorem dX12_undo_9 : decode cX12_undo 9 = .ok (.iconst 0, 1) := by decide +kernel
theorem dX12_undo_10 : decode cX12_undo 10 = .ok (.iaload, 1) := by decide +kernel
theorem dX12_undo_11 : decode cX12_undo 11 = .ok (.ifCond .ne 5, 3) := by decide +kernel
theorem dX12_undo_14 : decode cX12_undo 14 = .ok (.iconst (-1), 1) := by decide +kernel
theorem dX12_undo_15 : decode cX12_undo 15 = .ok (.ireturn, 1) := by decide +kernel
theorem dX12_verse_0 : decode cX12_verse 0 = .ok (.aload_n 0, 1) := by decide +kernel
theorem dX12_verse_1 : decode cX12_verse 1 = .ok (.iconst 0, 1) := by decide +kernel
theorem dX12_verse_2 : decode cX12_verse 2 = .ok (.putfield 163, 3) := by decide +kernel
theorem dX12_verse_5 : decode cX12_verse 5 = .ok (.aload_n 0, 1) := by decide +kernel
theorem dX12_verse_6 : decode cX12_verse 6 = .ok (.iload_n 1, 1) := by decide +kernel
theorem dX12_verse_7 : decode cX12_verse 7 = .ok (.invokevirtual 332, 3) := by decide +kernel
theorem dX12_verse_10 : decode cX12_verse 10 = .ok (.ifCond .ne 5, 3) := by decide +kernel
theorem dX12_verse_13 : decode cX12_verse 13 = .ok (.iconst (-1), 1) := by decide +kernel
theorem dX12_verse_14 : decode cX12_verse 14 = .ok (.ireturn, 1) := by decide +kernel
theorem dX12_whole_0 : decode cX12_whole 0 = .ok (.aload_n 0, 1) := by decide +kernel
theorem dX12_whole_1 : decode cX12_whole 1 = .ok (.iconst 0, 1) := by decide +kernel
theorem dX12_whole_2 : decode cX12_whole 2 = .ok (.putfield 163, 3) := by decide +kernel
theorem dX12_whole_5 : decode cX12_whole 5 = .ok (.aload_n 0, 1) := by decide +kernel
theorem dX12_whole_6 : decode cX12_whole 6 = .ok (.iload_n 1, 1) := by decide +kernel
theorem dX12_whole_7 : decode cX12_whole 7 = .ok (.invokevirtual 335, 3) := by decide +kernel
theorem dX12_whole_10 : decode cX12_whole 10 = .ok (.ifCond .eq 22, 3) := by decide +kernel
theorem dX12_whole_32 : decode cX12_whole 32 = .ok (.ldc2_w 504, 3) := by decide +kernel
theorem dX12_whole_35 : decode cX12_whole 35 = .ok (.lreturn, 1) := by decide +kernel
theorem dJ6_bitCount_0f7a4_0 : decode cJ6_bitCount_0f7a4 0 = .ok (.iload_n 0, 1) := by decide +kernel
theorem dJ6_bitCount_0f7a4_1 : decode cJ6_bitCount_0f7a4 1 = .ok (.iload_n 0, 1) := by decide +kernel
theorem dJ6_bitCount_0f7a4_2 : decode cJ6_bitCount_0f7a4 2 = .ok (.iconst 1, 1) := by decide +kernel
theorem dJ6_bitCount_0f7a4_3 : decode cJ6_bitCount_0f7a4 3 = .ok (.iushr, 1) := by decide +kernel
theorem dJ6_bitCount_0f7a4_4 : decode cJ6_bitCount_0f7a4 4 = .ok (.ldc_w 265, 3) := by decide +kernel
theorem dJ6_bitCount_0f7a4_7 : decode cJ6_bitCount_0f7a4 7 = .ok (.iand, 1) := by decide +kernel
theorem dJ6_bitCount_0f7a4_8 : decode cJ6_bitCount_0f7a4 8 = .ok (.isub, 1) := by decide +kernel
theorem dJ6_bitCount_0f7a4_9 : decode cJ6_bitCount_0f7a4 9 = .ok (.istore_n 0, 1) := by decide +kernel
theorem dJ6_bitCount_0f7a4_10 : decode cJ6_bitCount_0f7a4 10 = .ok (.iload_n 0, 1) := by decide +kernel
theorem dJ6_bitCount_0f7a4_11 : decode cJ6_bitCount_0f7a4 11 = .ok (.ldc_w 266, 3) := by decide +kernel
theorem dJ6_bitCount_0f7a4_14 : decode cJ6_bitCount_0f7a4 14 = .ok (.iand, 1) := by decide +kernel
theorem dJ6_bitCount_0f7a4_15 : decode cJ6_bitCount_0f7a4 15 = .ok (.iload_n 0, 1) := by decide +kernel
theorem dJ6_bitCount_0f7a4_16 : decode cJ6_bitCount_0f7a4 16 = .ok (.iconst 2, 1) := by decide +kernel
theorem dJ6_bitCount_0f7a4_17 : decode cJ6_bitCount_0f7a4 17 = .ok (.iushr, 1) := by decide +kernel
theorem dJ6_bitCount_0f7a4_18 : decode cJ6_bitCount_0f7a4 18 = .ok (.ldc_w 266, 3) := by decide +kernel
theorem dJ6_bitCount_0f7a4_21 : decode cJ6_bitCount_0f7a4 21 = .ok (.iand, 1) := by decide +kernel
theorem dJ6_bitCount_0f7a4_22 : decode cJ6_bitCount_0f7a4 22 = .ok (.iadd, 1) := by decide +kernel
theorem dJ6_bitCount_0f7a4_23 : decode cJ6_bitCount_0f7a4 23 = .ok (.istore_n 0, 1) := by decide +kernel
theorem dJ6_bitCount_0f7a4_24 : decode cJ6_bitCount_0f7a4 24 = .ok (.iload_n 0, 1) := by decide +kernel
theorem dJ6_bitCount_0f7a4_25 : decode cJ6_bitCount_0f7a4 25 = .ok (.iload_n 0, 1) := by decide +kernel
theorem dJ6_bitCount_0f7a4_26 : decode cJ6_bitCount_0f7a4 26 = .ok (.iconst 4, 1) := by decide +kernel
theorem dJ6_bitCount_0f7a4_27 : decode cJ6_bitCount_0f7a4 27 = .ok (.iushr, 1) := by decide +kernel
theorem dJ6_bitCount_0f7a4_28 : decode cJ6_bitCount_0f7a4 28 = .ok (.iadd, 1) := by decide +kernel
theorem dJ6_bitCount_0f7a4_29 : decode cJ6_bitCount_0f7a4 29 = .ok (.ldc_w 267, 3) := by decide +kernel
theorem dJ6_bitCount_0f7a4_32 : decode cJ6_bitCount_0f7a4 32 = .ok (.iand, 1) := by decide +kernel
theorem dJ6_bitCount_0f7a4_33 : decode cJ6_bitCount_0f7a4 33 = .ok (.istore_n 0, 1) := by decide +kernel
theorem dJ6_bitCount_0f7a4_34 : decode cJ6_bitCount_0f7a4 34 = .ok (.iload_n 0, 1) := by decide +kernel
theorem dJ6_bitCount_0f7a4_35 : decode cJ6_bitCount_0f7a4 35 = .ok (.iload_n 0, 1) := by decide +kernel
theorem dJ6_bitCount_0f7a4_36 : decode cJ6_bitCount_0f7a4 36 = .ok (.bipush 8, 2) := by decide +kernel
theorem dJ6_bitCount_0f7a4_38 : decode cJ6_bitCount_0f7a4 38 = .ok (.iushr, 1) := by decide +kernel
theorem dJ6_bitCount_0f7a4_39 : decode cJ6_bitCount_0f7a4 39 = .ok (.iadd, 1) := by decide +kernel
theorem dJ6_bitCount_0f7a4_40 : decode cJ6_bitCount_0f7a4 40 = .ok (.istore_n 0, 1) := by decide +kernel
theorem dJ6_bitCount_0f7a4_41 : decode cJ6_bitCount_0f7a4 41 = .ok (.iload_n 0, 1) := by decide +kernel
theorem dJ6_bitCount_0f7a4_42 : decode cJ6_bitCount_0f7a4 42 = .ok (.iload_n 0, 1) := by decide +kernel
theorem dJ6_bitCount_0f7a4_43 : decode cJ6_bitCount_0f7a4 43 = .ok (.bipush 16, 2) := by decide +kernel
theorem dJ6_bitCount_0f7a4_45 : decode cJ6_bitCount_0f7a4 45 = .ok (.iushr, 1) := by decide +kernel
theorem dJ6_bitCount_0f7a4_46 : decode cJ6_bitCount_0f7a4 46 = .ok (.iadd, 1) := by decide +kernel
theorem dJ6_bitCount_0f7a4_47 : decode cJ6_bitCount_0f7a4 47 = .ok (.istore_n 0, 1) := by decide +kernel
theorem dJ6_bitCount_0f7a4_48 : decode cJ6_bitCount_0f7a4 48 = .ok (.iload_n 0, 1) := by decide +kernel
theorem dJ6_bitCount_0f7a4_49 : decode cJ6_bitCount_0f7a4 49 = .ok (.bipush 63, 2) := by decide +kernel
theorem dJ6_bitCount_0f7a4_51 : decode cJ6_bitCount_0f7a4 51 = .ok (.iand, 1) := by decide +kernel
theorem dJ6_bitCount_0f7a4_52 : decode cJ6_bitCount_0f7a4 52 = .ok (.ireturn, 1) := by decide +kernel
theorem dJ9_min_7cf53_0 : decode cJ9_min_7cf53 0 = .ok (.iload_n 0, 1) := by decide +kernel
theorem dJ9_min_7cf53_1 : decode cJ9_min_7cf53 1 = .ok (.iload_n 1, 1) := by decide +kernel
theorem dJ9_min_7cf53_2 : decode cJ9_min_7cf53 2 = .ok (.if_icmp .gt 7, 3) := by decide +kernel
theorem dJ9_min_7cf53_5 : decode cJ9_min_7cf53 5 = .ok (.iload_n 0, 1) := by decide +kernel
theorem dJ9_min_7cf53_6 : decode cJ9_min_7cf53 6 = .ok (.goto 4, 3) := by decide +kernel
theorem dJ9_min_7cf53_10 : decode cJ9_min_7cf53 10 = .ok (.ireturn, 1) := by decide +kernel
end
section
theorem xwm {w : Cond} (i : Nat) (h : lw_tbl[i]? = some w) (g : goodWord w = true) : w ∈ xgt := List.mem_filter.mpr ⟨List.mem_of_getElem? h, g⟩
theorem xw_oc : Cond.code Lib.objectInit ⟨#[0xb1]⟩ 1 none ∈ xgt := xwm 150 (by decide +kernel) (by decide +kernel)
theorem xw_0 : Cond.methodLink RX12 1 Lib.objectInit ∈ xgt := xwm 1390 (by decide +kernel) (by decide +kernel)
theorem xw_1 : Cond.instanceMethod Lib.objectInit ∈ xgt := xwm 149 (by decide +kernel) (by decide +kernel)
theorem xw_2 : Cond.arrayClass .int ∈ xgt := xwm 177 (by decide +kernel) (by decide +kernel)
theorem xw_3 : Cond.fieldLink RX12 7 (TX12 1).1 (TX12 1).2.1 (TX12 1).2.2.1 ∈ xgt := xwm 1396 (by decide +kernel) (by decide +kernel)
theorem xw_4 : Cond.fieldLink RX12 13 (TX12 3).1 (TX12 3).2.1 (TX12 3).2.2.1 ∈ xgt := xwm 1398 (by decide +kernel) (by decide +kernel)
theorem xw_5 : Cond.fieldLink RX12 16 (TX12 4).1 (TX12 4).2.1 (TX12 4).2.2.1 ∈ xgt := xwm 1399 (by decide +kernel) (by decide +kernel)
theorem xw_6 : Cond.fieldLink RX12 19 (TX12 5).1 (TX12 5).2.1 (TX12 5).2.2.1 ∈ xgt := xwm 1400 (by decide +kernel) (by decide +kernel)
theorem xw_7 : Cond.fieldLink RX12 22 (TX12 6).1 (TX12 6).2.1 (TX12 6).2.2.1 ∈ xgt := xwm 1401 (by decide +kernel) (by decide +kernel)
theorem xw_8 : Cond.fieldLink RX12 25 (TX12 7).1 (TX12 7).2.1 (TX12 7).2.2.1 ∈ xgt := xwm 1402 (by decide +kernel) (by decide +kernel)
theorem xw_9 : Cond.fieldLink RX12 28 (TX12 8).1 (TX12 8).2.1 (TX12 8).2.2.1 ∈ xgt := xwm 1403 (by decide +kernel) (by decide +kernel)
theorem xw_10 : Cond.fieldLink RX12 31 (TX12 9).1 (TX12 9).2.1 (TX12 9).2.2.1 ∈ xgt := xwm 1404 (by decide +kernel) (by decide +kernel)
theorem xw_11 : Cond.arrayClass .boolean ∈ xgt := xwm 1603 (by decide +kernel) (by decide +kernel)
theorem xw_12 : Cond.fieldLink RX12 34 (TX12 10).1 (TX12 10).2.1 (TX12 10).2.2.1 ∈ xgt := xwm 1405 (by decide +kernel) (by decide +kernel)
theorem xw_13 : Cond.fieldLink RX12 38 (TX12 11).1 (TX12 11).2.1 (TX12 11).2.2.1 ∈ xgt := xwm 1406 (by decide +kernel) (by decide +kernel)
theorem xw_14 : Cond.fieldLink RX12 41 (TX12 12).1 (TX12 12).2.1 (TX12 12).2.2.1 ∈ xgt := xwm 1407 (by decide +kernel) (by decide +kernel)
theorem xw_15 : Cond.fieldLink RX12 44 (TX12 13).1 (TX12 13).2.1 (TX12 13).2.2.1 ∈ xgt := xwm 1408 (by decide +kernel) (by decide +kernel)
theorem xw_16 : Cond.fieldLink RX12 47 (TX12 14).1 (TX12 14).2.1 (TX12 14).2.2.1 ∈ xgt := xwm 1409 (by decide +kernel) (by decide +kernel)
theorem xw_17 : Cond.fieldLink RX12 50 (TX12 15).1 (TX12 15).2.1 (TX12 15).2.2.1 ∈ xgt := xwm 1410 (by decide +kernel) (by decide +kernel)
theorem xw_18 : Cond.fieldLink RX12 53 (TX12 16).1 (TX12 16).2.1 (TX12 16).2.2.1 ∈ xgt := xwm 1411 (by decide +kernel) (by decide +kernel)
theorem xw_19 : Cond.fieldLink RX12 56 (TX12 17).1 (TX12 17).2.1 (TX12 17).2.2.1 ∈ xgt := xwm 1412 (by decide +kernel) (by decide +kernel)
theorem xw_20 : Cond.fieldLink RX12 59 (TX12 18).1 (TX12 18).2.1 (TX12 18).2.2.1 ∈ xgt := xwm 1413 (by decide +kernel) (by decide +kernel)
theorem xw_21 : Cond.fieldLink RX12 62 (TX12 19).1 (TX12 19).2.1 (TX12 19).2.2.1 ∈ xgt := xwm 1414 (by decide +kernel) (by decide +kernel)
theorem xw_22 : Cond.fieldLink RX12 65 (TX12 20).1 (TX12 20).2.1 (TX12 20).2.2.1 ∈ xgt := xwm 1415 (by decide +kernel) (by decide +kernel)
theorem xw_23 : Cond.fieldLink RX12 68 (TX12 21).1 (TX12 21).2.1 (TX12 21).2.2.1 ∈ xgt := xwm 1416 (by decide +kernel) (by decide +kernel)
theorem xw_24 : Cond.fieldLink RX12 71 (TX12 22).1 (TX12 22).2.1 (TX12 22).2.2.1 ∈ xgt := xwm 1417 (by decide +kernel) (by decide +kernel)
theorem xw_25 : Cond.fieldLink RX12 74 (TX12 23).1 (TX12 23).2.1 (TX12 23).2.2.1 ∈ xgt := xwm 1418 (by decide +kernel) (by decide +kernel)
theorem xw_26 : Cond.fieldLink RX12 77 (TX12 34).1 (TX12 34).2.1 (TX12 34).2.2.1 ∈ xgt := xwm 1429 (by decide +kernel) (by decide +kernel)
theorem xw_27 : Cond.fieldLink RX12 81 (TX12 37).1 (TX12 37).2.1 (TX12 37).2.2.1 ∈ xgt := xwm 1432 (by decide +kernel) (by decide +kernel)
theorem xw_28 : Cond.fieldLink RX12 84 (TX12 38).1 (TX12 38).2.1 (TX12 38).2.2.1 ∈ xgt := xwm 1433 (by decide +kernel) (by decide +kernel)
theorem xw_29 : Cond.fieldLink RX12 87 (TX12 39).1 (TX12 39).2.1 (TX12 39).2.2.1 ∈ xgt := xwm 1434 (by decide +kernel) (by decide +kernel)
theorem xw_30 : Cond.fieldLink RX12 90 (TX12 40).1 (TX12 40).2.1 (TX12 40).2.2.1 ∈ xgt := xwm 1435 (by decide +kernel) (by decide +kernel)
theorem xw_31 : Cond.fieldLink RX12 93 (TX12 41).1 (TX12 41).2.1 (TX12 41).2.2.1 ∈ xgt := xwm 1436 (by decide +kernel) (by decide +kernel)
theorem xw_32 : Cond.fieldLink RX12 96 (TX12 42).1 (TX12 42).2.1 (TX12 42).2.2.1 ∈ xgt := xwm 1437 (by decide +kernel) (by decide +kernel)
theorem xw_33 : Cond.fieldLink RX12 99 (TX12 43).1 (TX12 43).2.1 (TX12 43).2.2.1 ∈ xgt := xwm 1438 (by decide +kernel) (by decide +kernel)
theorem xw_34 : Cond.fieldLink RX12 102 (TX12 44).1 (TX12 44).2.1 (TX12 44).2.2.1 ∈ xgt := xwm 1439 (by decide +kernel) (by decide +kernel)
theorem xw_35 : Cond.fieldLink RX12 105 (TX12 45).1 (TX12 45).2.1 (TX12 45).2.2.1 ∈ xgt := xwm 1440 (by decide +kernel) (by decide +kernel)
theorem xw_36 : Cond.fieldLink RX12 108 (TX12 46).1 (TX12 46).2.1 (TX12 46).2.2.1 ∈ xgt := xwm 1441 (by decide +kernel) (by decide +kernel)
theorem xw_37 : Cond.fieldLink RX12 111 (TX12 47).1 (TX12 47).2.1 (TX12 47).2.2.1 ∈ xgt := xwm 1442 (by decide +kernel) (by decide +kernel)
theorem xw_38 : Cond.fieldLink RX12 114 (TX12 48).1 (TX12 48).2.1 (TX12 48).2.2.1 ∈ xgt := xwm 1443 (by decide +kernel) (by decide +kernel)
theorem xw_39 : Cond.arrayClass .long ∈ xgt := xwm 545 (by decide +kernel) (by decide +kernel)
theorem xw_40 : Cond.fieldLink RX12 117 (TX12 50).1 (TX12 50).2.1 (TX12 50).2.2.1 ∈ xgt := xwm 1445 (by decide +kernel) (by decide +kernel)
theorem xw_41 : Cond.fieldLink RX12 121 (TX12 51).1 (TX12 51).2.1 (TX12 51).2.2.1 ∈ xgt := xwm 1446 (by decide +kernel) (by decide +kernel)
theorem xw_42 : Cond.fieldLink RX12 124 (TX12 53).1 (TX12 53).2.1 (TX12 53).2.2.1 ∈ xgt := xwm 1448 (by decide +kernel) (by decide +kernel)
theorem xw_43 : Cond.fieldLink RX12 127 (TX12 54).1 (TX12 54).2.1 (TX12 54).2.2.1 ∈ xgt := xwm 1449 (by decide +kernel) (by decide +kernel)
theorem xw_44 : Cond.fieldLink RX12 130 (TX12 55).1 (TX12 55).2.1 (TX12 55).2.2.1 ∈ xgt := xwm 1450 (by decide +kernel) (by decide +kernel)
theorem xw_45 : Cond.fieldLink RX12 133 (TX12 56).1 (TX12 56).2.1 (TX12 56).2.2.1 ∈ xgt := xwm 1451 (by decide +kernel) (by decide +kernel)
theorem xw_46 : Cond.fieldLink RX12 136 (TX12 57).1 (TX12 57).2.1 (TX12 57).2.2.1 ∈ xgt := xwm 1452 (by decide +kernel) (by decide +kernel)
theorem xw_47 : Cond.fieldLink RX12 139 (TX12 58).1 (TX12 58).2.1 (TX12 58).2.2.1 ∈ xgt := xwm 1453 (by decide +kernel) (by decide +kernel)
theorem xw_48 : Cond.fieldLink RX12 142 (TX12 62).1 (TX12 62).2.1 (TX12 62).2.2.1 ∈ xgt := xwm 1457 (by decide +kernel) (by decide +kernel)
theorem xw_49 : Cond.fieldLink RX12 145 (TX12 63).1 (TX12 63).2.1 (TX12 63).2.2.1 ∈ xgt := xwm 1458 (by decide +kernel) (by decide +kernel)
theorem xw_50 : Cond.fieldLink RX12 148 (TX12 64).1 (TX12 64).2.1 (TX12 64).2.2.1 ∈ xgt := xwm 1459 (by decide +kernel) (by decide +kernel)
theorem xw_51 : Cond.fieldLink RX12 151 (TX12 65).1 (TX12 65).2.1 (TX12 65).2.2.1 ∈ xgt := xwm 1460 (by decide +kernel) (by decide +kernel)
theorem xw_52 : Cond.fieldLink RX12 154 (TX12 66).1 (TX12 66).2.1 (TX12 66).2.2.1 ∈ xgt := xwm 1461 (by decide +kernel) (by decide +kernel)
theorem xw_53 : Cond.fieldLink RX12 157 (TX12 67).1 (TX12 67).2.1 (TX12 67).2.2.1 ∈ xgt := xwm 1462 (by decide +kernel) (by decide +kernel)
theorem xw_54 : Cond.instanceMethod yX12_begins ∈ xgt := xwm 1393 (by decide +kernel) (by decide +kernel)
theorem xw_55 : Cond.selects yX12_begins.cls yX12_begins yX12_begins ∈ xgt := xwm 47 (by decide +kernel) (by decide +kernel)
theorem xw_56 : Cond.methodLink RX12 160 yX12_begins ∈ xgt := xwm 1391 (by decide +kernel) (by decide +kernel)
theorem xw_57 : Cond.code yX12_init cX12_init 1 none ∈ xgt := xwm 1389 (by decide +kernel) (by decide +kernel)
theorem xw_58 : Cond.initialized RX12 ∈ xgt := xwm 134 (by decide +kernel) (by decide +kernel)
theorem xw_59 : Cond.code yX12_areVerses cX12_areVerses 2 (some .boolean) ∈ xgt := xwm 1950 (by decide +kernel) (by decide +kernel)
theorem xw_60 : Cond.fieldLink RX12 163 (TX12 0).1 (TX12 0).2.1 (TX12 0).2.2.1 ∈ xgt := xwm 1395 (by decide +kernel) (by decide +kernel)
theorem xw_61 : Cond.fieldLink RX12 328 (TX12 49).1 (TX12 49).2.1 (TX12 49).2.2.1 ∈ xgt := xwm 1444 (by decide +kernel) (by decide +kernel)
theorem xw_62 : Cond.code yX12_back cX12_back 1 (some .int) ∈ xgt := xwm 2054 (by decide +kernel) (by decide +kernel)
theorem xw_63 : Cond.instanceMethod yX12_isVerse ∈ xgt := xwm 1782 (by decide +kernel) (by decide +kernel)
theorem xw_64 : Cond.selects yX12_isVerse.cls yX12_isVerse yX12_isVerse ∈ xgt := xwm 80 (by decide +kernel) (by decide +kernel)
theorem xw_65 : Cond.methodLink RX12 332 yX12_isVerse ∈ xgt := xwm 1780 (by decide +kernel) (by decide +kernel)
theorem xw_66 : Cond.code yX12_bar cX12_bar 6 (some .int) ∈ xgt := xwm 1885 (by decide +kernel) (by decide +kernel)
theorem xw_67 : Cond.code yX12_begins cX12_begins 2 none ∈ xgt := xwm 1394 (by decide +kernel) (by decide +kernel)
theorem xw_68 : Cond.methodLink RX12 446 yX12_isCrowns ∈ xgt := xwm 1900 (by decide +kernel) (by decide +kernel)
theorem xw_69 : Cond.static yX12_isCrowns ∈ xgt := xwm 1901 (by decide +kernel) (by decide +kernel)
theorem xw_70 : Cond.instanceMethod yX12_layBest ∈ xgt := xwm 1905 (by decide +kernel) (by decide +kernel)
theorem xw_71 : Cond.selects yX12_layBest.cls yX12_layBest yX12_layBest ∈ xgt := xwm 96 (by decide +kernel) (by decide +kernel)
theorem xw_72 : Cond.methodLink RX12 449 yX12_layBest ∈ xgt := xwm 1903 (by decide +kernel) (by decide +kernel)
theorem xw_73 : Cond.code yX12_best cX12_best 3 (some .int) ∈ xgt := xwm 1899 (by decide +kernel) (by decide +kernel)
theorem xw_74 : Cond.code yX12_bids cX12_bids 3 (some .int) ∈ xgt := xwm 1852 (by decide +kernel) (by decide +kernel)
theorem xw_75 : Cond.code yX12_bitsOf cX12_bitsOf 3 (some .int) ∈ xgt := xwm 2005 (by decide +kernel) (by decide +kernel)
theorem xw_76 : Cond.instanceMethod yX12_isPart ∈ xgt := xwm 1786 (by decide +kernel) (by decide +kernel)
theorem xw_77 : Cond.selects yX12_isPart.cls yX12_isPart yX12_isPart ∈ xgt := xwm 81 (by decide +kernel) (by decide +kernel)
theorem xw_78 : Cond.methodLink RX12 344 yX12_isPart ∈ xgt := xwm 1784 (by decide +kernel) (by decide +kernel)
theorem xw_79 : Cond.code yX12_chosen cX12_chosen 6 (some .int) ∈ xgt := xwm 1938 (by decide +kernel) (by decide +kernel)
theorem xw_80 : Cond.code yX12_copies cX12_copies 4 none ∈ xgt := xwm 2050 (by decide +kernel) (by decide +kernel)
theorem xw_81 : Cond.fieldLink RX12 325 (TX12 61).1 (TX12 61).2.1 (TX12 61).2.2.1 ∈ xgt := xwm 1456 (by decide +kernel) (by decide +kernel)
theorem xw_82 : Cond.instanceMethod yX12_knownMany ∈ xgt := xwm 1981 (by decide +kernel) (by decide +kernel)
theorem xw_83 : Cond.selects yX12_knownMany.cls yX12_knownMany yX12_knownMany ∈ xgt := xwm 108 (by decide +kernel) (by decide +kernel)
theorem xw_84 : Cond.methodLink RX12 467 yX12_knownMany ∈ xgt := xwm 1979 (by decide +kernel) (by decide +kernel)
theorem xw_85 : Cond.methodLink RX12 485 yX12_bitsOf ∈ xgt := xwm 2003 (by decide +kernel) (by decide +kernel)
theorem xw_86 : Cond.static yX12_bitsOf ∈ xgt := xwm 2004 (by decide +kernel) (by decide +kernel)
theorem xw_87 : Cond.code yX12_count cX12_count 4 (some .int) ∈ xgt := xwm 2058 (by decide +kernel) (by decide +kernel)
theorem xw_88 : Cond.instanceMethod yX12_isVoice ∈ xgt := xwm 1762 (by decide +kernel) (by decide +kernel)
theorem xw_89 : Cond.selects yX12_isVoice.cls yX12_isVoice yX12_isVoice ∈ xgt := xwm 77 (by decide +kernel) (by decide +kernel)
theorem xw_90 : Cond.methodLink RX12 335 yX12_isVoice ∈ xgt := xwm 1760 (by decide +kernel) (by decide +kernel)
theorem xw_91 : Cond.code yX12_cracks cX12_cracks 2 (some .int) ∈ xgt := xwm 1861 (by decide +kernel) (by decide +kernel)
theorem xw_92 : Cond.code yX12_due cX12_due 4 (some .int) ∈ xgt := xwm 1795 (by decide +kernel) (by decide +kernel)
theorem xw_93 : Cond.instanceMethod yX12_areVerses ∈ xgt := xwm 1949 (by decide +kernel) (by decide +kernel)
theorem xw_94 : Cond.selects yX12_areVerses.cls yX12_areVerses yX12_areVerses ∈ xgt := xwm 105 (by decide +kernel) (by decide +kernel)
theorem xw_95 : Cond.methodLink RX12 461 yX12_areVerses ∈ xgt := xwm 1947 (by decide +kernel) (by decide +kernel)
theorem xw_96 : Cond.instanceMethod yX12_sells ∈ xgt := xwm 1953 (by decide +kernel) (by decide +kernel)
theorem xw_97 : Cond.selects yX12_sells.cls yX12_sells yX12_sells ∈ xgt := xwm 106 (by decide +kernel) (by decide +kernel)
theorem xw_98 : Cond.methodLink RX12 464 yX12_sells ∈ xgt := xwm 1951 (by decide +kernel) (by decide +kernel)
theorem xw_99 : Cond.code yX12_easter cX12_easter 4 (some .int) ∈ xgt := xwm 1958 (by decide +kernel) (by decide +kernel)
theorem xw_100 : Cond.code yX12_entry cX12_entry 6 (some .int) ∈ xgt := xwm 2024 (by decide +kernel) (by decide +kernel)
theorem xw_101 : Cond.fieldLink RX12 318 (TX12 33).1 (TX12 33).2.1 (TX12 33).2.2.1 ∈ xgt := xwm 1428 (by decide +kernel) (by decide +kernel)
theorem xw_102 : Cond.code yX12_fault cX12_fault 2 (some .int) ∈ xgt := xwm 1751 (by decide +kernel) (by decide +kernel)
theorem xw_103 : Cond.fieldLink RX12 166 (TX12 2).1 (TX12 2).2.1 (TX12 2).2.2.1 ∈ xgt := xwm 1397 (by decide +kernel) (by decide +kernel)
theorem xw_104 : Cond.code yX12_feed cX12_feed 8 (some .int) ∈ xgt := xwm 1611 (by decide +kernel) (by decide +kernel)
theorem xw_105 : Cond.code yX12_found cX12_found 5 (some .int) ∈ xgt := xwm 1672 (by decide +kernel) (by decide +kernel)
theorem xw_106 : Cond.instanceMethod yX12_strikes ∈ xgt := xwm 1977 (by decide +kernel) (by decide +kernel)
theorem xw_107 : Cond.selects yX12_strikes.cls yX12_strikes yX12_strikes ∈ xgt := xwm 107 (by decide +kernel) (by decide +kernel)
theorem xw_108 : Cond.methodLink RX12 473 yX12_strikes ∈ xgt := xwm 1975 (by decide +kernel) (by decide +kernel)
theorem xw_109 : Cond.instanceMethod yX12_isGang ∈ xgt := xwm 2008 (by decide +kernel) (by decide +kernel)
theorem xw_110 : Cond.selects yX12_isGang.cls yX12_isGang yX12_isGang ∈ xgt := xwm 111 (by decide +kernel) (by decide +kernel)
theorem xw_111 : Cond.methodLink RX12 488 yX12_isGang ∈ xgt := xwm 2006 (by decide +kernel) (by decide +kernel)
theorem xw_112 : Cond.code yX12_gang cX12_gang 3 (some .int) ∈ xgt := xwm 2002 (by decide +kernel) (by decide +kernel)
theorem xw_113 : Cond.code yX12_half cX12_half 3 none ∈ xgt := xwm 1747 (by decide +kernel) (by decide +kernel)
theorem xw_114 : Cond.fieldLink RX12 169 (TX12 27).1 (TX12 27).2.1 (TX12 27).2.2.1 ∈ xgt := xwm 1422 (by decide +kernel) (by decide +kernel)
theorem xw_115 : Cond.fieldLink RX12 172 (TX12 26).1 (TX12 26).2.1 (TX12 26).2.2.1 ∈ xgt := xwm 1421 (by decide +kernel) (by decide +kernel)
theorem xw_116 : Cond.code yX12_here cX12_here 1 (some .int) ∈ xgt := xwm 1627 (by decide +kernel) (by decide +kernel)
theorem xw_117 : Cond.code yX12_hum cX12_hum 2 (some .int) ∈ xgt := xwm 1962 (by decide +kernel) (by decide +kernel)
theorem xw_118 : Cond.code yX12_isCrowns cX12_isCrowns 1 (some .boolean) ∈ xgt := xwm 1902 (by decide +kernel) (by decide +kernel)
theorem xw_119 : Cond.code yX12_isGang cX12_isGang 5 (some .boolean) ∈ xgt := xwm 2009 (by decide +kernel) (by decide +kernel)
theorem xw_120 : Cond.code yX12_isPart cX12_isPart 3 (some .boolean) ∈ xgt := xwm 1787 (by decide +kernel) (by decide +kernel)
theorem xw_121 : Cond.code yX12_isTavern cX12_isTavern 2 (some .boolean) ∈ xgt := xwm 1775 (by decide +kernel) (by decide +kernel)
theorem xw_122 : Cond.code yX12_isVerse cX12_isVerse 2 (some .boolean) ∈ xgt := xwm 1783 (by decide +kernel) (by decide +kernel)
theorem xw_123 : Cond.code yX12_isVoice cX12_isVoice 2 (some .boolean) ∈ xgt := xwm 1763 (by decide +kernel) (by decide +kernel)
theorem xw_124 : Cond.instanceMethod yX12_copies ∈ xgt := xwm 2049 (by decide +kernel) (by decide +kernel)
theorem xw_125 : Cond.selects yX12_copies.cls yX12_copies yX12_copies ∈ xgt := xwm 114 (by decide +kernel) (by decide +kernel)
theorem xw_126 : Cond.methodLink RX12 508 yX12_copies ∈ xgt := xwm 2047 (by decide +kernel) (by decide +kernel)
theorem xw_127 : Cond.code yX12_keep cX12_keep 1 (some .int) ∈ xgt := xwm 2046 (by decide +kernel) (by decide +kernel)
theorem xw_128 : Cond.code yX12_known cX12_known 2 (some .boolean) ∈ xgt := xwm 1970 (by decide +kernel) (by decide +kernel)
theorem xw_129 : Cond.code yX12_knownMany cX12_knownMany 1 (some .int) ∈ xgt := xwm 1982 (by decide +kernel) (by decide +kernel)
theorem xw_130 : Cond.instanceMethod yX12_layDues ∈ xgt := xwm 1909 (by decide +kernel) (by decide +kernel)
theorem xw_131 : Cond.selects yX12_layDues.cls yX12_layDues yX12_layDues ∈ xgt := xwm 97 (by decide +kernel) (by decide +kernel)
theorem xw_132 : Cond.methodLink RX12 424 yX12_layDues ∈ xgt := xwm 1907 (by decide +kernel) (by decide +kernel)
theorem xw_133 : Cond.code yX12_layBest cX12_layBest 4 none ∈ xgt := xwm 1906 (by decide +kernel) (by decide +kernel)
theorem xw_134 : Cond.code yX12_layDues cX12_layDues 3 none ∈ xgt := xwm 1910 (by decide +kernel) (by decide +kernel)
theorem xw_135 : Cond.methodLink RX12 229 yX12_found ∈ xgt := xwm 1670 (by decide +kernel) (by decide +kernel)
theorem xw_136 : Cond.static yX12_found ∈ xgt := xwm 1671 (by decide +kernel) (by decide +kernel)
theorem xw_137 : Cond.code yX12_named cX12_named 3 (some .int) ∈ xgt := xwm 1755 (by decide +kernel) (by decide +kernel)
theorem xw_138 : Cond.code yX12_odds cX12_odds 6 (some .int) ∈ xgt := xwm 1994 (by decide +kernel) (by decide +kernel)
theorem xw_139 : Cond.instanceMethod yX12_isTavern ∈ xgt := xwm 1774 (by decide +kernel) (by decide +kernel)
theorem xw_140 : Cond.selects yX12_isTavern.cls yX12_isTavern yX12_isTavern ∈ xgt := xwm 79 (by decide +kernel) (by decide +kernel)
theorem xw_141 : Cond.methodLink RX12 341 yX12_isTavern ∈ xgt := xwm 1772 (by decide +kernel) (by decide +kernel)
theorem xw_142 : Cond.code yX12_pay cX12_pay 5 (some .int) ∈ xgt := xwm 2036 (by decide +kernel) (by decide +kernel)
theorem xw_143 : Cond.code yX12_pitch cX12_pitch 4 (some .int) ∈ xgt := xwm 1791 (by decide +kernel) (by decide +kernel)
theorem xw_144 : Cond.code yX12_reads cX12_reads 3 none ∈ xgt := xwm 1619 (by decide +kernel) (by decide +kernel)
theorem xw_145 : Cond.code yX12_redeem cX12_redeem 6 (some .int) ∈ xgt := xwm 1869 (by decide +kernel) (by decide +kernel)
theorem xw_146 : Cond.code yX12_round cX12_round 5 (some .int) ∈ xgt := xwm 2013 (by decide +kernel) (by decide +kernel)
theorem xw_147 : Cond.code yX12_run cX12_run 3 (some .int) ∈ xgt := xwm 2028 (by decide +kernel) (by decide +kernel)
theorem xw_148 : Cond.code yX12_sells cX12_sells 8 (some .int) ∈ xgt := xwm 1954 (by decide +kernel) (by decide +kernel)
theorem xw_149 : Cond.code yX12_sings cX12_sings 4 (some .int) ∈ xgt := xwm 1881 (by decide +kernel) (by decide +kernel)
theorem xw_150 : Cond.code yX12_sold cX12_sold 4 (some .int) ∈ xgt := xwm 1946 (by decide +kernel) (by decide +kernel)
theorem xw_151 : Cond.code yX12_sounds cX12_sounds 4 (some .int) ∈ xgt := xwm 1848 (by decide +kernel) (by decide +kernel)
theorem xw_152 : Cond.code yX12_strike cX12_strike 2 (some .int) ∈ xgt := xwm 1966 (by decide +kernel) (by decide +kernel)
theorem xw_153 : Cond.code yX12_strikes cX12_strikes 2 none ∈ xgt := xwm 1978 (by decide +kernel) (by decide +kernel)
theorem xw_154 : Cond.code yX12_sunday cX12_sunday 4 (some .int) ∈ xgt := xwm 1889 (by decide +kernel) (by decide +kernel)
theorem xw_155 : Cond.code yX12_tavern cX12_tavern 5 (some .int) ∈ xgt := xwm 1771 (by decide +kernel) (by decide +kernel)
theorem xw_156 : Cond.fieldLink RX12 217 (TX12 31).1 (TX12 31).2.1 (TX12 31).2.2.1 ∈ xgt := xwm 1426 (by decide +kernel) (by decide +kernel)
theorem xw_157 : Cond.fieldLink RX12 220 (TX12 32).1 (TX12 32).2.1 (TX12 32).2.2.1 ∈ xgt := xwm 1427 (by decide +kernel) (by decide +kernel)
theorem xw_158 : Cond.instanceMethod yX12_reads ∈ xgt := xwm 1618 (by decide +kernel) (by decide +kernel)
theorem xw_159 : Cond.selects yX12_reads.cls yX12_reads yX12_reads ∈ xgt := xwm 48 (by decide +kernel) (by decide +kernel)
theorem xw_160 : Cond.methodLink RX12 254 yX12_reads ∈ xgt := xwm 1616 (by decide +kernel) (by decide +kernel)
theorem xw_161 : Cond.fieldLink RX12 243 (TX12 24).1 (TX12 24).2.1 (TX12 24).2.2.1 ∈ xgt := xwm 1419 (by decide +kernel) (by decide +kernel)
theorem xw_162 : Cond.fieldLink RX12 273 (TX12 25).1 (TX12 25).2.1 (TX12 25).2.2.1 ∈ xgt := xwm 1420 (by decide +kernel) (by decide +kernel)
theorem xw_163 : Cond.fieldLink RX12 312 (TX12 35).1 (TX12 35).2.1 (TX12 35).2.2.1 ∈ xgt := xwm 1430 (by decide +kernel) (by decide +kernel)
theorem xw_164 : Cond.fieldLink RX12 288 (TX12 36).1 (TX12 36).2.1 (TX12 36).2.2.1 ∈ xgt := xwm 1431 (by decide +kernel) (by decide +kernel)
theorem xw_165 : Cond.instanceMethod yX12_token ∈ xgt := xwm 1622 (by decide +kernel) (by decide +kernel)
theorem xw_166 : Cond.selects yX12_token.cls yX12_token yX12_token ∈ xgt := xwm 49 (by decide +kernel) (by decide +kernel)
theorem xw_167 : Cond.methodLink RX12 223 yX12_token ∈ xgt := xwm 1620 (by decide +kernel) (by decide +kernel)
theorem xw_168 : Cond.fieldLink RX12 182 (TX12 29).1 (TX12 29).2.1 (TX12 29).2.2.1 ∈ xgt := xwm 1424 (by decide +kernel) (by decide +kernel)
theorem xw_169 : Cond.methodLink RX12 321 yX12_half ∈ xgt := xwm 1745 (by decide +kernel) (by decide +kernel)
theorem xw_170 : Cond.static yX12_half ∈ xgt := xwm 1746 (by decide +kernel) (by decide +kernel)
theorem xw_171 : Cond.code yX12_text cX12_text 3 (some .int) ∈ xgt := xwm 1615 (by decide +kernel) (by decide +kernel)
theorem xw_172 : Cond.code yX12_thieves cX12_thieves 3 (some .int) ∈ xgt := xwm 1974 (by decide +kernel) (by decide +kernel)
theorem xw_173 : Cond.code yX12_thrown cX12_thrown 1 (some .int) ∈ xgt := xwm 1607 (by decide +kernel) (by decide +kernel)
theorem xw_174 : Cond.instanceMethod yX12_here ∈ xgt := xwm 1626 (by decide +kernel) (by decide +kernel)
theorem xw_175 : Cond.selects yX12_here.cls yX12_here yX12_here ∈ xgt := xwm 50 (by decide +kernel) (by decide +kernel)
theorem xw_176 : Cond.methodLink RX12 175 yX12_here ∈ xgt := xwm 1624 (by decide +kernel) (by decide +kernel)
theorem xw_177 : Cond.fieldLink RX12 179 (TX12 28).1 (TX12 28).2.1 (TX12 28).2.2.1 ∈ xgt := xwm 1423 (by decide +kernel) (by decide +kernel)
theorem xw_178 : Cond.code yX12_token cX12_token 2 none ∈ xgt := xwm 1623 (by decide +kernel) (by decide +kernel)
theorem xw_179 : Cond.code yX12_undo cX12_undo 3 (some .int) ∈ xgt := xwm 1877 (by decide +kernel) (by decide +kernel)
theorem xw_180 : Cond.code yX12_verse cX12_verse 3 (some .int) ∈ xgt := xwm 1779 (by decide +kernel) (by decide +kernel)
theorem xw_181 : Cond.constantLong RX12 504 (lN 18446744073709551615) ∈ xgt := xwm 2041 (by decide +kernel) (by decide +kernel)
theorem xw_182 : Cond.code yX12_whole cX12_whole 10 (some .long) ∈ xgt := xwm 2040 (by decide +kernel) (by decide +kernel)
theorem xw_183 : Cond.constant RJ6 265 (nI 1431655765) ∈ xgt := xwm 961 (by decide +kernel) (by decide +kernel)
theorem xw_184 : Cond.constant RJ6 266 (nI 858993459) ∈ xgt := xwm 962 (by decide +kernel) (by decide +kernel)
theorem xw_185 : Cond.constant RJ6 267 (nI 252645135) ∈ xgt := xwm 963 (by decide +kernel) (by decide +kernel)
theorem xw_186 : Cond.code yJ6_bitCount_0f7a4 cJ6_bitCount_0f7a4 1 (some .int) ∈ xgt := xwm 960 (by decide +kernel) (by decide +kernel)
theorem xw_187 : Cond.initialized RJ6 ∈ xgt := xwm 141 (by decide +kernel) (by decide +kernel)
theorem xw_188 : Cond.code yJ9_min_7cf53 cJ9_min_7cf53 2 (some .int) ∈ xgt := xwm 748 (by decide +kernel) (by decide +kernel)
theorem xw_189 : Cond.initialized RJ9 ∈ xgt := xwm 135 (by decide +kernel) (by decide +kernel)
theorem xin_X0 : ∀ w ∈ u_ws RX0 TX0 10, w ∈ xgt := by decide +kernel
theorem xin_X1 : ∀ w ∈ u_ws RX1 TX1 11, w ∈ xgt := by decide +kernel
theorem xin_X2 : ∀ w ∈ u_ws RX2 TX2 10, w ∈ xgt := by decide +kernel
theorem xin_X3 : ∀ w ∈ u_ws RX3 TX3 2, w ∈ xgt := by decide +kernel
theorem xin_X4 : ∀ w ∈ u_ws RX4 TX4 19, w ∈ xgt := by decide +kernel
theorem xin_X5 : ∀ w ∈ u_ws RX5 TX5 6, w ∈ xgt := by decide +kernel
theorem xin_X6 : ∀ w ∈ u_ws RX6 TX6 2, w ∈ xgt := by decide +kernel
theorem xin_X7 : ∀ w ∈ u_ws RX7 TX7 6, w ∈ xgt := by decide +kernel
theorem xin_X8 : ∀ w ∈ u_ws RX8 TX8 4, w ∈ xgt := by decide +kernel
theorem xin_X9 : ∀ w ∈ u_ws RX9 TX9 9, w ∈ xgt := by decide +kernel
theorem xin_X10 : ∀ w ∈ u_ws RX10 TX10 13, w ∈ xgt := by decide +kernel
theorem xin_X11 : ∀ w ∈ u_ws RX11 TX11 15, w ∈ xgt := by decide +kernel
theorem xin_X12 : ∀ w ∈ u_ws RX12 TX12 69, w ∈ xgt := by decide +kernel
end
section
def xk_0 : List (Nat × xOp) := [(0, (2, 1, 1, 0, [])), (1, (25, 4, 0, 0, [])), (4, (2, 5, 1, 0, [])), (5, (0, 8, 800, 0, [])), (8, (23, 10, 0, 0, [])), (10, (17, 13, 12, 1, [(4, 0)])), (13, (2, 14, 1, 0, [])), (14, (0, 16, 14, 0, [])), (16, (23, 18, 0, 0, [])), (18, (17, 21, 12, 3, [(4, 0)])), (21, (2, 22, 1, 0, [])), (22, (0, 24, 6, 0, [])), (24, (23, 26, 0, 0, [])), (26, (17, 29, 12, 4, [(4, 0)])), (29, (2, 30, 1, 0, [])), (30, (0, 32, 6, 0, [])), (32, (23, 34, 0, 0, [])), (34, (17, 37, 12, 5, [(4, 0)])), (37, (2, 38, 1, 0, [])), (38, (0, 40, 6, 0, [])), (40, (23, 42, 0, 0, [])), (42, (17, 45, 12, 6, [(4, 0)])), (45, (2, 46, 1, 0, [])), (46, (0, 48, 12, 0, [])), (48, (23, 50, 0, 0, [])), (50, (17, 53, 12, 7, [(4, 0)])), (53, (2, 54, 1, 0, [])), (54, (0, 56, 12, 0, [])), (56, (23, 58, 0, 0, [])), (58, (17, 61, 12, 8, [(4, 0)])), (61, (2, 62, 1, 0, [])), (62, (0, 64, 12, 0, [])), (64, (23, 66, 0, 0, [])), (66, (17, 69, 12, 9, [(4, 0)])), (69, (2, 70, 1, 0, [])), (70, (0, 72, 12, 0, [])), (72, (23, 74, 3, 0, [])), (74, (17, 77, 12, 10, [(4, 0)])), (77, (2, 78, 1, 0, [])), (78, (0, 80, 12, 0, [])), (80, (23, 82, 0, 0, [])), (82, (9, 83, 0, 0, [])), (83, (0, 84, 0, 0, [])), (84, (0, 85, 4294967295, 0, [])), (85, (21, 86, 0, 0, [])), (86, (9, 87, 0, 0, [])), (87, (0, 88, 1, 0, [])), (88, (0, 89, 4294967295, 0, [])), (89, (21, 90, 0, 0, [])), (90, (9, 91, 0, 0, [])), (91, (0, 92, 2, 0, [])), (92, (0, 93, 4294967295, 0, [])), (93, (21, 94, 0, 0, [])), (94, (9, 95, 0, 0, [])), (95, (0, 96, 3, 0, [])), (96, (0, 97, 4294967295, 0, [])), (97, (21, 98, 0, 0, [])), (98, (9, 99, 0, 0, [])), (99, (0, 100, 4, 0, [])), (100, (0, 101, 4294967295, 0, [])), (101, (21, 102, 0, 0, [])), (102, (9, 103, 0, 0, [])), (103, (0, 104, 5, 0, [])), (104, (0, 105, 4294967295, 0, [])), (105, (21, 106, 0, 0, [])), (106, (9, 107, 0, 0, [])), (107, (0, 109, 6, 0, [])), (109, (0, 110, 4294967295, 0, [])), (110, (21, 111, 0, 0, [])), (111, (9, 112, 0, 0, [])), (112, (0, 114, 7, 0, [])), (114, (0, 115, 4294967295, 0, [])), (115, (21, 116, 0, 0, [])), (116, (9, 117, 0, 0, [])), (117, (0, 119, 8, 0, [])), (119, (0, 120, 4294967295, 0, [])), (120, (21, 121, 0, 0, [])), (121, (9, 122, 0, 0, [])), (122, (0, 124, 9, 0, [])), (124, (0, 125, 4294967295, 0, [])), (125, (21, 126, 0, 0, [])), (126, (9, 127, 0, 0, [])), (127, (0, 129, 10, 0, [])), (129, (0, 130, 4294967295, 0, [])), (130, (21, 131, 0, 0, [])), (131, (9, 132, 0, 0, [])), (132, (0, 134, 11, 0, [])), (134, (0, 135, 4294967295, 0, [])), (135, (21, 136, 0, 0, [])), (136, (17, 139, 12, 11, [(4, 0)])), (139, (2, 140, 1, 0, [])), (140, (0, 142, 12, 0, [])), (142, (23, 144, 0, 0, [])), (144, (17, 147, 12, 12, [(4, 0)])), (147, (2, 148, 1, 0, [])), (148, (0, 150, 12, 0, [])), (150, (23, 152, 0, 0, [])), (152, (17, 155, 12, 13, [(4, 0)])), (155, (2, 156, 1, 0, [])), (156, (0, 158, 8, 0, [])), (158, (23, 160, 0, 0, [])), (160, (17, 163, 12, 14, [(4, 0)])), (163, (2, 164, 1, 0, [])), (164, (0, 166, 8, 0, [])), (166, (23, 168, 0, 0, [])), (168, (17, 171, 12, 15, [(4, 0)])), (171, (2, 172, 1, 0, [])), (172, (0, 174, 24, 0, [])), (174, (23, 176, 0, 0, [])), (176, (17, 179, 12, 16, [(4, 0)])), (179, (2, 180, 1, 0, [])), (180, (0, 183, 192, 0, [])), (183, (23, 185, 0, 0, [])), (185, (17, 188, 12, 17, [(4, 0)])), (188, (2, 189, 1, 0, [])), (189, (0, 191, 6, 0, [])), (191, (23, 193, 0, 0, [])), (193, (17, 196, 12, 18, [(4, 0)])), (196, (2, 197, 1, 0, [])), (197, (0, 199, 6, 0, [])), (199, (23, 201, 0, 0, [])), (201, (17, 204, 12, 19, [(4, 0)])), (204, (2, 205, 1, 0, [])), (205, (0, 207, 10, 0, [])), (207, (23, 209, 0, 0, [])), (209, (17, 212, 12, 20, [(4, 0)])), (212, (2, 213, 1, 0, [])), (213, (0, 215, 10, 0, [])), (215, (23, 217, 0, 0, [])), (217, (17, 220, 12, 21, [(4, 0)])), (220, (2, 221, 1, 0, [])), (221, (0, 224, 128, 0, [])), (224, (23, 226, 0, 0, [])), (226, (17, 229, 12, 22, [(4, 0)])), (229, (2, 230, 1, 0, [])), (230, (0, 233, 128, 0, [])), (233, (23, 235, 0, 0, [])), (235, (17, 238, 12, 23, [(4, 0)])), (238, (2, 239, 1, 0, [])), (239, (0, 240, 4294967295, 0, [])), (240, (17, 243, 12, 34, [(0, 0)])), (243, (2, 244, 1, 0, [])), (244, (0, 245, 2, 0, [])), (245, (23, 247, 0, 0, [])), (247, (17, 250, 12, 37, [(4, 0)])), (250, (2, 251, 1, 0, [])), (251, (0, 252, 2, 0, [])), (252, (23, 254, 0, 0, [])), (254, (17, 257, 12, 38, [(4, 0)])), (257, (2, 258, 1, 0, [])), (258, (0, 259, 2, 0, [])), (259, (23, 261, 0, 0, [])), (261, (17, 264, 12, 39, [(4, 0)])), (264, (2, 265, 1, 0, [])), (265, (0, 266, 2, 0, [])), (266, (23, 268, 0, 0, [])), (268, (17, 271, 12, 40, [(4, 0)])), (271, (2, 272, 1, 0, [])), (272, (0, 273, 2, 0, [])), (273, (23, 275, 0, 0, [])), (275, (17, 278, 12, 41, [(4, 0)])), (278, (2, 279, 1, 0, [])), (279, (0, 281, 6, 0, [])), (281, (23, 283, 0, 0, [])), (283, (17, 286, 12, 42, [(4, 0)])), (286, (2, 287, 1, 0, [])), (287, (0, 289, 6, 0, [])), (289, (23, 291, 0, 0, [])), (291, (17, 294, 12, 43, [(4, 0)])), (294, (2, 295, 1, 0, [])), (295, (0, 297, 12, 0, [])), (297, (23, 299, 0, 0, [])), (299, (17, 302, 12, 44, [(4, 0)])), (302, (2, 303, 1, 0, [])), (303, (0, 305, 24, 0, [])), (305, (23, 307, 0, 0, [])), (307, (17, 310, 12, 45, [(4, 0)])), (310, (2, 311, 1, 0, [])), (311, (0, 312, 2, 0, [])), (312, (23, 314, 0, 0, [])), (314, (17, 317, 12, 46, [(4, 0)])), (317, (2, 318, 1, 0, [])), (318, (0, 320, 24, 0, [])), (320, (23, 322, 0, 0, [])), (322, (17, 325, 12, 47, [(4, 0)])), (325, (2, 326, 1, 0, [])), (326, (0, 328, 24, 0, [])), (328, (23, 330, 0, 0, [])), (330, (17, 333, 12, 48, [(4, 0)])), (333, (2, 334, 1, 0, [])), (334, (0, 336, 7, 0, [])), (336, (23, 338, 2, 0, [])), (338, (17, 341, 12, 50, [(4, 0)])), (341, (2, 342, 1, 0, [])), (342, (0, 344, 64, 0, [])), (344, (23, 346, 2, 0, [])), (346, (17, 349, 12, 51, [(4, 0)])), (349, (2, 350, 1, 0, [])), (350, (0, 353, 5000, 0, [])), (353, (23, 355, 0, 0, [])), (355, (17, 358, 12, 53, [(4, 0)])), (358, (2, 359, 1, 0, [])), (359, (0, 362, 5000, 0, [])), (362, (23, 364, 0, 0, [])), (364, (17, 367, 12, 54, [(4, 0)])), (367, (2, 368, 1, 0, [])), (368, (0, 370, 72, 0, [])), (370, (23, 372, 0, 0, [])), (372, (17, 375, 12, 55, [(4, 0)])), (375, (2, 376, 1, 0, [])), (376, (0, 378, 72, 0, [])), (378, (23, 380, 0, 0, [])), (380, (17, 383, 12, 56, [(4, 0)])), (383, (2, 384, 1, 0, [])), (384, (0, 385, 3, 0, [])), (385, (23, 387, 0, 0, [])), (387, (17, 390, 12, 57, [(4, 0)])), (390, (2, 391, 1, 0, [])), (391, (0, 392, 3, 0, [])), (392, (23, 394, 0, 0, [])), (394, (17, 397, 12, 58, [(4, 0)])), (397, (2, 398, 1, 0, [])), (398, (0, 399, 4294967295, 0, [])), (399, (17, 402, 12, 62, [(0, 0)])), (402, (2, 403, 1, 0, [])), (403, (0, 405, 24, 0, [])), (405, (23, 407, 0, 0, [])), (407, (17, 410, 12, 63, [(4, 0)])), (410, (2, 411, 1, 0, [])), (411, (0, 413, 24, 0, [])), (413, (23, 415, 0, 0, [])), (415, (17, 418, 12, 64, [(4, 0)])), (418, (2, 419, 1, 0, [])), (419, (0, 421, 24, 0, [])), (421, (23, 423, 3, 0, [])), (423, (17, 426, 12, 65, [(4, 0)])), (426, (2, 427, 1, 0, [])), (427, (0, 428, 4, 0, [])), (428, (23, 430, 0, 0, [])), (430, (17, 433, 12, 66, [(4, 0)])), (433, (2, 434, 1, 0, [])), (434, (0, 435, 4, 0, [])), (435, (23, 437, 0, 0, [])), (437, (17, 440, 12, 67, [(4, 0)])), (440, (2, 441, 1, 0, [])), (441, (28, 444, 4, 12, [])), (444, (32, 0, 0, 0, []))]
def xm_0 : xM := (yX12_init, cX12_init, 1, none, 0, RX12, { frames := 3, cells := 47, slots := 11845, locals := 91 }, xk_0)
def xk_1 : List (Nat × xOp) := [(0, (2, 1, 0, 1, [])), (1, (12, 4, 20, 2, [])), (4, (2, 5, 0, 1, [])), (5, (0, 6, 1, 0, [])), (6, (2, 7, 1, 0, [])), (7, (16, 10, 12, 3, [])), (10, (0, 11, 2, 0, [])), (11, (19, 12, 0, 0, [])), (12, (5, 13, 6, 0, [])), (13, (13, 16, 20, 3, [])), (16, (0, 17, 1, 0, [])), (17, (14, 21, 0, 0, [])), (20, (0, 21, 0, 0, [])), (21, (30, 0, 0, 3, []))]
def xm_1 : xM := (yX12_areVerses, cX12_areVerses, 2, (some .boolean), 1, RX12, { frames := 2, cells := 0, slots := 0, locals := 70 }, xk_1)
def xk_2 : List (Nat × xOp) := [(0, (2, 1, 1, 0, [])), (1, (0, 2, 0, 0, [])), (2, (17, 5, 12, 0, [(0, 0)])), (5, (2, 6, 1, 0, [])), (6, (16, 9, 12, 49, [])), (9, (12, 12, 14, 1, [])), (12, (0, 13, 4294967295, 0, [])), (13, (30, 14, 0, 0, []))]
def xm_2 : xM := (yX12_back, cX12_back, 1, (some .int), 0, RX12, { frames := 2, cells := 0, slots := 0, locals := 70 }, xk_2)
def xk_3 : List (Nat × xOp) := [(0, (2, 1, 1, 0, [])), (1, (0, 2, 0, 0, [])), (2, (17, 5, 12, 0, [(0, 0)])), (5, (2, 6, 1, 0, [])), (6, (2, 7, 0, 1, [])), (7, (28, 10, 26, 12, [])), (10, (12, 13, 23, 0, [])), (23, (0, 24, 4294967295, 0, [])), (24, (30, 25, 0, 0, []))]
def xm_3 : xM := (yX12_bar, cX12_bar, 6, (some .int), 2, RX12, { frames := 3, cells := 0, slots := 0, locals := 91 }, xk_3)
def xk_4 : List (Nat × xOp) := [(0, (2, 1, 1, 0, [])), (1, (16, 4, 12, 37, [])), (4, (0, 5, 0, 0, [])), (5, (0, 6, 0, 0, [])), (6, (21, 7, 0, 0, [])), (7, (2, 8, 1, 0, [])), (8, (16, 11, 12, 38, [])), (11, (0, 12, 0, 0, [])), (12, (2, 13, 1, 0, [])), (13, (16, 16, 12, 3, [])), (16, (0, 17, 4, 0, [])), (17, (19, 18, 0, 0, [])), (18, (21, 19, 0, 0, [])), (19, (2, 20, 1, 0, [])), (20, (16, 23, 12, 39, [])), (23, (0, 24, 0, 0, [])), (24, (2, 25, 1, 0, [])), (25, (16, 28, 12, 3, [])), (28, (0, 29, 5, 0, [])), (29, (19, 30, 0, 0, [])), (30, (21, 31, 0, 0, [])), (31, (2, 32, 1, 0, [])), (32, (16, 35, 12, 40, [])), (35, (0, 36, 0, 0, [])), (36, (0, 37, 0, 0, [])), (37, (21, 38, 0, 0, [])), (38, (2, 39, 1, 0, [])), (39, (16, 42, 12, 41, [])), (42, (0, 43, 0, 0, [])), (43, (0, 44, 0, 0, [])), (44, (21, 45, 0, 0, [])), (45, (2, 46, 1, 0, [])), (46, (16, 49, 12, 46, [])), (49, (0, 50, 0, 0, [])), (50, (0, 51, 0, 0, [])), (51, (21, 52, 0, 0, [])), (52, (0, 53, 0, 0, [])), (53, (3, 54, 0, 1, [])), (54, (2, 55, 0, 1, [])), (55, (0, 56, 3, 0, [])), (56, (13, 59, 91, 3, [])), (59, (2, 60, 1, 0, [])), (60, (16, 63, 12, 42, [])), (63, (2, 64, 0, 1, [])), (64, (2, 65, 0, 1, [])), (65, (2, 66, 1, 0, [])), (66, (16, 69, 12, 3, [])), (69, (0, 70, 0, 0, [])), (70, (19, 71, 0, 0, [])), (71, (13, 74, 83, 3, [])), (83, (0, 84, 0, 0, [])), (84, (21, 85, 0, 0, [])), (85, (4, 88, 1, 1, [])), (88, (14, 54, 0, 0, [])), (91, (0, 92, 0, 0, [])), (92, (3, 93, 0, 1, [])), (93, (2, 94, 0, 1, [])), (94, (0, 95, 3, 0, [])), (95, (13, 98, 130, 3, [])), (98, (2, 99, 1, 0, [])), (99, (16, 102, 12, 43, [])), (102, (2, 103, 0, 1, [])), (103, (2, 104, 0, 1, [])), (104, (2, 105, 1, 0, [])), (105, (16, 108, 12, 3, [])), (108, (0, 109, 3, 0, [])), (109, (19, 110, 0, 0, [])), (110, (13, 113, 122, 3, [])), (122, (0, 123, 0, 0, [])), (123, (21, 124, 0, 0, [])), (124, (4, 127, 1, 1, [])), (127, (14, 93, 0, 0, [])), (130, (0, 131, 0, 0, [])), (131, (3, 132, 0, 1, [])), (132, (2, 133, 0, 1, [])), (133, (0, 135, 6, 0, [])), (135, (13, 138, 151, 3, [])), (138, (2, 139, 1, 0, [])), (139, (16, 142, 12, 44, [])), (142, (2, 143, 0, 1, [])), (143, (0, 144, 0, 0, [])), (144, (21, 145, 0, 0, [])), (145, (4, 148, 1, 1, [])), (148, (14, 132, 0, 0, [])), (151, (0, 152, 0, 0, [])), (152, (3, 153, 0, 1, [])), (153, (2, 154, 0, 1, [])), (154, (0, 156, 12, 0, [])), (156, (13, 159, 172, 3, [])), (159, (2, 160, 1, 0, [])), (160, (16, 163, 12, 45, [])), (163, (2, 164, 0, 1, [])), (164, (0, 165, 4294967295, 0, [])), (165, (21, 166, 0, 0, [])), (166, (4, 169, 1, 1, [])), (169, (14, 153, 0, 0, [])), (172, (32, 0, 0, 0, []))]
def xm_4 : xM := (yX12_begins, cX12_begins, 2, none, 0, RX12, { frames := 2, cells := 0, slots := 0, locals := 70 }, xk_4)
def xk_5 : List (Nat × xOp) := [(0, (2, 1, 1, 0, [])), (1, (0, 2, 0, 0, [])), (2, (17, 5, 12, 0, [(0, 0)])), (5, (2, 6, 0, 1, [])), (6, (27, 9, 22, 0, [])), (9, (12, 12, 21, 0, [])), (12, (2, 13, 0, 2, [])), (13, (12, 16, 21, 2, [])), (16, (2, 17, 0, 2, [])), (17, (0, 18, 1, 0, [])), (18, (13, 21, 23, 5, [])), (21, (0, 22, 4294967295, 0, [])), (22, (30, 23, 0, 0, [])), (23, (2, 24, 1, 0, [])), (24, (2, 25, 0, 1, [])), (25, (28, 28, 31, 12, [])), (28, (2, 29, 0, 2, [])), (29, (12, 32, 41, 1, [])), (32, (2, 33, 1, 0, [])), (33, (16, 36, 12, 53, [])), (36, (2, 37, 0, 1, [])), (37, (19, 38, 0, 0, [])), (38, (14, 47, 0, 0, [])), (41, (2, 42, 1, 0, [])), (42, (16, 45, 12, 54, [])), (45, (2, 46, 0, 1, [])), (46, (19, 47, 0, 0, [])), (47, (30, 0, 0, 0, []))]
def xm_5 : xM := (yX12_best, cX12_best, 3, (some .int), 2, RX12, { frames := 6, cells := 0, slots := 0, locals := 158 }, xk_5)
def xk_6 : List (Nat × xOp) := [(0, (2, 1, 1, 0, [])), (1, (0, 2, 0, 0, [])), (2, (17, 5, 12, 0, [(0, 0)])), (5, (2, 6, 0, 1, [])), (6, (12, 9, 42, 2, [])), (9, (2, 10, 0, 1, [])), (10, (2, 11, 1, 0, [])), (11, (16, 14, 12, 3, [])), (14, (0, 15, 3, 0, [])), (15, (19, 16, 0, 0, [])), (16, (13, 19, 42, 3, [])), (42, (0, 43, 4294967295, 0, [])), (43, (30, 0, 0, 0, []))]
def xm_6 : xM := (yX12_bids, cX12_bids, 3, (some .int), 2, RX12, { frames := 2, cells := 0, slots := 0, locals := 70 }, xk_6)
def xk_7 : List (Nat × xOp) := [(0, (0, 1, 0, 0, [])), (1, (3, 2, 0, 1, [])), (2, (0, 3, 0, 0, [])), (3, (3, 4, 0, 2, [])), (4, (2, 5, 0, 2, [])), (5, (0, 7, 6, 0, [])), (7, (13, 10, 24, 3, [])), (10, (2, 11, 0, 1, [])), (11, (2, 12, 0, 0, [])), (12, (2, 13, 0, 2, [])), (13, (5, 14, 7, 0, [])), (14, (0, 15, 1, 0, [])), (15, (5, 16, 3, 0, [])), (16, (5, 17, 0, 0, [])), (17, (3, 18, 0, 1, [])), (18, (4, 21, 2, 1, [])), (21, (14, 4, 0, 0, [])), (24, (2, 25, 0, 1, [])), (25, (30, 0, 0, 0, []))]
def xm_7 : xM := (yX12_bitsOf, cX12_bitsOf, 3, (some .int), 1, RX12, { frames := 2, cells := 0, slots := 0, locals := 70 }, xk_7)
def xk_8 : List (Nat × xOp) := [(0, (2, 1, 1, 0, [])), (1, (0, 2, 0, 0, [])), (2, (17, 5, 12, 0, [(0, 0)])), (5, (2, 6, 0, 1, [])), (6, (27, 9, 22, 0, [])), (9, (12, 12, 21, 0, [])), (12, (2, 13, 1, 0, [])), (13, (2, 14, 0, 2, [])), (14, (2, 15, 0, 3, [])), (15, (28, 18, 24, 12, [])), (18, (12, 21, 23, 1, [])), (21, (0, 22, 4294967295, 0, [])), (22, (30, 23, 0, 0, []))]
def xm_8 : xM := (yX12_chosen, cX12_chosen, 6, (some .int), 3, RX12, { frames := 4, cells := 0, slots := 0, locals := 113 }, xk_8)
def xk_9 : List (Nat × xOp) := [(0, (2, 1, 1, 0, [])), (1, (16, 4, 12, 37, [])), (4, (2, 5, 0, 1, [])), (5, (2, 6, 1, 0, [])), (6, (16, 9, 12, 37, [])), (9, (2, 10, 0, 2, [])), (10, (19, 11, 0, 0, [])), (11, (21, 12, 0, 0, [])), (12, (2, 13, 1, 0, [])), (13, (16, 16, 12, 38, [])), (16, (2, 17, 0, 1, [])), (17, (2, 18, 1, 0, [])), (18, (16, 21, 12, 38, [])), (21, (2, 22, 0, 2, [])), (22, (19, 23, 0, 0, [])), (23, (21, 24, 0, 0, [])), (24, (2, 25, 1, 0, [])), (25, (16, 28, 12, 39, [])), (28, (2, 29, 0, 1, [])), (29, (2, 30, 1, 0, [])), (30, (16, 33, 12, 39, [])), (33, (2, 34, 0, 2, [])), (34, (19, 35, 0, 0, [])), (35, (21, 36, 0, 0, [])), (36, (2, 37, 1, 0, [])), (37, (16, 40, 12, 40, [])), (40, (2, 41, 0, 1, [])), (41, (2, 42, 1, 0, [])), (42, (16, 45, 12, 40, [])), (45, (2, 46, 0, 2, [])), (46, (19, 47, 0, 0, [])), (47, (21, 48, 0, 0, [])), (48, (2, 49, 1, 0, [])), (49, (16, 52, 12, 41, [])), (52, (2, 53, 0, 1, [])), (53, (2, 54, 1, 0, [])), (54, (16, 57, 12, 41, [])), (57, (2, 58, 0, 2, [])), (58, (19, 59, 0, 0, [])), (59, (21, 60, 0, 0, [])), (60, (2, 61, 1, 0, [])), (61, (16, 64, 12, 46, [])), (64, (2, 65, 0, 1, [])), (65, (2, 66, 1, 0, [])), (66, (16, 69, 12, 46, [])), (69, (2, 70, 0, 2, [])), (70, (19, 71, 0, 0, [])), (71, (21, 72, 0, 0, [])), (72, (0, 73, 0, 0, [])), (73, (3, 74, 0, 3, [])), (74, (2, 75, 0, 3, [])), (75, (0, 76, 3, 0, [])), (76, (13, 79, 105, 3, [])), (79, (2, 80, 1, 0, [])), (80, (16, 83, 12, 42, [])), (83, (0, 84, 3, 0, [])), (84, (2, 85, 0, 1, [])), (85, (5, 86, 2, 0, [])), (86, (2, 87, 0, 3, [])), (87, (5, 88, 0, 0, [])), (88, (2, 89, 1, 0, [])), (89, (16, 92, 12, 42, [])), (92, (0, 93, 3, 0, [])), (93, (2, 94, 0, 2, [])), (94, (5, 95, 2, 0, [])), (95, (2, 96, 0, 3, [])), (96, (5, 97, 0, 0, [])), (97, (19, 98, 0, 0, [])), (98, (21, 99, 0, 0, [])), (99, (4, 102, 3, 1, [])), (102, (14, 74, 0, 0, [])), (105, (0, 106, 0, 0, [])), (106, (3, 107, 0, 3, [])), (107, (2, 108, 0, 3, [])), (108, (0, 109, 3, 0, [])), (109, (13, 112, 138, 3, [])), (112, (2, 113, 1, 0, [])), (113, (16, 116, 12, 43, [])), (116, (0, 117, 3, 0, [])), (117, (2, 118, 0, 1, [])), (118, (5, 119, 2, 0, [])), (119, (2, 120, 0, 3, [])), (120, (5, 121, 0, 0, [])), (121, (2, 122, 1, 0, [])), (122, (16, 125, 12, 43, [])), (125, (0, 126, 3, 0, [])), (126, (2, 127, 0, 2, [])), (127, (5, 128, 2, 0, [])), (128, (2, 129, 0, 3, [])), (129, (5, 130, 0, 0, [])), (130, (19, 131, 0, 0, [])), (131, (21, 132, 0, 0, [])), (132, (4, 135, 3, 1, [])), (135, (14, 107, 0, 0, [])), (138, (0, 139, 0, 0, [])), (139, (3, 140, 0, 3, [])), (140, (2, 141, 0, 3, [])), (141, (0, 143, 6, 0, [])), (143, (13, 146, 174, 3, [])), (146, (2, 147, 1, 0, [])), (147, (16, 150, 12, 44, [])), (150, (0, 152, 6, 0, [])), (152, (2, 153, 0, 1, [])), (153, (5, 154, 2, 0, [])), (154, (2, 155, 0, 3, [])), (155, (5, 156, 0, 0, [])), (156, (2, 157, 1, 0, [])), (157, (16, 160, 12, 44, [])), (160, (0, 162, 6, 0, [])), (162, (2, 163, 0, 2, [])), (163, (5, 164, 2, 0, [])), (164, (2, 165, 0, 3, [])), (165, (5, 166, 0, 0, [])), (166, (19, 167, 0, 0, [])), (167, (21, 168, 0, 0, [])), (168, (4, 171, 3, 1, [])), (171, (14, 140, 0, 0, [])), (174, (0, 175, 0, 0, [])), (175, (3, 176, 0, 3, [])), (176, (2, 177, 0, 3, [])), (177, (0, 179, 12, 0, [])), (179, (13, 182, 254, 3, [])), (182, (2, 183, 1, 0, [])), (183, (16, 186, 12, 45, [])), (186, (0, 188, 12, 0, [])), (188, (2, 189, 0, 1, [])), (189, (5, 190, 2, 0, [])), (190, (2, 191, 0, 3, [])), (191, (5, 192, 0, 0, [])), (192, (2, 193, 1, 0, [])), (193, (16, 196, 12, 45, [])), (196, (0, 198, 12, 0, [])), (198, (2, 199, 0, 2, [])), (199, (5, 200, 2, 0, [])), (200, (2, 201, 0, 3, [])), (201, (5, 202, 0, 0, [])), (202, (19, 203, 0, 0, [])), (203, (21, 204, 0, 0, [])), (204, (2, 205, 1, 0, [])), (205, (16, 208, 12, 47, [])), (208, (0, 210, 12, 0, [])), (210, (2, 211, 0, 1, [])), (211, (5, 212, 2, 0, [])), (212, (2, 213, 0, 3, [])), (213, (5, 214, 0, 0, [])), (214, (2, 215, 1, 0, [])), (215, (16, 218, 12, 47, [])), (218, (0, 220, 12, 0, [])), (220, (2, 221, 0, 2, [])), (221, (5, 222, 2, 0, [])), (222, (2, 223, 0, 3, [])), (223, (5, 224, 0, 0, [])), (224, (19, 225, 0, 0, [])), (225, (21, 226, 0, 0, [])), (226, (2, 227, 1, 0, [])), (227, (16, 230, 12, 48, [])), (230, (0, 232, 12, 0, [])), (232, (2, 233, 0, 1, [])), (233, (5, 234, 2, 0, [])), (234, (2, 235, 0, 3, [])), (235, (5, 236, 0, 0, [])), (236, (2, 237, 1, 0, [])), (237, (16, 240, 12, 48, [])), (240, (0, 242, 12, 0, [])), (242, (2, 243, 0, 2, [])), (243, (5, 244, 2, 0, [])), (244, (2, 245, 0, 3, [])), (245, (5, 246, 0, 0, [])), (246, (19, 247, 0, 0, [])), (247, (21, 248, 0, 0, [])), (248, (4, 251, 3, 1, [])), (251, (14, 176, 0, 0, [])), (254, (32, 0, 0, 0, []))]
def xm_9 : xM := (yX12_copies, cX12_copies, 4, none, 2, RX12, { frames := 2, cells := 0, slots := 0, locals := 70 }, xk_9)
def xk_10 : List (Nat × xOp) := [(0, (2, 1, 1, 0, [])), (1, (0, 2, 0, 0, [])), (2, (17, 5, 12, 0, [(0, 0)])), (5, (0, 6, 0, 0, [])), (6, (3, 7, 0, 2, [])), (7, (2, 8, 0, 1, [])), (8, (15, 0, 219, 0, [(0, 72), (1, 79), (2, 86), (3, 93), (4, 100), (5, 108), (6, 115), (7, 122), (8, 129), (9, 134), (10, 139), (11, 149)])), (72, (2, 73, 1, 0, [])), (73, (16, 76, 12, 3, [])), (76, (0, 77, 0, 0, [])), (77, (19, 78, 0, 0, [])), (78, (30, 79, 0, 0, [])), (79, (2, 80, 1, 0, [])), (80, (16, 83, 12, 3, [])), (83, (0, 84, 1, 0, [])), (84, (19, 85, 0, 0, [])), (85, (30, 86, 0, 0, [])), (86, (2, 87, 1, 0, [])), (87, (16, 90, 12, 3, [])), (90, (0, 91, 2, 0, [])), (91, (19, 92, 0, 0, [])), (92, (30, 93, 0, 0, [])), (93, (2, 94, 1, 0, [])), (94, (16, 97, 12, 3, [])), (97, (0, 98, 3, 0, [])), (98, (19, 99, 0, 0, [])), (99, (30, 100, 0, 0, [])), (100, (2, 101, 1, 0, [])), (101, (16, 104, 12, 3, [])), (104, (0, 106, 6, 0, [])), (106, (19, 107, 0, 0, [])), (107, (30, 108, 0, 0, [])), (108, (2, 109, 1, 0, [])), (109, (16, 112, 12, 37, [])), (112, (0, 113, 0, 0, [])), (113, (19, 114, 0, 0, [])), (114, (30, 115, 0, 0, [])), (115, (2, 116, 1, 0, [])), (116, (16, 119, 12, 38, [])), (119, (0, 120, 0, 0, [])), (120, (19, 121, 0, 0, [])), (121, (30, 122, 0, 0, [])), (122, (2, 123, 1, 0, [])), (123, (16, 126, 12, 46, [])), (126, (0, 127, 0, 0, [])), (127, (19, 128, 0, 0, [])), (128, (30, 129, 0, 0, [])), (129, (2, 130, 1, 0, [])), (130, (16, 133, 12, 61, [])), (133, (30, 134, 0, 0, [])), (134, (2, 135, 1, 0, [])), (135, (28, 138, 30, 12, [])), (138, (30, 139, 0, 0, [])), (139, (2, 140, 1, 0, [])), (140, (16, 143, 12, 41, [])), (143, (0, 144, 0, 0, [])), (144, (19, 145, 0, 0, [])), (145, (27, 148, 7, 0, [])), (148, (30, 149, 0, 0, [])), (149, (0, 150, 0, 0, [])), (150, (3, 151, 0, 3, [])), (151, (2, 152, 0, 3, [])), (152, (2, 153, 1, 0, [])), (153, (16, 156, 12, 3, [])), (156, (0, 157, 0, 0, [])), (157, (19, 158, 0, 0, [])), (158, (13, 161, 176, 3, [])), (176, (0, 177, 0, 0, [])), (177, (3, 178, 0, 3, [])), (178, (2, 179, 0, 3, [])), (179, (2, 180, 1, 0, [])), (180, (16, 183, 12, 3, [])), (183, (0, 184, 3, 0, [])), (184, (19, 185, 0, 0, [])), (185, (13, 188, 203, 3, [])), (203, (2, 204, 0, 2, [])), (204, (2, 205, 1, 0, [])), (205, (16, 208, 12, 38, [])), (208, (0, 209, 0, 0, [])), (209, (19, 210, 0, 0, [])), (210, (5, 211, 0, 0, [])), (211, (2, 212, 1, 0, [])), (212, (16, 215, 12, 40, [])), (215, (0, 216, 0, 0, [])), (216, (19, 217, 0, 0, [])), (217, (5, 218, 0, 0, [])), (218, (30, 219, 0, 0, [])), (219, (0, 220, 4294967295, 0, [])), (220, (30, 0, 0, 0, []))]
def xm_10 : xM := (yX12_count, cX12_count, 4, (some .int), 1, RX12, { frames := 3, cells := 0, slots := 0, locals := 92 }, xk_10)
def xk_11 : List (Nat × xOp) := [(0, (2, 1, 1, 0, [])), (1, (0, 2, 0, 0, [])), (2, (17, 5, 12, 0, [(0, 0)])), (5, (2, 6, 1, 0, [])), (6, (2, 7, 0, 1, [])), (7, (28, 10, 27, 12, [])), (10, (12, 13, 22, 0, [])), (22, (0, 23, 4294967295, 0, [])), (23, (30, 0, 0, 0, []))]
def xm_11 : xM := (yX12_cracks, cX12_cracks, 2, (some .int), 1, RX12, { frames := 3, cells := 0, slots := 0, locals := 91 }, xk_11)
def xk_12 : List (Nat × xOp) := [(0, (2, 1, 1, 0, [])), (1, (0, 2, 0, 0, [])), (2, (17, 5, 12, 0, [(0, 0)])), (5, (2, 6, 1, 0, [])), (6, (2, 7, 0, 1, [])), (7, (2, 8, 0, 2, [])), (8, (28, 11, 24, 12, [])), (11, (12, 14, 35, 0, [])), (35, (0, 36, 4294967295, 0, [])), (36, (30, 0, 0, 0, []))]
def xm_12 : xM := (yX12_due, cX12_due, 4, (some .int), 3, RX12, { frames := 4, cells := 0, slots := 0, locals := 113 }, xk_12)
def xk_13 : List (Nat × xOp) := [(0, (2, 1, 1, 0, [])), (1, (0, 2, 0, 0, [])), (2, (17, 5, 12, 0, [(0, 0)])), (5, (2, 6, 1, 0, [])), (6, (2, 7, 0, 1, [])), (7, (28, 10, 1, 12, [])), (10, (12, 13, 15, 1, [])), (13, (0, 14, 4294967295, 0, [])), (14, (30, 15, 0, 0, [])), (15, (2, 16, 1, 0, [])), (16, (2, 17, 0, 1, [])), (17, (2, 18, 1, 0, [])), (18, (16, 21, 12, 3, [])), (21, (0, 22, 2, 0, [])), (22, (19, 23, 0, 0, [])), (23, (0, 24, 1, 0, [])), (24, (5, 25, 1, 0, [])), (25, (28, 28, 41, 12, [])), (28, (3, 29, 0, 2, [])), (29, (0, 30, 0, 0, [])), (30, (3, 31, 0, 3, [])), (31, (2, 32, 0, 3, [])), (32, (2, 33, 1, 0, [])), (33, (16, 36, 12, 3, [])), (36, (0, 37, 3, 0, [])), (37, (19, 38, 0, 0, [])), (38, (13, 41, 59, 3, [])), (59, (2, 60, 1, 0, [])), (60, (16, 63, 12, 38, [])), (63, (0, 64, 0, 0, [])), (64, (11, 65, 0, 0, [])), (65, (19, 66, 0, 0, [])), (66, (2, 67, 0, 2, [])), (67, (5, 68, 0, 0, [])), (68, (21, 69, 0, 0, [])), (69, (2, 70, 0, 2, [])), (70, (30, 0, 0, 0, []))]
def xm_13 : xM := (yX12_easter, cX12_easter, 4, (some .int), 1, RX12, { frames := 3, cells := 0, slots := 0, locals := 97 }, xk_13)
def xk_14 : List (Nat × xOp) := [(0, (2, 1, 1, 0, [])), (1, (0, 2, 0, 0, [])), (2, (17, 5, 12, 0, [(0, 0)])), (5, (2, 6, 1, 0, [])), (6, (2, 7, 0, 1, [])), (7, (2, 8, 0, 2, [])), (8, (28, 11, 24, 12, [])), (11, (12, 14, 34, 0, [])), (34, (0, 35, 4294967295, 0, [])), (35, (30, 36, 0, 0, []))]
def xm_14 : xM := (yX12_entry, cX12_entry, 6, (some .int), 5, RX12, { frames := 4, cells := 0, slots := 0, locals := 113 }, xk_14)
def xk_15 : List (Nat × xOp) := [(0, (2, 1, 1, 0, [])), (1, (0, 2, 0, 0, [])), (2, (17, 5, 12, 0, [(0, 0)])), (5, (2, 6, 0, 1, [])), (6, (12, 9, 16, 1, [])), (9, (2, 10, 1, 0, [])), (10, (16, 13, 12, 33, [])), (13, (14, 29, 0, 0, [])), (16, (2, 17, 0, 1, [])), (17, (0, 18, 1, 0, [])), (18, (13, 21, 28, 1, [])), (21, (2, 22, 1, 0, [])), (22, (16, 25, 12, 34, [])), (25, (14, 29, 0, 0, [])), (28, (0, 29, 4294967295, 0, [])), (29, (30, 0, 0, 0, []))]
def xm_15 : xM := (yX12_fault, cX12_fault, 2, (some .int), 1, RX12, { frames := 2, cells := 0, slots := 0, locals := 70 }, xk_15)
def xk_16 : List (Nat × xOp) := [(0, (2, 1, 1, 0, [])), (1, (0, 2, 0, 0, [])), (2, (17, 5, 12, 0, [(0, 0)])), (5, (2, 6, 1, 0, [])), (6, (16, 9, 12, 2, [])), (9, (0, 12, 780, 0, [])), (12, (13, 15, 17, 5, [])), (17, (0, 18, 0, 0, [])), (18, (3, 20, 0, 6, [])), (20, (2, 22, 0, 6, [])), (22, (0, 24, 20, 0, [])), (24, (13, 27, 110, 3, [])), (27, (2, 29, 0, 6, [])), (29, (0, 30, 4, 0, [])), (30, (13, 33, 37, 3, [])), (33, (2, 34, 0, 1, [])), (34, (14, 73, 0, 0, [])), (37, (2, 39, 0, 6, [])), (39, (0, 41, 8, 0, [])), (41, (13, 44, 48, 3, [])), (44, (2, 45, 0, 2, [])), (45, (14, 73, 0, 0, [])), (48, (2, 50, 0, 6, [])), (50, (0, 52, 12, 0, [])), (52, (13, 55, 59, 3, [])), (55, (2, 56, 0, 3, [])), (56, (14, 73, 0, 0, [])), (59, (2, 61, 0, 6, [])), (61, (0, 63, 16, 0, [])), (63, (13, 66, 71, 3, [])), (66, (2, 68, 0, 4, [])), (68, (14, 73, 0, 0, [])), (71, (2, 73, 0, 5, [])), (73, (3, 75, 0, 7, [])), (75, (2, 76, 1, 0, [])), (76, (16, 79, 12, 1, [])), (79, (2, 80, 1, 0, [])), (80, (16, 83, 12, 2, [])), (83, (2, 85, 0, 6, [])), (85, (5, 86, 0, 0, [])), (86, (2, 88, 0, 7, [])), (88, (0, 90, 24, 0, [])), (90, (0, 92, 8, 0, [])), (92, (2, 94, 0, 6, [])), (94, (0, 95, 4, 0, [])), (95, (5, 96, 10, 0, [])), (96, (5, 97, 2, 0, [])), (97, (5, 98, 1, 0, [])), (98, (5, 99, 7, 0, [])), (99, (0, 102, 255, 0, [])), (102, (5, 103, 3, 0, [])), (103, (21, 104, 0, 0, [])), (104, (4, 107, 6, 1, [])), (107, (14, 20, 0, 0, [])), (110, (2, 111, 1, 0, [])), (111, (9, 112, 0, 0, [])), (112, (16, 115, 12, 2, [])), (115, (0, 117, 20, 0, [])), (117, (5, 118, 0, 0, [])), (118, (17, 121, 12, 2, [(0, 0)])), (121, (2, 122, 1, 0, [])), (122, (16, 125, 12, 2, [])), (125, (30, 0, 0, 0, []))]
def xm_16 : xM := (yX12_feed, cX12_feed, 8, (some .int), 5, RX12, { frames := 2, cells := 0, slots := 0, locals := 70 }, xk_16)
def xk_17 : List (Nat × xOp) := [(0, (0, 1, 0, 0, [])), (1, (3, 3, 0, 4, [])), (3, (2, 5, 0, 4, [])), (5, (2, 6, 0, 2, [])), (6, (13, 9, 28, 3, [])), (28, (0, 29, 4294967295, 0, [])), (29, (30, 0, 0, 0, []))]
def xm_17 : xM := (yX12_found, cX12_found, 5, (some .int), 4, RX12, { frames := 2, cells := 0, slots := 0, locals := 70 }, xk_17)
def xk_18 : List (Nat × xOp) := [(0, (2, 1, 1, 0, [])), (1, (0, 2, 0, 0, [])), (2, (17, 5, 12, 0, [(0, 0)])), (5, (2, 6, 1, 0, [])), (6, (28, 9, 46, 12, [])), (9, (0, 11, 4294967294, 0, [])), (11, (3, 12, 0, 1, [])), (12, (0, 13, 0, 0, [])), (13, (3, 14, 0, 2, [])), (14, (2, 15, 0, 2, [])), (15, (0, 16, 1, 0, [])), (16, (2, 17, 1, 0, [])), (17, (16, 20, 12, 3, [])), (20, (0, 21, 1, 0, [])), (21, (19, 22, 0, 0, [])), (22, (5, 23, 6, 0, [])), (23, (13, 26, 59, 3, [])), (26, (2, 27, 0, 1, [])), (27, (0, 29, 4294967294, 0, [])), (29, (13, 32, 43, 0, [])), (43, (2, 44, 1, 0, [])), (44, (2, 45, 0, 2, [])), (45, (28, 48, 23, 12, [])), (48, (12, 51, 53, 0, [])), (51, (2, 52, 0, 2, [])), (52, (3, 53, 0, 1, [])), (53, (4, 56, 2, 1, [])), (56, (14, 14, 0, 0, [])), (59, (2, 60, 0, 1, [])), (60, (30, 0, 0, 0, []))]
def xm_18 : xM := (yX12_gang, cX12_gang, 3, (some .int), 0, RX12, { frames := 4, cells := 0, slots := 0, locals := 114 }, xk_18)
def xk_19 : List (Nat × xOp) := [(0, (2, 1, 1, 0, [])), (1, (18, 2, 0, 0, [])), (2, (0, 3, 2, 0, [])), (3, (5, 4, 9, 0, [])), (4, (3, 5, 0, 1, [])), (5, (0, 6, 0, 0, [])), (6, (3, 7, 0, 2, [])), (7, (2, 8, 0, 2, [])), (8, (2, 9, 0, 1, [])), (9, (13, 12, 26, 3, [])), (12, (2, 13, 1, 0, [])), (13, (2, 14, 0, 2, [])), (14, (2, 15, 1, 0, [])), (15, (2, 16, 0, 1, [])), (16, (2, 17, 0, 2, [])), (17, (5, 18, 0, 0, [])), (18, (19, 19, 0, 0, [])), (19, (21, 20, 0, 0, [])), (20, (4, 23, 2, 1, [])), (23, (14, 7, 0, 0, [])), (26, (32, 0, 0, 0, []))]
def xm_19 : xM := (yX12_half, cX12_half, 3, none, 1, RX12, { frames := 2, cells := 0, slots := 0, locals := 70 }, xk_19)
def xk_20 : List (Nat × xOp) := [(0, (2, 1, 1, 0, [])), (1, (16, 4, 12, 27, [])), (4, (2, 5, 1, 0, [])), (5, (16, 8, 12, 26, [])), (8, (13, 11, 23, 3, [])), (23, (0, 24, 4294967295, 0, [])), (24, (30, 0, 0, 0, []))]
def xm_20 : xM := (yX12_here, cX12_here, 1, (some .int), 0, RX12, { frames := 2, cells := 0, slots := 0, locals := 70 }, xk_20)
def xk_21 : List (Nat × xOp) := [(0, (2, 1, 1, 0, [])), (1, (0, 2, 0, 0, [])), (2, (17, 5, 12, 0, [(0, 0)])), (5, (2, 6, 0, 1, [])), (6, (0, 7, 1, 0, [])), (7, (13, 10, 25, 2, [])), (10, (2, 11, 0, 1, [])), (11, (0, 13, 40, 0, [])), (13, (13, 16, 25, 4, [])), (16, (2, 17, 1, 0, [])), (17, (16, 20, 12, 61, [])), (20, (0, 22, 24, 0, [])), (22, (13, 25, 27, 1, [])), (25, (0, 26, 4294967295, 0, [])), (26, (30, 27, 0, 0, [])), (27, (2, 28, 1, 0, [])), (28, (16, 31, 12, 63, [])), (31, (2, 32, 1, 0, [])), (32, (16, 35, 12, 61, [])), (35, (2, 36, 0, 1, [])), (36, (21, 37, 0, 0, [])), (37, (2, 38, 1, 0, [])), (38, (16, 41, 12, 64, [])), (41, (2, 42, 1, 0, [])), (42, (16, 45, 12, 61, [])), (45, (0, 46, 4294967295, 0, [])), (46, (21, 47, 0, 0, [])), (47, (2, 48, 1, 0, [])), (48, (9, 49, 0, 0, [])), (49, (16, 52, 12, 61, [])), (52, (0, 53, 1, 0, [])), (53, (5, 54, 0, 0, [])), (54, (17, 57, 12, 61, [(0, 0)])), (57, (2, 58, 1, 0, [])), (58, (16, 61, 12, 61, [])), (61, (0, 62, 1, 0, [])), (62, (5, 63, 1, 0, [])), (63, (30, 0, 0, 0, []))]
def xm_21 : xM := (yX12_hum, cX12_hum, 2, (some .int), 1, RX12, { frames := 2, cells := 0, slots := 0, locals := 70 }, xk_21)
def xk_22 : List (Nat × xOp) := [(0, (2, 1, 0, 0, [])), (1, (12, 4, 15, 2, [])), (4, (2, 5, 0, 0, [])), (5, (0, 8, 1000, 0, [])), (8, (13, 11, 15, 3, [])), (11, (0, 12, 1, 0, [])), (12, (14, 16, 0, 0, [])), (15, (0, 16, 0, 0, [])), (16, (30, 0, 0, 3, []))]
def xm_22 : xM := (yX12_isCrowns, cX12_isCrowns, 1, (some .boolean), 1, RX12, { frames := 2, cells := 0, slots := 0, locals := 70 }, xk_22)
def xk_23 : List (Nat × xOp) := [(0, (0, 1, 0, 0, [])), (1, (3, 2, 0, 2, [])), (2, (2, 3, 0, 2, [])), (3, (2, 4, 1, 0, [])), (4, (28, 7, 30, 12, [])), (7, (13, 10, 97, 3, [])), (97, (0, 98, 1, 0, [])), (98, (30, 0, 0, 3, []))]
def xm_23 : xM := (yX12_isGang, cX12_isGang, 5, (some .boolean), 1, RX12, { frames := 3, cells := 0, slots := 0, locals := 90 }, xk_23)
def xk_24 : List (Nat × xOp) := [(0, (2, 1, 1, 0, [])), (1, (2, 2, 0, 1, [])), (2, (28, 5, 26, 12, [])), (5, (12, 8, 26, 0, [])), (26, (0, 27, 0, 0, [])), (27, (30, 0, 0, 3, []))]
def xm_24 : xM := (yX12_isPart, cX12_isPart, 3, (some .boolean), 2, RX12, { frames := 3, cells := 0, slots := 0, locals := 91 }, xk_24)
def xk_25 : List (Nat × xOp) := [(0, (2, 1, 0, 1, [])), (1, (12, 4, 18, 2, [])), (4, (2, 5, 0, 1, [])), (5, (2, 6, 1, 0, [])), (6, (16, 9, 12, 3, [])), (9, (0, 10, 0, 0, [])), (10, (19, 11, 0, 0, [])), (11, (13, 14, 18, 3, [])), (18, (0, 19, 0, 0, [])), (19, (30, 0, 0, 3, []))]
def xm_25 : xM := (yX12_isTavern, cX12_isTavern, 2, (some .boolean), 1, RX12, { frames := 2, cells := 0, slots := 0, locals := 70 }, xk_25)
def xk_26 : List (Nat × xOp) := [(0, (2, 1, 0, 1, [])), (1, (12, 4, 18, 2, [])), (4, (2, 5, 0, 1, [])), (5, (2, 6, 1, 0, [])), (6, (16, 9, 12, 3, [])), (9, (0, 10, 2, 0, [])), (10, (19, 11, 0, 0, [])), (11, (13, 14, 18, 3, [])), (18, (0, 19, 0, 0, [])), (19, (30, 0, 0, 3, []))]
def xm_26 : xM := (yX12_isVerse, cX12_isVerse, 2, (some .boolean), 1, RX12, { frames := 2, cells := 0, slots := 0, locals := 70 }, xk_26)
def xk_27 : List (Nat × xOp) := [(0, (2, 1, 0, 1, [])), (1, (12, 4, 18, 2, [])), (4, (2, 5, 0, 1, [])), (5, (2, 6, 1, 0, [])), (6, (16, 9, 12, 3, [])), (9, (0, 10, 1, 0, [])), (10, (19, 11, 0, 0, [])), (11, (13, 14, 18, 3, [])), (18, (0, 19, 0, 0, [])), (19, (30, 0, 0, 3, []))]
def xm_27 : xM := (yX12_isVoice, cX12_isVoice, 2, (some .boolean), 1, RX12, { frames := 2, cells := 0, slots := 0, locals := 70 }, xk_27)
def xk_28 : List (Nat × xOp) := [(0, (2, 1, 1, 0, [])), (1, (0, 2, 0, 0, [])), (2, (17, 5, 12, 0, [(0, 0)])), (5, (2, 6, 1, 0, [])), (6, (0, 7, 1, 0, [])), (7, (0, 8, 0, 0, [])), (8, (28, 11, 9, 12, [])), (11, (2, 12, 1, 0, [])), (12, (0, 13, 1, 0, [])), (13, (17, 16, 12, 49, [(3, 0)])), (16, (2, 17, 1, 0, [])), (17, (16, 20, 12, 37, [])), (20, (0, 21, 0, 0, [])), (21, (19, 22, 0, 0, [])), (22, (30, 0, 0, 0, []))]
def xm_28 : xM := (yX12_keep, cX12_keep, 1, (some .int), 0, RX12, { frames := 3, cells := 0, slots := 0, locals := 93 }, xk_28)
def xk_29 : List (Nat × xOp) := [(0, (2, 1, 1, 0, [])), (1, (0, 2, 0, 0, [])), (2, (17, 5, 12, 0, [(0, 0)])), (5, (2, 6, 0, 1, [])), (6, (0, 7, 4294967295, 0, [])), (7, (13, 10, 18, 2, [])), (10, (2, 11, 0, 1, [])), (11, (2, 12, 1, 0, [])), (12, (16, 15, 12, 61, [])), (15, (13, 18, 20, 5, [])), (18, (0, 19, 0, 0, [])), (19, (30, 20, 0, 3, [])), (20, (2, 21, 1, 0, [])), (21, (2, 22, 0, 1, [])), (22, (17, 25, 12, 62, [(0, 0)])), (25, (0, 26, 1, 0, [])), (26, (30, 0, 0, 3, []))]
def xm_29 : xM := (yX12_known, cX12_known, 2, (some .boolean), 1, RX12, { frames := 2, cells := 0, slots := 0, locals := 70 }, xk_29)
def xk_30 : List (Nat × xOp) := [(0, (2, 1, 1, 0, [])), (1, (16, 4, 12, 62, [])), (4, (0, 5, 4294967295, 0, [])), (5, (13, 8, 15, 1, [])), (8, (2, 9, 1, 0, [])), (9, (16, 12, 12, 61, [])), (12, (14, 19, 0, 0, [])), (19, (30, 0, 0, 0, []))]
def xm_30 : xM := (yX12_knownMany, cX12_knownMany, 1, (some .int), 0, RX12, { frames := 2, cells := 0, slots := 0, locals := 70 }, xk_30)
def xk_31 : List (Nat × xOp) := [(0, (2, 1, 1, 0, [])), (1, (28, 4, 32, 12, [])), (4, (0, 5, 0, 0, [])), (5, (3, 6, 0, 2, [])), (6, (2, 7, 0, 2, [])), (7, (2, 8, 0, 1, [])), (8, (13, 11, 53, 4, [])), (11, (2, 12, 1, 0, [])), (12, (16, 15, 12, 53, [])), (15, (0, 18, 1000, 0, [])), (18, (2, 19, 1, 0, [])), (19, (16, 22, 12, 3, [])), (22, (0, 23, 2, 0, [])), (23, (19, 24, 0, 0, [])), (24, (5, 25, 2, 0, [])), (25, (2, 26, 0, 2, [])), (26, (5, 27, 0, 0, [])), (27, (0, 28, 0, 0, [])), (28, (21, 29, 0, 0, [])), (29, (2, 30, 1, 0, [])), (30, (16, 33, 12, 54, [])), (33, (0, 36, 1000, 0, [])), (36, (2, 37, 1, 0, [])), (37, (16, 40, 12, 3, [])), (40, (0, 41, 2, 0, [])), (41, (19, 42, 0, 0, [])), (42, (5, 43, 2, 0, [])), (43, (2, 44, 0, 2, [])), (44, (5, 45, 0, 0, [])), (45, (0, 46, 0, 0, [])), (46, (21, 47, 0, 0, [])), (47, (4, 50, 2, 1, [])), (50, (14, 6, 0, 0, [])), (53, (2, 54, 1, 0, [])), (54, (16, 57, 12, 3, [])), (57, (0, 58, 2, 0, [])), (58, (19, 59, 0, 0, [])), (59, (0, 60, 1, 0, [])), (60, (5, 61, 1, 0, [])), (61, (3, 62, 0, 2, [])), (62, (2, 63, 0, 2, [])), (63, (12, 66, 134, 2, [])), (134, (32, 0, 0, 0, []))]
def xm_31 : xM := (yX12_layBest, cX12_layBest, 4, none, 1, RX12, { frames := 5, cells := 0, slots := 0, locals := 135 }, xk_31)
def xk_32 : List (Nat × xOp) := [(0, (0, 1, 0, 0, [])), (1, (3, 2, 0, 1, [])), (2, (2, 3, 0, 1, [])), (3, (0, 5, 12, 0, [])), (5, (13, 8, 82, 3, [])), (8, (2, 9, 1, 0, [])), (9, (2, 10, 0, 1, [])), (10, (0, 11, 3, 0, [])), (11, (5, 12, 9, 0, [])), (12, (2, 13, 0, 1, [])), (13, (0, 14, 3, 0, [])), (14, (5, 15, 10, 0, [])), (15, (28, 18, 24, 12, [])), (18, (12, 21, 24, 1, [])), (21, (14, 76, 0, 0, [])), (76, (4, 79, 1, 1, [])), (79, (14, 2, 0, 0, [])), (82, (32, 0, 0, 0, []))]
def xm_32 : xM := (yX12_layDues, cX12_layDues, 3, none, 0, RX12, { frames := 4, cells := 0, slots := 0, locals := 113 }, xk_32)
def xk_33 : List (Nat × xOp) := [(0, (2, 1, 1, 0, [])), (1, (0, 2, 0, 0, [])), (2, (17, 5, 12, 0, [(0, 0)])), (5, (2, 6, 0, 1, [])), (6, (15, 0, 100, 0, [(0, 36), (1, 52), (2, 68), (3, 84)])), (36, (2, 37, 1, 0, [])), (37, (16, 40, 12, 4, [])), (40, (0, 41, 0, 0, [])), (41, (2, 42, 1, 0, [])), (42, (16, 45, 12, 3, [])), (45, (0, 46, 0, 0, [])), (46, (19, 47, 0, 0, [])), (47, (2, 48, 0, 2, [])), (48, (27, 51, 17, 0, [])), (51, (30, 52, 0, 0, [])), (52, (2, 53, 1, 0, [])), (53, (16, 56, 12, 7, [])), (56, (0, 57, 0, 0, [])), (57, (2, 58, 1, 0, [])), (58, (16, 61, 12, 3, [])), (61, (0, 62, 1, 0, [])), (62, (19, 63, 0, 0, [])), (63, (2, 64, 0, 2, [])), (64, (27, 67, 17, 0, [])), (67, (30, 68, 0, 0, [])), (68, (2, 69, 1, 0, [])), (69, (16, 72, 12, 14, [])), (72, (0, 73, 0, 0, [])), (73, (2, 74, 1, 0, [])), (74, (16, 77, 12, 3, [])), (77, (0, 78, 2, 0, [])), (78, (19, 79, 0, 0, [])), (79, (2, 80, 0, 2, [])), (80, (27, 83, 17, 0, [])), (83, (30, 84, 0, 0, [])), (84, (2, 85, 1, 0, [])), (85, (16, 88, 12, 18, [])), (88, (0, 89, 0, 0, [])), (89, (2, 90, 1, 0, [])), (90, (16, 93, 12, 3, [])), (93, (0, 94, 3, 0, [])), (94, (19, 95, 0, 0, [])), (95, (2, 96, 0, 2, [])), (96, (27, 99, 17, 0, [])), (99, (30, 100, 0, 0, [])), (100, (0, 101, 4294967295, 0, [])), (101, (30, 0, 0, 0, []))]
def xm_33 : xM := (yX12_named, cX12_named, 3, (some .int), 2, RX12, { frames := 3, cells := 0, slots := 0, locals := 94 }, xk_33)
def xk_34 : List (Nat × xOp) := [(0, (2, 1, 1, 0, [])), (1, (0, 2, 0, 0, [])), (2, (17, 5, 12, 0, [(0, 0)])), (5, (2, 6, 1, 0, [])), (6, (2, 7, 0, 1, [])), (7, (28, 10, 27, 12, [])), (10, (12, 13, 22, 0, [])), (22, (0, 23, 4294967295, 0, [])), (23, (30, 24, 0, 0, []))]
def xm_34 : xM := (yX12_odds, cX12_odds, 6, (some .int), 2, RX12, { frames := 3, cells := 0, slots := 0, locals := 91 }, xk_34)
def xk_35 : List (Nat × xOp) := [(0, (2, 1, 1, 0, [])), (1, (0, 2, 0, 0, [])), (2, (17, 5, 12, 0, [(0, 0)])), (5, (2, 6, 1, 0, [])), (6, (2, 7, 0, 1, [])), (7, (28, 10, 25, 12, [])), (10, (12, 13, 15, 1, [])), (13, (0, 14, 4294967295, 0, [])), (14, (30, 15, 0, 0, []))]
def xm_35 : xM := (yX12_pay, cX12_pay, 5, (some .int), 1, RX12, { frames := 3, cells := 0, slots := 0, locals := 91 }, xk_35)
def xk_36 : List (Nat × xOp) := [(0, (2, 1, 1, 0, [])), (1, (0, 2, 0, 0, [])), (2, (17, 5, 12, 0, [(0, 0)])), (5, (2, 6, 1, 0, [])), (6, (2, 7, 0, 1, [])), (7, (2, 8, 0, 2, [])), (8, (28, 11, 24, 12, [])), (11, (12, 14, 50, 0, [])), (50, (0, 51, 4294967295, 0, [])), (51, (30, 0, 0, 0, []))]
def xm_36 : xM := (yX12_pitch, cX12_pitch, 4, (some .int), 3, RX12, { frames := 4, cells := 0, slots := 0, locals := 113 }, xk_36)
def xk_37 : List (Nat × xOp) := [(0, (2, 1, 1, 0, [])), (1, (16, 4, 12, 3, [])), (4, (0, 6, 7, 0, [])), (6, (2, 7, 0, 1, [])), (7, (5, 8, 0, 0, [])), (8, (2, 9, 0, 2, [])), (9, (21, 10, 0, 0, [])), (10, (32, 0, 0, 0, []))]
def xm_37 : xM := (yX12_reads, cX12_reads, 3, none, 2, RX12, { frames := 2, cells := 0, slots := 0, locals := 70 }, xk_37)
def xk_38 : List (Nat × xOp) := [(0, (2, 1, 1, 0, [])), (1, (0, 2, 0, 0, [])), (2, (17, 5, 12, 0, [(0, 0)])), (5, (2, 6, 1, 0, [])), (6, (2, 7, 0, 1, [])), (7, (2, 8, 0, 2, [])), (8, (28, 11, 24, 12, [])), (11, (12, 14, 53, 0, [])), (53, (0, 54, 4294967295, 0, [])), (54, (30, 55, 0, 0, []))]
def xm_38 : xM := (yX12_redeem, cX12_redeem, 6, (some .int), 3, RX12, { frames := 4, cells := 0, slots := 0, locals := 113 }, xk_38)
def xk_39 : List (Nat × xOp) := [(0, (2, 1, 1, 0, [])), (1, (0, 2, 0, 0, [])), (2, (17, 5, 12, 0, [(0, 0)])), (5, (2, 6, 1, 0, [])), (6, (2, 7, 0, 1, [])), (7, (2, 8, 0, 2, [])), (8, (28, 11, 24, 12, [])), (11, (12, 14, 23, 0, [])), (23, (0, 24, 4294967295, 0, [])), (24, (30, 25, 0, 0, []))]
def xm_39 : xM := (yX12_round, cX12_round, 5, (some .int), 4, RX12, { frames := 4, cells := 0, slots := 0, locals := 113 }, xk_39)
def xk_40 : List (Nat × xOp) := [(0, (2, 1, 1, 0, [])), (1, (0, 2, 0, 0, [])), (2, (17, 5, 12, 0, [(0, 0)])), (5, (2, 6, 1, 0, [])), (6, (2, 7, 0, 1, [])), (7, (28, 10, 25, 12, [])), (10, (12, 13, 36, 0, [])), (36, (0, 37, 4294967295, 0, [])), (37, (30, 38, 0, 0, []))]
def xm_40 : xM := (yX12_run, cX12_run, 3, (some .int), 2, RX12, { frames := 3, cells := 0, slots := 0, locals := 91 }, xk_40)
def xk_41 : List (Nat × xOp) := [(0, (0, 1, 0, 0, [])), (1, (3, 2, 0, 3, [])), (2, (0, 3, 0, 0, [])), (3, (3, 5, 0, 4, [])), (5, (2, 7, 0, 4, [])), (7, (2, 8, 1, 0, [])), (8, (16, 11, 12, 3, [])), (11, (0, 12, 3, 0, [])), (12, (19, 13, 0, 0, [])), (13, (13, 16, 36, 3, [])), (36, (0, 37, 0, 0, [])), (37, (3, 39, 0, 4, [])), (39, (2, 41, 0, 4, [])), (41, (2, 42, 0, 2, [])), (42, (13, 45, 188, 4, [])), (188, (2, 189, 0, 3, [])), (189, (30, 0, 0, 0, []))]
def xm_41 : xM := (yX12_sells, cX12_sells, 8, (some .int), 2, RX12, { frames := 2, cells := 0, slots := 0, locals := 70 }, xk_41)
def xk_42 : List (Nat × xOp) := [(0, (2, 1, 1, 0, [])), (1, (0, 2, 0, 0, [])), (2, (17, 5, 12, 0, [(0, 0)])), (5, (2, 6, 1, 0, [])), (6, (2, 7, 0, 1, [])), (7, (2, 8, 0, 2, [])), (8, (28, 11, 24, 12, [])), (11, (12, 14, 16, 1, [])), (14, (0, 15, 4294967295, 0, [])), (15, (30, 16, 0, 0, []))]
def xm_42 : xM := (yX12_sings, cX12_sings, 4, (some .int), 2, RX12, { frames := 4, cells := 0, slots := 0, locals := 113 }, xk_42)
def xk_43 : List (Nat × xOp) := [(0, (2, 1, 1, 0, [])), (1, (0, 2, 0, 0, [])), (2, (17, 5, 12, 0, [(0, 0)])), (5, (2, 6, 1, 0, [])), (6, (2, 7, 0, 1, [])), (7, (28, 10, 1, 12, [])), (10, (12, 13, 38, 0, [])), (13, (2, 14, 1, 0, [])), (14, (2, 15, 0, 2, [])), (15, (28, 18, 26, 12, [])), (18, (12, 21, 38, 0, [])), (38, (0, 39, 4294967295, 0, [])), (39, (30, 40, 0, 0, []))]
def xm_43 : xM := (yX12_sold, cX12_sold, 4, (some .int), 3, RX12, { frames := 3, cells := 0, slots := 0, locals := 91 }, xk_43)
def xk_44 : List (Nat × xOp) := [(0, (2, 1, 1, 0, [])), (1, (0, 2, 0, 0, [])), (2, (17, 5, 12, 0, [(0, 0)])), (5, (2, 6, 1, 0, [])), (6, (2, 7, 0, 1, [])), (7, (2, 8, 0, 2, [])), (8, (28, 11, 24, 12, [])), (11, (12, 14, 35, 0, [])), (35, (0, 36, 4294967295, 0, [])), (36, (30, 0, 0, 0, []))]
def xm_44 : xM := (yX12_sounds, cX12_sounds, 4, (some .int), 3, RX12, { frames := 4, cells := 0, slots := 0, locals := 113 }, xk_44)
def xk_45 : List (Nat × xOp) := [(0, (2, 1, 1, 0, [])), (1, (0, 2, 0, 0, [])), (2, (17, 5, 12, 0, [(0, 0)])), (5, (2, 6, 0, 1, [])), (6, (12, 9, 26, 2, [])), (9, (2, 10, 0, 1, [])), (10, (2, 11, 1, 0, [])), (11, (16, 14, 12, 61, [])), (14, (13, 17, 26, 3, [])), (26, (0, 27, 4294967295, 0, [])), (27, (30, 28, 0, 0, []))]
def xm_45 : xM := (yX12_strike, cX12_strike, 2, (some .int), 1, RX12, { frames := 2, cells := 0, slots := 0, locals := 70 }, xk_45)
def xk_46 : List (Nat × xOp) := [(0, (0, 1, 0, 0, [])), (1, (3, 2, 0, 1, [])), (2, (2, 3, 0, 1, [])), (3, (2, 4, 1, 0, [])), (4, (28, 7, 30, 12, [])), (7, (13, 10, 23, 3, [])), (23, (2, 24, 1, 0, [])), (24, (28, 27, 30, 12, [])), (27, (0, 28, 1, 0, [])), (28, (5, 29, 1, 0, [])), (29, (3, 30, 0, 1, [])), (30, (2, 31, 0, 1, [])), (31, (12, 34, 71, 2, [])), (71, (32, 0, 0, 0, []))]
def xm_46 : xM := (yX12_strikes, cX12_strikes, 2, none, 0, RX12, { frames := 3, cells := 0, slots := 0, locals := 90 }, xk_46)
def xk_47 : List (Nat × xOp) := [(0, (2, 1, 1, 0, [])), (1, (0, 2, 0, 0, [])), (2, (17, 5, 12, 0, [(0, 0)])), (5, (0, 6, 0, 0, [])), (6, (3, 7, 0, 1, [])), (7, (0, 8, 0, 0, [])), (8, (3, 9, 0, 2, [])), (9, (2, 10, 0, 2, [])), (10, (0, 12, 12, 0, [])), (12, (13, 15, 76, 3, [])), (15, (2, 16, 1, 0, [])), (16, (16, 19, 12, 45, [])), (19, (2, 20, 0, 2, [])), (20, (19, 21, 0, 0, [])), (21, (3, 22, 0, 3, [])), (22, (2, 23, 1, 0, [])), (23, (16, 26, 12, 45, [])), (26, (2, 27, 0, 2, [])), (27, (0, 28, 4294967295, 0, [])), (28, (21, 29, 0, 0, [])), (29, (2, 30, 0, 3, [])), (30, (0, 31, 4294967295, 0, [])), (31, (13, 34, 37, 1, [])), (34, (14, 70, 0, 0, [])), (70, (4, 73, 2, 1, [])), (73, (14, 9, 0, 0, [])), (76, (2, 77, 1, 0, [])), (77, (16, 80, 12, 46, [])), (80, (0, 81, 0, 0, [])), (81, (0, 82, 0, 0, [])), (82, (21, 83, 0, 0, [])), (83, (2, 84, 1, 0, [])), (84, (16, 87, 12, 41, [])), (87, (0, 88, 0, 0, [])), (88, (19, 89, 0, 0, [])), (89, (3, 90, 0, 2, [])), (90, (0, 91, 0, 0, [])), (91, (3, 92, 0, 3, [])), (92, (2, 93, 0, 3, [])), (93, (2, 94, 1, 0, [])), (94, (16, 97, 12, 3, [])), (97, (0, 98, 1, 0, [])), (98, (19, 99, 0, 0, [])), (99, (13, 102, 144, 3, [])), (144, (2, 145, 1, 0, [])), (145, (16, 148, 12, 41, [])), (148, (0, 149, 0, 0, [])), (149, (2, 150, 0, 2, [])), (150, (21, 151, 0, 0, [])), (151, (2, 152, 1, 0, [])), (152, (16, 155, 12, 37, [])), (155, (0, 156, 0, 0, [])), (156, (11, 157, 0, 0, [])), (157, (19, 158, 0, 0, [])), (158, (0, 159, 1, 0, [])), (159, (5, 160, 0, 0, [])), (160, (21, 161, 0, 0, [])), (161, (2, 162, 0, 1, [])), (162, (30, 0, 0, 0, []))]
def xm_47 : xM := (yX12_sunday, cX12_sunday, 4, (some .int), 0, RX12, { frames := 2, cells := 0, slots := 0, locals := 70 }, xk_47)
def xk_48 : List (Nat × xOp) := [(0, (2, 1, 1, 0, [])), (1, (0, 2, 0, 0, [])), (2, (17, 5, 12, 0, [(0, 0)])), (5, (2, 6, 1, 0, [])), (6, (2, 7, 0, 1, [])), (7, (28, 10, 25, 12, [])), (10, (12, 13, 15, 1, [])), (13, (0, 14, 4294967295, 0, [])), (14, (30, 15, 0, 0, []))]
def xm_48 : xM := (yX12_tavern, cX12_tavern, 5, (some .int), 2, RX12, { frames := 3, cells := 0, slots := 0, locals := 91 }, xk_48)
def xk_49 : List (Nat × xOp) := [(0, (2, 1, 1, 0, [])), (1, (0, 2, 0, 0, [])), (2, (17, 5, 12, 0, [(0, 0)])), (5, (2, 6, 0, 1, [])), (6, (12, 9, 17, 2, [])), (9, (2, 10, 0, 1, [])), (10, (2, 11, 1, 0, [])), (11, (16, 14, 12, 2, [])), (14, (13, 17, 20, 5, [])), (17, (0, 19, 4294967294, 0, [])), (19, (30, 20, 0, 0, [])), (20, (2, 21, 1, 0, [])), (21, (2, 22, 0, 1, [])), (22, (17, 25, 12, 26, [(0, 0)])), (25, (2, 26, 1, 0, [])), (26, (0, 27, 0, 0, [])), (27, (17, 30, 12, 2, [(0, 0)])), (30, (2, 31, 1, 0, [])), (31, (0, 32, 0, 0, [])), (32, (17, 35, 12, 27, [(0, 0)])), (35, (2, 36, 1, 0, [])), (36, (0, 37, 0, 0, [])), (37, (17, 40, 12, 31, [(0, 0)])), (40, (2, 41, 1, 0, [])), (41, (0, 42, 4294967295, 0, [])), (42, (17, 45, 12, 32, [(0, 0)])), (45, (0, 46, 0, 0, [])), (46, (3, 47, 0, 2, [])), (47, (2, 48, 0, 2, [])), (48, (0, 50, 7, 0, [])), (50, (13, 53, 65, 3, [])), (53, (2, 54, 1, 0, [])), (54, (2, 55, 0, 2, [])), (55, (0, 56, 0, 0, [])), (56, (28, 59, 37, 12, [])), (59, (4, 62, 2, 1, [])), (62, (14, 47, 0, 0, [])), (65, (0, 66, 5, 0, [])), (66, (3, 67, 0, 2, [])), (67, (2, 68, 0, 2, [])), (68, (0, 70, 10, 0, [])), (70, (13, 73, 93, 3, [])), (73, (2, 74, 1, 0, [])), (74, (16, 77, 12, 20, [])), (77, (2, 78, 0, 2, [])), (78, (0, 79, 0, 0, [])), (79, (21, 80, 0, 0, [])), (80, (2, 81, 1, 0, [])), (81, (16, 84, 12, 21, [])), (84, (2, 85, 0, 2, [])), (85, (0, 86, 0, 0, [])), (86, (21, 87, 0, 0, [])), (87, (4, 90, 2, 1, [])), (90, (14, 67, 0, 0, [])), (93, (2, 94, 1, 0, [])), (94, (0, 95, 0, 0, [])), (95, (17, 98, 12, 24, [(0, 0)])), (98, (2, 99, 1, 0, [])), (99, (0, 100, 0, 0, [])), (100, (17, 103, 12, 25, [(0, 0)])), (103, (2, 104, 1, 0, [])), (104, (0, 105, 0, 0, [])), (105, (17, 108, 12, 35, [(0, 0)])), (108, (2, 109, 1, 0, [])), (109, (0, 110, 0, 0, [])), (110, (17, 113, 12, 36, [(0, 0)])), (113, (2, 114, 1, 0, [])), (114, (28, 117, 52, 12, [])), (117, (2, 118, 1, 0, [])), (118, (16, 121, 12, 31, [])), (121, (12, 124, 139, 1, [])), (124, (2, 125, 1, 0, [])), (125, (16, 128, 12, 29, [])), (128, (0, 129, 4, 0, [])), (129, (13, 132, 139, 0, [])), (139, (2, 140, 1, 0, [])), (140, (2, 141, 1, 0, [])), (141, (16, 144, 12, 31, [])), (144, (17, 147, 12, 33, [(0, 0)])), (147, (2, 148, 1, 0, [])), (148, (2, 149, 1, 0, [])), (149, (16, 152, 12, 32, [])), (152, (17, 155, 12, 34, [(0, 0)])), (155, (2, 156, 1, 0, [])), (156, (16, 159, 12, 31, [])), (159, (12, 162, 164, 0, [])), (164, (2, 165, 1, 0, [])), (165, (16, 168, 12, 3, [])), (168, (27, 171, 19, 0, [])), (171, (2, 172, 1, 0, [])), (172, (16, 175, 12, 4, [])), (175, (27, 178, 19, 0, [])), (178, (2, 179, 1, 0, [])), (179, (16, 182, 12, 5, [])), (182, (27, 185, 19, 0, [])), (185, (2, 186, 1, 0, [])), (186, (16, 189, 12, 6, [])), (189, (27, 192, 19, 0, [])), (192, (2, 193, 1, 0, [])), (193, (16, 196, 12, 7, [])), (196, (27, 199, 19, 0, [])), (199, (2, 200, 1, 0, [])), (200, (16, 203, 12, 8, [])), (203, (27, 206, 19, 0, [])), (206, (2, 207, 1, 0, [])), (207, (16, 210, 12, 9, [])), (210, (27, 213, 19, 0, [])), (213, (0, 214, 0, 0, [])), (214, (3, 215, 0, 2, [])), (215, (2, 216, 0, 2, [])), (216, (0, 218, 6, 0, [])), (218, (13, 221, 242, 3, [])), (221, (2, 222, 1, 0, [])), (222, (16, 225, 12, 10, [])), (225, (2, 226, 0, 2, [])), (226, (2, 227, 1, 0, [])), (227, (16, 230, 12, 10, [])), (230, (0, 232, 6, 0, [])), (232, (2, 233, 0, 2, [])), (233, (5, 234, 0, 0, [])), (234, (19, 235, 3, 0, [])), (235, (21, 236, 3, 0, [])), (236, (4, 239, 2, 1, [])), (239, (14, 215, 0, 0, [])), (242, (2, 243, 1, 0, [])), (243, (16, 246, 12, 11, [])), (246, (27, 249, 19, 0, [])), (249, (2, 250, 1, 0, [])), (250, (16, 253, 12, 12, [])), (253, (27, 256, 19, 0, [])), (256, (2, 257, 1, 0, [])), (257, (16, 260, 12, 13, [])), (260, (27, 263, 19, 0, [])), (263, (2, 264, 1, 0, [])), (264, (16, 267, 12, 14, [])), (267, (27, 270, 19, 0, [])), (270, (2, 271, 1, 0, [])), (271, (16, 274, 12, 15, [])), (274, (27, 277, 19, 0, [])), (277, (2, 278, 1, 0, [])), (278, (16, 281, 12, 16, [])), (281, (27, 284, 19, 0, [])), (284, (2, 285, 1, 0, [])), (285, (16, 288, 12, 17, [])), (288, (27, 291, 19, 0, [])), (291, (2, 292, 1, 0, [])), (292, (16, 295, 12, 18, [])), (295, (27, 298, 19, 0, [])), (298, (2, 299, 1, 0, [])), (299, (16, 302, 12, 19, [])), (302, (27, 305, 19, 0, [])), (305, (2, 306, 1, 0, [])), (306, (16, 309, 12, 20, [])), (309, (27, 312, 19, 0, [])), (312, (2, 313, 1, 0, [])), (313, (16, 316, 12, 21, [])), (316, (27, 319, 19, 0, [])), (319, (2, 320, 1, 0, [])), (320, (16, 323, 12, 22, [])), (323, (27, 326, 19, 0, [])), (326, (2, 327, 1, 0, [])), (327, (16, 330, 12, 23, [])), (330, (27, 333, 19, 0, [])), (333, (2, 334, 1, 0, [])), (334, (0, 335, 0, 0, [])), (335, (17, 338, 12, 61, [(0, 0)])), (338, (2, 339, 1, 0, [])), (339, (0, 340, 4294967295, 0, [])), (340, (17, 343, 12, 62, [(0, 0)])), (343, (2, 344, 1, 0, [])), (344, (0, 345, 0, 0, [])), (345, (17, 348, 12, 49, [(3, 0)])), (348, (2, 349, 1, 0, [])), (349, (28, 352, 4, 12, [])), (352, (2, 353, 1, 0, [])), (353, (16, 356, 12, 25, [])), (356, (30, 0, 0, 0, []))]
def xm_49 : xM := (yX12_text, cX12_text, 3, (some .int), 1, RX12, { frames := 4, cells := 0, slots := 0, locals := 111 }, xk_49)
def xk_50 : List (Nat × xOp) := [(0, (2, 1, 1, 0, [])), (1, (0, 2, 0, 0, [])), (2, (17, 5, 12, 0, [(0, 0)])), (5, (2, 6, 1, 0, [])), (6, (28, 9, 46, 12, [])), (9, (0, 10, 0, 0, [])), (10, (3, 11, 0, 1, [])), (11, (0, 12, 0, 0, [])), (12, (3, 13, 0, 2, [])), (13, (2, 14, 0, 2, [])), (14, (2, 15, 1, 0, [])), (15, (16, 18, 12, 3, [])), (18, (0, 19, 1, 0, [])), (19, (19, 20, 0, 0, [])), (20, (13, 23, 47, 3, [])), (47, (2, 48, 0, 1, [])), (48, (30, 0, 0, 0, []))]
def xm_50 : xM := (yX12_thieves, cX12_thieves, 3, (some .int), 0, RX12, { frames := 4, cells := 0, slots := 0, locals := 111 }, xk_50)
def xk_51 : List (Nat × xOp) := [(0, (2, 1, 1, 0, [])), (1, (16, 4, 12, 0, [])), (4, (30, 0, 0, 0, []))]
def xm_51 : xM := (yX12_thrown, cX12_thrown, 1, (some .int), 0, RX12, { frames := 2, cells := 0, slots := 0, locals := 70 }, xk_51)
def xk_52 : List (Nat × xOp) := [(0, (2, 1, 1, 0, [])), (1, (28, 4, 20, 12, [])), (4, (0, 6, 10, 0, [])), (6, (13, 9, 18, 0, [])), (9, (2, 10, 1, 0, [])), (10, (28, 13, 20, 12, [])), (13, (0, 15, 32, 0, [])), (15, (13, 18, 31, 1, [])), (31, (2, 32, 1, 0, [])), (32, (2, 33, 1, 0, [])), (33, (16, 36, 12, 27, [])), (36, (17, 39, 12, 28, [(0, 0)])), (39, (2, 40, 1, 0, [])), (40, (28, 43, 20, 12, [])), (43, (3, 44, 0, 1, [])), (44, (2, 45, 0, 1, [])), (45, (0, 46, 4294967295, 0, [])), (46, (13, 49, 57, 1, [])), (49, (2, 50, 1, 0, [])), (50, (0, 51, 4, 0, [])), (51, (17, 54, 12, 29, [(0, 0)])), (54, (14, 225, 0, 0, [])), (225, (32, 0, 0, 0, []))]
def xm_52 : xM := (yX12_token, cX12_token, 2, none, 0, RX12, { frames := 3, cells := 0, slots := 0, locals := 90 }, xk_52)
def xk_53 : List (Nat × xOp) := [(0, (2, 1, 1, 0, [])), (1, (0, 2, 0, 0, [])), (2, (17, 5, 12, 0, [(0, 0)])), (5, (2, 6, 1, 0, [])), (6, (16, 9, 12, 46, [])), (9, (0, 10, 0, 0, [])), (10, (19, 11, 0, 0, [])), (11, (12, 14, 16, 1, [])), (14, (0, 15, 4294967295, 0, [])), (15, (30, 16, 0, 0, []))]
def xm_53 : xM := (yX12_undo, cX12_undo, 3, (some .int), 0, RX12, { frames := 2, cells := 0, slots := 0, locals := 70 }, xk_53)
def xk_54 : List (Nat × xOp) := [(0, (2, 1, 1, 0, [])), (1, (0, 2, 0, 0, [])), (2, (17, 5, 12, 0, [(0, 0)])), (5, (2, 6, 1, 0, [])), (6, (2, 7, 0, 1, [])), (7, (28, 10, 26, 12, [])), (10, (12, 13, 15, 1, [])), (13, (0, 14, 4294967295, 0, [])), (14, (30, 15, 0, 0, []))]
def xm_54 : xM := (yX12_verse, cX12_verse, 3, (some .int), 2, RX12, { frames := 3, cells := 0, slots := 0, locals := 91 }, xk_54)
def xk_55 : List (Nat × xOp) := [(0, (2, 1, 1, 0, [])), (1, (0, 2, 0, 0, [])), (2, (17, 5, 12, 0, [(0, 0)])), (5, (2, 6, 1, 0, [])), (6, (2, 7, 0, 1, [])), (7, (28, 10, 27, 12, [])), (10, (12, 13, 32, 0, [])), (32, (1, 35, 18446744073709551615, 0, [])), (35, (31, 36, 0, 0, []))]
def xm_55 : xM := (yX12_whole, cX12_whole, 10, (some .long), 3, RX12, { frames := 3, cells := 0, slots := 0, locals := 91 }, xk_55)
def xk_56 : List (Nat × xOp) := [(0, (2, 1, 0, 0, [])), (1, (2, 2, 0, 0, [])), (2, (0, 3, 1, 0, [])), (3, (5, 4, 8, 0, [])), (4, (0, 7, 1431655765, 0, [])), (7, (5, 8, 3, 0, [])), (8, (5, 9, 1, 0, [])), (9, (3, 10, 0, 0, [])), (10, (2, 11, 0, 0, [])), (11, (0, 14, 858993459, 0, [])), (14, (5, 15, 3, 0, [])), (15, (2, 16, 0, 0, [])), (16, (0, 17, 2, 0, [])), (17, (5, 18, 8, 0, [])), (18, (0, 21, 858993459, 0, [])), (21, (5, 22, 3, 0, [])), (22, (5, 23, 0, 0, [])), (23, (3, 24, 0, 0, [])), (24, (2, 25, 0, 0, [])), (25, (2, 26, 0, 0, [])), (26, (0, 27, 4, 0, [])), (27, (5, 28, 8, 0, [])), (28, (5, 29, 0, 0, [])), (29, (0, 32, 252645135, 0, [])), (32, (5, 33, 3, 0, [])), (33, (3, 34, 0, 0, [])), (34, (2, 35, 0, 0, [])), (35, (2, 36, 0, 0, [])), (36, (0, 38, 8, 0, [])), (38, (5, 39, 8, 0, [])), (39, (5, 40, 0, 0, [])), (40, (3, 41, 0, 0, [])), (41, (2, 42, 0, 0, [])), (42, (2, 43, 0, 0, [])), (43, (0, 45, 16, 0, [])), (45, (5, 46, 8, 0, [])), (46, (5, 47, 0, 0, [])), (47, (3, 48, 0, 0, [])), (48, (2, 49, 0, 0, [])), (49, (0, 51, 63, 0, [])), (51, (5, 52, 3, 0, [])), (52, (30, 0, 0, 0, []))]
def xm_56 : xM := (yJ6_bitCount_0f7a4, cJ6_bitCount_0f7a4, 1, (some .int), 1, RJ6, { frames := 2, cells := 0, slots := 0, locals := 70 }, xk_56)
def xk_57 : List (Nat × xOp) := [(0, (2, 1, 0, 0, [])), (1, (2, 2, 0, 1, [])), (2, (13, 5, 9, 4, [])), (5, (2, 6, 0, 0, [])), (6, (14, 10, 0, 0, [])), (10, (30, 0, 0, 0, []))]
def xm_57 : xM := (yJ9_min_7cf53, cJ9_min_7cf53, 2, (some .int), 2, RJ9, { frames := 2, cells := 0, slots := 0, locals := 70 }, xk_57)
def xmt : List xM := [xm_0, xm_1, xm_2, xm_3, xm_4, xm_5, xm_6, xm_7, xm_8, xm_9, xm_10, xm_11, xm_12, xm_13, xm_14, xm_15, xm_16, xm_17, xm_18, xm_19, xm_20, xm_21, xm_22, xm_23, xm_24, xm_25, xm_26, xm_27, xm_28, xm_29, xm_30, xm_31, xm_32, xm_33, xm_34, xm_35, xm_36, xm_37, xm_38, xm_39, xm_40, xm_41, xm_42, xm_43, xm_44, xm_45, xm_46, xm_47, xm_48, xm_49, xm_50, xm_51, xm_52, xm_53, xm_54, xm_55, xm_56, xm_57]
end
section
theorem xcns {α : Type} {a : α} {l : List α} {Q : α → Prop} (h : Q a) (t : ∀ q ∈ l, Q q) : ∀ q ∈ a :: l, Q q := List.forall_mem_cons.mpr ⟨h, t⟩
theorem xnl {α : Type} {Q : α → Prop} : ∀ q ∈ ([] : List α), Q q := fun _ h => absurd h List.not_mem_nil
theorem xo_0 : ∀ q ∈ xk_0, xok xmt xm_0 q.1 q.2 := by
  refine xcns ?_ <| xcns ?_ <| xcns ?_ <| xcns ?_ <| xcns ?_ <| xcns ?_ <| xcns ?_ <| xcns ?_ <| xcns ?_ <| xcns ?_ <| xcns ?_ <| xcns ?_ <| xcns ?_ <| xcns ?_ <| xcns ?_ <| xcns ?_ <| xcns ?_ <| xcns ?_ <| xcns ?_ <| xcns ?_ <| xcns ?_ <| xcns ?_ <| xcns ?_ <| xcns ?_ <| xcns ?_ <| xcns ?_ <| xcns ?_ <| xcns ?_ <| xcns ?_ <| xcns ?_ <| xcns ?_ <| xcns ?_ <| xcns ?_ <| xcns ?_ <| xcns ?_ <| xcns ?_ <| xcns ?_ <| xcns ?_ <| xcns ?_ <| xcns ?_ <| xcns ?_ <| xcns ?_ <| xcns ?_ <| xcns ?_ <| xcns ?_ <| xcns ?_ <| xcns ?_ <| xcns ?_ <| xcns ?_ <| xcns ?_ <| xcns ?_ <| xcns ?_ <| xcns ?_ <| xcns ?_ <| xcns ?_ <| xcns ?_ <| xcns ?_ <| xcns ?_ <| xcns ?_ <| xcns ?_ <| xcns ?_ <| xcns ?_ <| xcns ?_ <| xcns ?_ <| xcns ?_ <| xcns ?_ <| xcns ?_ <| xcns ?_ <| xcns ?_ <| xcns ?_ <| xcns ?_ <| xcns ?_ <| xcns ?_ <| xcns ?_ <| xcns ?_ <| xcns ?_ <| xcns ?_ <| xcns ?_ <| xcns ?_ <| xcns ?_ <| xcns ?_ <| xcns ?_ <| xcns ?_ <| xcns ?_ <| xcns ?_ <| xcns ?_ <| xcns ?_ <| xcns ?_ <| xcns ?_ <| xcns ?_ <| xcns ?_ <| xcns ?_ <| xcns ?_ <| xcns ?_ <| xcns ?_ <| xcns ?_ <| xcns ?_ <| xcns ?_ <| xcns ?_ <| xcns ?_ <| xcns ?_ <| xcns ?_ <| xcns ?_ <| xcns ?_ <| xcns ?_ <| xcns ?_ <| xcns ?_ <| xcns ?_ <| xcns ?_ <| xcns ?_ <| xcns ?_ <| xcns ?_ <| xcns ?_ <| xcns ?_ <| xcns ?_ <| xcns ?_ <| xcns ?_ <| xcns ?_ <| xcns ?_ <| xcns ?_ <| xcns ?_ <| xcns ?_ <| xcns ?_ <| xcns ?_ <| xcns ?_ <| xcns ?_ <| xcns ?_ <| xcns ?_ <| xcns ?_ <| xcns ?_ <| xcns ?_ <| xcns ?_ <| xcns ?_ <| xcns ?_ <| xcns ?_ <| xcns ?_ <| xcns ?_ <| xcns ?_ <| xcns ?_ <| xcns ?_ <| xcns ?_ <| xcns ?_ <| xcns ?_ <| xcns ?_ <| xcns ?_ <| xcns ?_ <| xcns ?_ <| xcns ?_ <| xcns ?_ <| xcns ?_ <| xcns ?_ <| xcns ?_ <| xcns ?_ <| xcns ?_ <| xcns ?_ <| xcns ?_ <| xcns ?_ <| xcns ?_ <| xcns ?_ <| xcns ?_ <| xcns ?_ <| xcns ?_ <| xcns ?_ <| xcns ?_ <| xcns ?_ <| xcns ?_ <| xcns ?_ <| xcns ?_ <| xcns ?_ <| xcns ?_ <| xcns ?_ <| xcns ?_ <| xcns ?_ <| xcns ?_ <| xcns ?_ <| xcns ?_ <| xcns ?_ <| xcns ?_ <| xcns ?_ <| xcns ?_ <| xcns ?_ <| xcns ?_ <| xcns ?_ <| xcns ?_ <| xcns ?_ <| xcns ?_ <| xcns ?_ <| xcns ?_ <| xcns ?_ <| xcns ?_ <| xcns ?_ <| xcns ?_ <| xcns ?_ <| xcns ?_ <| xcns ?_ <| xcns ?_ <| xcns ?_ <| xcns ?_ <| xcns ?_ <| xcns ?_ <| xcns ?_ <| xcns ?_ <| xcns ?_ <| xcns ?_ <| xcns ?_ <| xcns ?_ <| xcns ?_ <| xcns ?_ <| xcns ?_ <| xcns ?_ <| xcns ?_ <| xcns ?_ <| xcns ?_ <| xcns ?_ <| xcns ?_ <| xcns ?_ <| xcns ?_ <| xcns ?_ <| xcns ?_ <| xcns ?_ <| xcns ?_ <| xcns ?_ <| xcns ?_ <| xcns ?_ <| xcns ?_ <| xcns ?_ <| xcns ?_ <| xcns ?_ <| xcns ?_ <| xcns ?_ <| xcns ?_ <| xcns ?_ <| xcns ?_ <| xcns ?_ <| xcns ?_ <| xcns ?_ <| xcns ?_ <| xcns ?_ <| xcns ?_ <| xcns ?_ <| xcns ?_ <| xcns ?_ <| xcns ?_ <| xcns ?_ <| xcns ?_ <| xcns ?_ <| xcns ?_ <| xnl
  · exact (⟨by decide, xr_aloadn dX12_init_0 rfl⟩)
  · exact (xr_oinit dX12_init_1 xw_0 xw_1 xw_oc)
  · exact (⟨by decide, xr_aloadn dX12_init_4 rfl⟩)
  · exact (xr_sipush dX12_init_5 (by decide +kernel))
  · exact (⟨by decide, xr_newa dX12_init_8 rfl xw_2⟩)
  · exact (⟨(.array .int), true, 0, rfl, xr_putF dX12_init_10 (show vwCl[12]? = some (RX12, TX12, 69) from rfl) (by decide) xin_X12 tyX12_ok nmX12 xw_3 rfl (rfl : tyX12 1 = (.array .int)) rfl, fun _ => rfl⟩)
  · exact (⟨by decide, xr_aloadn dX12_init_13 rfl⟩)
  · exact (xr_bipush dX12_init_14 (by decide +kernel))
  · exact (⟨by decide, xr_newa dX12_init_16 rfl xw_2⟩)
  · exact (⟨(.array .int), true, 0, rfl, xr_putF dX12_init_18 (show vwCl[12]? = some (RX12, TX12, 69) from rfl) (by decide) xin_X12 tyX12_ok nmX12 xw_4 rfl (rfl : tyX12 3 = (.array .int)) rfl, fun _ => rfl⟩)
  · exact (⟨by decide, xr_aloadn dX12_init_21 rfl⟩)
  · exact (xr_bipush dX12_init_22 (by decide +kernel))
  · exact (⟨by decide, xr_newa dX12_init_24 rfl xw_2⟩)
  · exact (⟨(.array .int), true, 0, rfl, xr_putF dX12_init_26 (show vwCl[12]? = some (RX12, TX12, 69) from rfl) (by decide) xin_X12 tyX12_ok nmX12 xw_5 rfl (rfl : tyX12 4 = (.array .int)) rfl, fun _ => rfl⟩)
  · exact (⟨by decide, xr_aloadn dX12_init_29 rfl⟩)
  · exact (xr_bipush dX12_init_30 (by decide +kernel))
  · exact (⟨by decide, xr_newa dX12_init_32 rfl xw_2⟩)
  · exact (⟨(.array .int), true, 0, rfl, xr_putF dX12_init_34 (show vwCl[12]? = some (RX12, TX12, 69) from rfl) (by decide) xin_X12 tyX12_ok nmX12 xw_6 rfl (rfl : tyX12 5 = (.array .int)) rfl, fun _ => rfl⟩)
  · exact (⟨by decide, xr_aloadn dX12_init_37 rfl⟩)
  · exact (xr_bipush dX12_init_38 (by decide +kernel))
  · exact (⟨by decide, xr_newa dX12_init_40 rfl xw_2⟩)
  · exact (⟨(.array .int), true, 0, rfl, xr_putF dX12_init_42 (show vwCl[12]? = some (RX12, TX12, 69) from rfl) (by decide) xin_X12 tyX12_ok nmX12 xw_7 rfl (rfl : tyX12 6 = (.array .int)) rfl, fun _ => rfl⟩)
  · exact (⟨by decide, xr_aloadn dX12_init_45 rfl⟩)
  · exact (xr_bipush dX12_init_46 (by decide +kernel))
  · exact (⟨by decide, xr_newa dX12_init_48 rfl xw_2⟩)
  · exact (⟨(.array .int), true, 0, rfl, xr_putF dX12_init_50 (show vwCl[12]? = some (RX12, TX12, 69) from rfl) (by decide) xin_X12 tyX12_ok nmX12 xw_8 rfl (rfl : tyX12 7 = (.array .int)) rfl, fun _ => rfl⟩)
  · exact (⟨by decide, xr_aloadn dX12_init_53 rfl⟩)
  · exact (xr_bipush dX12_init_54 (by decide +kernel))
  · exact (⟨by decide, xr_newa dX12_init_56 rfl xw_2⟩)
  · exact (⟨(.array .int), true, 0, rfl, xr_putF dX12_init_58 (show vwCl[12]? = some (RX12, TX12, 69) from rfl) (by decide) xin_X12 tyX12_ok nmX12 xw_9 rfl (rfl : tyX12 8 = (.array .int)) rfl, fun _ => rfl⟩)
  · exact (⟨by decide, xr_aloadn dX12_init_61 rfl⟩)
  · exact (xr_bipush dX12_init_62 (by decide +kernel))
  · exact (⟨by decide, xr_newa dX12_init_64 rfl xw_2⟩)
  · exact (⟨(.array .int), true, 0, rfl, xr_putF dX12_init_66 (show vwCl[12]? = some (RX12, TX12, 69) from rfl) (by decide) xin_X12 tyX12_ok nmX12 xw_10 rfl (rfl : tyX12 9 = (.array .int)) rfl, fun _ => rfl⟩)
  · exact (⟨by decide, xr_aloadn dX12_init_69 rfl⟩)
  · exact (xr_bipush dX12_init_70 (by decide +kernel))
  · exact (⟨by decide, xr_newa dX12_init_72 rfl xw_11⟩)
  · exact (⟨(.array .boolean), true, 0, rfl, xr_putF dX12_init_74 (show vwCl[12]? = some (RX12, TX12, 69) from rfl) (by decide) xin_X12 tyX12_ok nmX12 xw_12 rfl (rfl : tyX12 10 = (.array .boolean)) rfl, fun _ => rfl⟩)
  · exact (⟨by decide, xr_aloadn dX12_init_77 rfl⟩)
  · exact (xr_bipush dX12_init_78 (by decide +kernel))
  · exact (⟨by decide, xr_newa dX12_init_80 rfl xw_2⟩)
  · exact (fun v h => xr_dup dX12_init_82 v h)
  · exact (xr_iconst dX12_init_83 (by decide +kernel))
  · exact (xr_iconst dX12_init_84 (by decide +kernel))
  · exact (xr_iast dX12_init_85)
  · exact (fun v h => xr_dup dX12_init_86 v h)
  · exact (xr_iconst dX12_init_87 (by decide +kernel))
  · exact (xr_iconst dX12_init_88 (by decide +kernel))
  · exact (xr_iast dX12_init_89)
  · exact (fun v h => xr_dup dX12_init_90 v h)
  · exact (xr_iconst dX12_init_91 (by decide +kernel))
  · exact (xr_iconst dX12_init_92 (by decide +kernel))
  · exact (xr_iast dX12_init_93)
  · exact (fun v h => xr_dup dX12_init_94 v h)
  · exact (xr_iconst dX12_init_95 (by decide +kernel))
  · exact (xr_iconst dX12_init_96 (by decide +kernel))
  · exact (xr_iast dX12_init_97)
  · exact (fun v h => xr_dup dX12_init_98 v h)
  · exact (xr_iconst dX12_init_99 (by decide +kernel))
  · exact (xr_iconst dX12_init_100 (by decide +kernel))
  · exact (xr_iast dX12_init_101)
  · exact (fun v h => xr_dup dX12_init_102 v h)
  · exact (xr_iconst dX12_init_103 (by decide +kernel))
  · exact (xr_iconst dX12_init_104 (by decide +kernel))
  · exact (xr_iast dX12_init_105)
  · exact (fun v h => xr_dup dX12_init_106 v h)
  · exact (xr_bipush dX12_init_107 (by decide +kernel))
  · exact (xr_iconst dX12_init_109 (by decide +kernel))
  · exact (xr_iast dX12_init_110)
  · exact (fun v h => xr_dup dX12_init_111 v h)
  · exact (xr_bipush dX12_init_112 (by decide +kernel))
  · exact (xr_iconst dX12_init_114 (by decide +kernel))
  · exact (xr_iast dX12_init_115)
  · exact (fun v h => xr_dup dX12_init_116 v h)
  · exact (xr_bipush dX12_init_117 (by decide +kernel))
  · exact (xr_iconst dX12_init_119 (by decide +kernel))
  · exact (xr_iast dX12_init_120)
  · exact (fun v h => xr_dup dX12_init_121 v h)
  · exact (xr_bipush dX12_init_122 (by decide +kernel))
  · exact (xr_iconst dX12_init_124 (by decide +kernel))
  · exact (xr_iast dX12_init_125)
  · exact (fun v h => xr_dup dX12_init_126 v h)
  · exact (xr_bipush dX12_init_127 (by decide +kernel))
  · exact (xr_iconst dX12_init_129 (by decide +kernel))
  · exact (xr_iast dX12_init_130)
  · exact (fun v h => xr_dup dX12_init_131 v h)
  · exact (xr_bipush dX12_init_132 (by decide +kernel))
  · exact (xr_iconst dX12_init_134 (by decide +kernel))
  · exact (xr_iast dX12_init_135)
  · exact (⟨(.array .int), true, 0, rfl, xr_putF dX12_init_136 (show vwCl[12]? = some (RX12, TX12, 69) from rfl) (by decide) xin_X12 tyX12_ok nmX12 xw_13 rfl (rfl : tyX12 11 = (.array .int)) rfl, fun _ => rfl⟩)
  · exact (⟨by decide, xr_aloadn dX12_init_139 rfl⟩)
  · exact (xr_bipush dX12_init_140 (by decide +kernel))
  · exact (⟨by decide, xr_newa dX12_init_142 rfl xw_2⟩)
  · exact (⟨(.array .int), true, 0, rfl, xr_putF dX12_init_144 (show vwCl[12]? = some (RX12, TX12, 69) from rfl) (by decide) xin_X12 tyX12_ok nmX12 xw_14 rfl (rfl : tyX12 12 = (.array .int)) rfl, fun _ => rfl⟩)
  · exact (⟨by decide, xr_aloadn dX12_init_147 rfl⟩)
  · exact (xr_bipush dX12_init_148 (by decide +kernel))
  · exact (⟨by decide, xr_newa dX12_init_150 rfl xw_2⟩)
  · exact (⟨(.array .int), true, 0, rfl, xr_putF dX12_init_152 (show vwCl[12]? = some (RX12, TX12, 69) from rfl) (by decide) xin_X12 tyX12_ok nmX12 xw_15 rfl (rfl : tyX12 13 = (.array .int)) rfl, fun _ => rfl⟩)
  · exact (⟨by decide, xr_aloadn dX12_init_155 rfl⟩)
  · exact (xr_bipush dX12_init_156 (by decide +kernel))
  · exact (⟨by decide, xr_newa dX12_init_158 rfl xw_2⟩)
  · exact (⟨(.array .int), true, 0, rfl, xr_putF dX12_init_160 (show vwCl[12]? = some (RX12, TX12, 69) from rfl) (by decide) xin_X12 tyX12_ok nmX12 xw_16 rfl (rfl : tyX12 14 = (.array .int)) rfl, fun _ => rfl⟩)
  · exact (⟨by decide, xr_aloadn dX12_init_163 rfl⟩)
  · exact (xr_bipush dX12_init_164 (by decide +kernel))
  · exact (⟨by decide, xr_newa dX12_init_166 rfl xw_2⟩)
  · exact (⟨(.array .int), true, 0, rfl, xr_putF dX12_init_168 (show vwCl[12]? = some (RX12, TX12, 69) from rfl) (by decide) xin_X12 tyX12_ok nmX12 xw_17 rfl (rfl : tyX12 15 = (.array .int)) rfl, fun _ => rfl⟩)
  · exact (⟨by decide, xr_aloadn dX12_init_171 rfl⟩)
  · exact (xr_bipush dX12_init_172 (by decide +kernel))
  · exact (⟨by decide, xr_newa dX12_init_174 rfl xw_2⟩)
  · exact (⟨(.array .int), true, 0, rfl, xr_putF dX12_init_176 (show vwCl[12]? = some (RX12, TX12, 69) from rfl) (by decide) xin_X12 tyX12_ok nmX12 xw_18 rfl (rfl : tyX12 16 = (.array .int)) rfl, fun _ => rfl⟩)
  · exact (⟨by decide, xr_aloadn dX12_init_179 rfl⟩)
  · exact (xr_sipush dX12_init_180 (by decide +kernel))
  · exact (⟨by decide, xr_newa dX12_init_183 rfl xw_2⟩)
  · exact (⟨(.array .int), true, 0, rfl, xr_putF dX12_init_185 (show vwCl[12]? = some (RX12, TX12, 69) from rfl) (by decide) xin_X12 tyX12_ok nmX12 xw_19 rfl (rfl : tyX12 17 = (.array .int)) rfl, fun _ => rfl⟩)
  · exact (⟨by decide, xr_aloadn dX12_init_188 rfl⟩)
  · exact (xr_bipush dX12_init_189 (by decide +kernel))
  · exact (⟨by decide, xr_newa dX12_init_191 rfl xw_2⟩)
  · exact (⟨(.array .int), true, 0, rfl, xr_putF dX12_init_193 (show vwCl[12]? = some (RX12, TX12, 69) from rfl) (by decide) xin_X12 tyX12_ok nmX12 xw_20 rfl (rfl : tyX12 18 = (.array .int)) rfl, fun _ => rfl⟩)
  · exact (⟨by decide, xr_aloadn dX12_init_196 rfl⟩)
  · exact (xr_bipush dX12_init_197 (by decide +kernel))
  · exact (⟨by decide, xr_newa dX12_init_199 rfl xw_2⟩)
  · exact (⟨(.array .int), true, 0, rfl, xr_putF dX12_init_201 (show vwCl[12]? = some (RX12, TX12, 69) from rfl) (by decide) xin_X12 tyX12_ok nmX12 xw_21 rfl (rfl : tyX12 19 = (.array .int)) rfl, fun _ => rfl⟩)
  · exact (⟨by decide, xr_aloadn dX12_init_204 rfl⟩)
  · exact (xr_bipush dX12_init_205 (by decide +kernel))
  · exact (⟨by decide, xr_newa dX12_init_207 rfl xw_2⟩)
  · exact (⟨(.array .int), true, 0, rfl, xr_putF dX12_init_209 (show vwCl[12]? = some (RX12, TX12, 69) from rfl) (by decide) xin_X12 tyX12_ok nmX12 xw_22 rfl (rfl : tyX12 20 = (.array .int)) rfl, fun _ => rfl⟩)
  · exact (⟨by decide, xr_aloadn dX12_init_212 rfl⟩)
  · exact (xr_bipush dX12_init_213 (by decide +kernel))
  · exact (⟨by decide, xr_newa dX12_init_215 rfl xw_2⟩)
  · exact (⟨(.array .int), true, 0, rfl, xr_putF dX12_init_217 (show vwCl[12]? = some (RX12, TX12, 69) from rfl) (by decide) xin_X12 tyX12_ok nmX12 xw_23 rfl (rfl : tyX12 21 = (.array .int)) rfl, fun _ => rfl⟩)
  · exact (⟨by decide, xr_aloadn dX12_init_220 rfl⟩)
  · exact (xr_sipush dX12_init_221 (by decide +kernel))
  · exact (⟨by decide, xr_newa dX12_init_224 rfl xw_2⟩)
  · exact (⟨(.array .int), true, 0, rfl, xr_putF dX12_init_226 (show vwCl[12]? = some (RX12, TX12, 69) from rfl) (by decide) xin_X12 tyX12_ok nmX12 xw_24 rfl (rfl : tyX12 22 = (.array .int)) rfl, fun _ => rfl⟩)
  · exact (⟨by decide, xr_aloadn dX12_init_229 rfl⟩)
  · exact (xr_sipush dX12_init_230 (by decide +kernel))
  · exact (⟨by decide, xr_newa dX12_init_233 rfl xw_2⟩)
  · exact (⟨(.array .int), true, 0, rfl, xr_putF dX12_init_235 (show vwCl[12]? = some (RX12, TX12, 69) from rfl) (by decide) xin_X12 tyX12_ok nmX12 xw_25 rfl (rfl : tyX12 23 = (.array .int)) rfl, fun _ => rfl⟩)
  · exact (⟨by decide, xr_aloadn dX12_init_238 rfl⟩)
  · exact (xr_iconst dX12_init_239 (by decide +kernel))
  · exact (⟨.int, false, 0, rfl, xr_putf dX12_init_240 (show vwCl[12]? = some (RX12, TX12, 69) from rfl) (by decide) xin_X12 tyX12_ok nmX12 xw_26 rfl (rfl : tyX12 34 = .int), fun h => (by cases h)⟩)
  · exact (⟨by decide, xr_aloadn dX12_init_243 rfl⟩)
  · exact (xr_iconst dX12_init_244 (by decide +kernel))
  · exact (⟨by decide, xr_newa dX12_init_245 rfl xw_2⟩)
  · exact (⟨(.array .int), true, 0, rfl, xr_putF dX12_init_247 (show vwCl[12]? = some (RX12, TX12, 69) from rfl) (by decide) xin_X12 tyX12_ok nmX12 xw_27 rfl (rfl : tyX12 37 = (.array .int)) rfl, fun _ => rfl⟩)
  · exact (⟨by decide, xr_aloadn dX12_init_250 rfl⟩)
  · exact (xr_iconst dX12_init_251 (by decide +kernel))
  · exact (⟨by decide, xr_newa dX12_init_252 rfl xw_2⟩)
  · exact (⟨(.array .int), true, 0, rfl, xr_putF dX12_init_254 (show vwCl[12]? = some (RX12, TX12, 69) from rfl) (by decide) xin_X12 tyX12_ok nmX12 xw_28 rfl (rfl : tyX12 38 = (.array .int)) rfl, fun _ => rfl⟩)
  · exact (⟨by decide, xr_aloadn dX12_init_257 rfl⟩)
  · exact (xr_iconst dX12_init_258 (by decide +kernel))
  · exact (⟨by decide, xr_newa dX12_init_259 rfl xw_2⟩)
  · exact (⟨(.array .int), true, 0, rfl, xr_putF dX12_init_261 (show vwCl[12]? = some (RX12, TX12, 69) from rfl) (by decide) xin_X12 tyX12_ok nmX12 xw_29 rfl (rfl : tyX12 39 = (.array .int)) rfl, fun _ => rfl⟩)
  · exact (⟨by decide, xr_aloadn dX12_init_264 rfl⟩)
  · exact (xr_iconst dX12_init_265 (by decide +kernel))
  · exact (⟨by decide, xr_newa dX12_init_266 rfl xw_2⟩)
  · exact (⟨(.array .int), true, 0, rfl, xr_putF dX12_init_268 (show vwCl[12]? = some (RX12, TX12, 69) from rfl) (by decide) xin_X12 tyX12_ok nmX12 xw_30 rfl (rfl : tyX12 40 = (.array .int)) rfl, fun _ => rfl⟩)
  · exact (⟨by decide, xr_aloadn dX12_init_271 rfl⟩)
  · exact (xr_iconst dX12_init_272 (by decide +kernel))
  · exact (⟨by decide, xr_newa dX12_init_273 rfl xw_2⟩)
  · exact (⟨(.array .int), true, 0, rfl, xr_putF dX12_init_275 (show vwCl[12]? = some (RX12, TX12, 69) from rfl) (by decide) xin_X12 tyX12_ok nmX12 xw_31 rfl (rfl : tyX12 41 = (.array .int)) rfl, fun _ => rfl⟩)
  · exact (⟨by decide, xr_aloadn dX12_init_278 rfl⟩)
  · exact (xr_bipush dX12_init_279 (by decide +kernel))
  · exact (⟨by decide, xr_newa dX12_init_281 rfl xw_2⟩)
  · exact (⟨(.array .int), true, 0, rfl, xr_putF dX12_init_283 (show vwCl[12]? = some (RX12, TX12, 69) from rfl) (by decide) xin_X12 tyX12_ok nmX12 xw_32 rfl (rfl : tyX12 42 = (.array .int)) rfl, fun _ => rfl⟩)
  · exact (⟨by decide, xr_aloadn dX12_init_286 rfl⟩)
  · exact (xr_bipush dX12_init_287 (by decide +kernel))
  · exact (⟨by decide, xr_newa dX12_init_289 rfl xw_2⟩)
  · exact (⟨(.array .int), true, 0, rfl, xr_putF dX12_init_291 (show vwCl[12]? = some (RX12, TX12, 69) from rfl) (by decide) xin_X12 tyX12_ok nmX12 xw_33 rfl (rfl : tyX12 43 = (.array .int)) rfl, fun _ => rfl⟩)
  · exact (⟨by decide, xr_aloadn dX12_init_294 rfl⟩)
  · exact (xr_bipush dX12_init_295 (by decide +kernel))
  · exact (⟨by decide, xr_newa dX12_init_297 rfl xw_2⟩)
  · exact (⟨(.array .int), true, 0, rfl, xr_putF dX12_init_299 (show vwCl[12]? = some (RX12, TX12, 69) from rfl) (by decide) xin_X12 tyX12_ok nmX12 xw_34 rfl (rfl : tyX12 44 = (.array .int)) rfl, fun _ => rfl⟩)
  · exact (⟨by decide, xr_aloadn dX12_init_302 rfl⟩)
  · exact (xr_bipush dX12_init_303 (by decide +kernel))
  · exact (⟨by decide, xr_newa dX12_init_305 rfl xw_2⟩)
  · exact (⟨(.array .int), true, 0, rfl, xr_putF dX12_init_307 (show vwCl[12]? = some (RX12, TX12, 69) from rfl) (by decide) xin_X12 tyX12_ok nmX12 xw_35 rfl (rfl : tyX12 45 = (.array .int)) rfl, fun _ => rfl⟩)
  · exact (⟨by decide, xr_aloadn dX12_init_310 rfl⟩)
  · exact (xr_iconst dX12_init_311 (by decide +kernel))
  · exact (⟨by decide, xr_newa dX12_init_312 rfl xw_2⟩)
  · exact (⟨(.array .int), true, 0, rfl, xr_putF dX12_init_314 (show vwCl[12]? = some (RX12, TX12, 69) from rfl) (by decide) xin_X12 tyX12_ok nmX12 xw_36 rfl (rfl : tyX12 46 = (.array .int)) rfl, fun _ => rfl⟩)
  · exact (⟨by decide, xr_aloadn dX12_init_317 rfl⟩)
  · exact (xr_bipush dX12_init_318 (by decide +kernel))
  · exact (⟨by decide, xr_newa dX12_init_320 rfl xw_2⟩)
  · exact (⟨(.array .int), true, 0, rfl, xr_putF dX12_init_322 (show vwCl[12]? = some (RX12, TX12, 69) from rfl) (by decide) xin_X12 tyX12_ok nmX12 xw_37 rfl (rfl : tyX12 47 = (.array .int)) rfl, fun _ => rfl⟩)
  · exact (⟨by decide, xr_aloadn dX12_init_325 rfl⟩)
  · exact (xr_bipush dX12_init_326 (by decide +kernel))
  · exact (⟨by decide, xr_newa dX12_init_328 rfl xw_2⟩)
  · exact (⟨(.array .int), true, 0, rfl, xr_putF dX12_init_330 (show vwCl[12]? = some (RX12, TX12, 69) from rfl) (by decide) xin_X12 tyX12_ok nmX12 xw_38 rfl (rfl : tyX12 48 = (.array .int)) rfl, fun _ => rfl⟩)
  · exact (⟨by decide, xr_aloadn dX12_init_333 rfl⟩)
  · exact (xr_bipush dX12_init_334 (by decide +kernel))
  · exact (⟨by decide, xr_newa dX12_init_336 rfl xw_39⟩)
  · exact (⟨(.array .long), true, 0, rfl, xr_putF dX12_init_338 (show vwCl[12]? = some (RX12, TX12, 69) from rfl) (by decide) xin_X12 tyX12_ok nmX12 xw_40 rfl (rfl : tyX12 50 = (.array .long)) rfl, fun _ => rfl⟩)
  · exact (⟨by decide, xr_aloadn dX12_init_341 rfl⟩)
  · exact (xr_bipush dX12_init_342 (by decide +kernel))
  · exact (⟨by decide, xr_newa dX12_init_344 rfl xw_39⟩)
  · exact (⟨(.array .long), true, 0, rfl, xr_putF dX12_init_346 (show vwCl[12]? = some (RX12, TX12, 69) from rfl) (by decide) xin_X12 tyX12_ok nmX12 xw_41 rfl (rfl : tyX12 51 = (.array .long)) rfl, fun _ => rfl⟩)
  · exact (⟨by decide, xr_aloadn dX12_init_349 rfl⟩)
  · exact (xr_sipush dX12_init_350 (by decide +kernel))
  · exact (⟨by decide, xr_newa dX12_init_353 rfl xw_2⟩)
  · exact (⟨(.array .int), true, 0, rfl, xr_putF dX12_init_355 (show vwCl[12]? = some (RX12, TX12, 69) from rfl) (by decide) xin_X12 tyX12_ok nmX12 xw_42 rfl (rfl : tyX12 53 = (.array .int)) rfl, fun _ => rfl⟩)
  · exact (⟨by decide, xr_aloadn dX12_init_358 rfl⟩)
  · exact (xr_sipush dX12_init_359 (by decide +kernel))
  · exact (⟨by decide, xr_newa dX12_init_362 rfl xw_2⟩)
  · exact (⟨(.array .int), true, 0, rfl, xr_putF dX12_init_364 (show vwCl[12]? = some (RX12, TX12, 69) from rfl) (by decide) xin_X12 tyX12_ok nmX12 xw_43 rfl (rfl : tyX12 54 = (.array .int)) rfl, fun _ => rfl⟩)
  · exact (⟨by decide, xr_aloadn dX12_init_367 rfl⟩)
  · exact (xr_bipush dX12_init_368 (by decide +kernel))
  · exact (⟨by decide, xr_newa dX12_init_370 rfl xw_2⟩)
  · exact (⟨(.array .int), true, 0, rfl, xr_putF dX12_init_372 (show vwCl[12]? = some (RX12, TX12, 69) from rfl) (by decide) xin_X12 tyX12_ok nmX12 xw_44 rfl (rfl : tyX12 55 = (.array .int)) rfl, fun _ => rfl⟩)
  · exact (⟨by decide, xr_aloadn dX12_init_375 rfl⟩)
  · exact (xr_bipush dX12_init_376 (by decide +kernel))
  · exact (⟨by decide, xr_newa dX12_init_378 rfl xw_2⟩)
  · exact (⟨(.array .int), true, 0, rfl, xr_putF dX12_init_380 (show vwCl[12]? = some (RX12, TX12, 69) from rfl) (by decide) xin_X12 tyX12_ok nmX12 xw_45 rfl (rfl : tyX12 56 = (.array .int)) rfl, fun _ => rfl⟩)
  · exact (⟨by decide, xr_aloadn dX12_init_383 rfl⟩)
  · exact (xr_iconst dX12_init_384 (by decide +kernel))
  · exact (⟨by decide, xr_newa dX12_init_385 rfl xw_2⟩)
  · exact (⟨(.array .int), true, 0, rfl, xr_putF dX12_init_387 (show vwCl[12]? = some (RX12, TX12, 69) from rfl) (by decide) xin_X12 tyX12_ok nmX12 xw_46 rfl (rfl : tyX12 57 = (.array .int)) rfl, fun _ => rfl⟩)
  · exact (⟨by decide, xr_aloadn dX12_init_390 rfl⟩)
  · exact (xr_iconst dX12_init_391 (by decide +kernel))
  · exact (⟨by decide, xr_newa dX12_init_392 rfl xw_2⟩)
  · exact (⟨(.array .int), true, 0, rfl, xr_putF dX12_init_394 (show vwCl[12]? = some (RX12, TX12, 69) from rfl) (by decide) xin_X12 tyX12_ok nmX12 xw_47 rfl (rfl : tyX12 58 = (.array .int)) rfl, fun _ => rfl⟩)
  · exact (⟨by decide, xr_aloadn dX12_init_397 rfl⟩)
  · exact (xr_iconst dX12_init_398 (by decide +kernel))
  · exact (⟨.int, false, 0, rfl, xr_putf dX12_init_399 (show vwCl[12]? = some (RX12, TX12, 69) from rfl) (by decide) xin_X12 tyX12_ok nmX12 xw_48 rfl (rfl : tyX12 62 = .int), fun h => (by cases h)⟩)
  · exact (⟨by decide, xr_aloadn dX12_init_402 rfl⟩)
  · exact (xr_bipush dX12_init_403 (by decide +kernel))
  · exact (⟨by decide, xr_newa dX12_init_405 rfl xw_2⟩)
  · exact (⟨(.array .int), true, 0, rfl, xr_putF dX12_init_407 (show vwCl[12]? = some (RX12, TX12, 69) from rfl) (by decide) xin_X12 tyX12_ok nmX12 xw_49 rfl (rfl : tyX12 63 = (.array .int)) rfl, fun _ => rfl⟩)
  · exact (⟨by decide, xr_aloadn dX12_init_410 rfl⟩)
  · exact (xr_bipush dX12_init_411 (by decide +kernel))
  · exact (⟨by decide, xr_newa dX12_init_413 rfl xw_2⟩)
  · exact (⟨(.array .int), true, 0, rfl, xr_putF dX12_init_415 (show vwCl[12]? = some (RX12, TX12, 69) from rfl) (by decide) xin_X12 tyX12_ok nmX12 xw_50 rfl (rfl : tyX12 64 = (.array .int)) rfl, fun _ => rfl⟩)
  · exact (⟨by decide, xr_aloadn dX12_init_418 rfl⟩)
  · exact (xr_bipush dX12_init_419 (by decide +kernel))
  · exact (⟨by decide, xr_newa dX12_init_421 rfl xw_11⟩)
  · exact (⟨(.array .boolean), true, 0, rfl, xr_putF dX12_init_423 (show vwCl[12]? = some (RX12, TX12, 69) from rfl) (by decide) xin_X12 tyX12_ok nmX12 xw_51 rfl (rfl : tyX12 65 = (.array .boolean)) rfl, fun _ => rfl⟩)
  · exact (⟨by decide, xr_aloadn dX12_init_426 rfl⟩)
  · exact (xr_iconst dX12_init_427 (by decide +kernel))
  · exact (⟨by decide, xr_newa dX12_init_428 rfl xw_2⟩)
  · exact (⟨(.array .int), true, 0, rfl, xr_putF dX12_init_430 (show vwCl[12]? = some (RX12, TX12, 69) from rfl) (by decide) xin_X12 tyX12_ok nmX12 xw_52 rfl (rfl : tyX12 66 = (.array .int)) rfl, fun _ => rfl⟩)
  · exact (⟨by decide, xr_aloadn dX12_init_433 rfl⟩)
  · exact (xr_iconst dX12_init_434 (by decide +kernel))
  · exact (⟨by decide, xr_newa dX12_init_435 rfl xw_2⟩)
  · exact (⟨(.array .int), true, 0, rfl, xr_putF dX12_init_437 (show vwCl[12]? = some (RX12, TX12, 69) from rfl) (by decide) xin_X12 tyX12_ok nmX12 xw_53 rfl (rfl : tyX12 67 = (.array .int)) rfl, fun _ => rfl⟩)
  · exact (⟨by decide, xr_aloadn dX12_init_440 rfl⟩)
  · exact (⟨rfl, _, rfl, ⟨160, dX12_init_441, xw_56, xw_54, xw_55⟩, _, rfl, rfl⟩)
  · exact (⟨dX12_init_444, rfl⟩)
theorem xmo_0 : xMok xmt xm_0 := ⟨xw_57, xw_58, ⟨by decide, by decide, by decide +kernel⟩, by decide +kernel, rfl, xo_0⟩
theorem xo_1 : ∀ q ∈ xk_1, xok xmt xm_1 q.1 q.2 := by
  refine xcns ?_ <| xcns ?_ <| xcns ?_ <| xcns ?_ <| xcns ?_ <| xcns ?_ <| xcns ?_ <| xcns ?_ <| xcns ?_ <| xcns ?_ <| xcns ?_ <| xcns ?_ <| xcns ?_ <| xcns ?_ <| xnl
  · exact (⟨by decide, xr_iloadn dX12_areVerses_0 rfl⟩)
  · exact (xr_iflt dX12_areVerses_1 (by decide))
  · exact (⟨by decide, xr_iloadn dX12_areVerses_4 rfl⟩)
  · exact (xr_iconst dX12_areVerses_5 (by decide +kernel))
  · exact (⟨by decide, xr_aloadn dX12_areVerses_6 rfl⟩)
  · exact (xr_getf dX12_areVerses_7 (show vwCl[12]? = some (RX12, TX12, 69) from rfl) (by decide) xin_X12 xw_4)
  · exact (xr_iconst dX12_areVerses_10 (by decide +kernel))
  · exact (⟨by decide, xr_iald dX12_areVerses_11⟩)
  · exact (fun x y h => xr_ishl dX12_areVerses_12 x y)
  · exact (xr_icmpge dX12_areVerses_13 (by decide))
  · exact (xr_iconst dX12_areVerses_16 (by decide +kernel))
  · exact (xr_goto dX12_areVerses_17 (by decide))
  · exact (xr_iconst dX12_areVerses_20 (by decide +kernel))
  · exact (⟨dX12_areVerses_21, .boolean, rfl, rfl, Or.inr rfl⟩)
theorem xmo_1 : xMok xmt xm_1 := ⟨xw_59, xw_58, ⟨by decide, by decide, by decide +kernel⟩, by decide +kernel, rfl, xo_1⟩
theorem xo_2 : ∀ q ∈ xk_2, xok xmt xm_2 q.1 q.2 := by
  refine xcns ?_ <| xcns ?_ <| xcns ?_ <| xcns ?_ <| xcns ?_ <| xcns ?_ <| xcns ?_ <| xcns ?_ <| xnl
  · exact (⟨by decide, xr_aloadn dX12_back_0 rfl⟩)
  · exact (xr_iconst dX12_back_1 (by decide +kernel))
  · exact (⟨.int, false, 0, rfl, xr_putf dX12_back_2 (show vwCl[12]? = some (RX12, TX12, 69) from rfl) (by decide) xin_X12 tyX12_ok nmX12 xw_60 rfl (rfl : tyX12 0 = .int), fun h => (by cases h)⟩)
  · exact (⟨by decide, xr_aloadn dX12_back_5 rfl⟩)
  · exact (xr_getf dX12_back_6 (show vwCl[12]? = some (RX12, TX12, 69) from rfl) (by decide) xin_X12 xw_61)
  · exact (xr_ifne dX12_back_9 (by decide))
  · exact (xr_iconst dX12_back_12 (by decide +kernel))
  · exact (⟨dX12_back_13, .int, rfl, rfl, Or.inl rfl⟩)
theorem xmo_2 : xMok xmt xm_2 := ⟨xw_62, xw_58, ⟨by decide, by decide, by decide +kernel⟩, by decide +kernel, rfl, xo_2⟩
theorem xo_3 : ∀ q ∈ xk_3, xok xmt xm_3 q.1 q.2 := by
  refine xcns ?_ <| xcns ?_ <| xcns ?_ <| xcns ?_ <| xcns ?_ <| xcns ?_ <| xcns ?_ <| xcns ?_ <| xcns ?_ <| xnl
  · exact (⟨by decide, xr_aloadn dX12_bar_0 rfl⟩)
  · exact (xr_iconst dX12_bar_1 (by decide +kernel))
  · exact (⟨.int, false, 0, rfl, xr_putf dX12_bar_2 (show vwCl[12]? = some (RX12, TX12, 69) from rfl) (by decide) xin_X12 tyX12_ok nmX12 xw_60 rfl (rfl : tyX12 0 = .int), fun h => (by cases h)⟩)
  · exact (⟨by decide, xr_aloadn dX12_bar_5 rfl⟩)
  · exact (⟨by decide, xr_iloadn dX12_bar_6 rfl⟩)
  · exact (⟨rfl, _, rfl, ⟨332, dX12_bar_7, xw_65, xw_63, xw_64⟩, _, rfl, rfl⟩)
  · exact (xr_ifeq dX12_bar_10 (by decide))
  · exact (xr_iconst dX12_bar_23 (by decide +kernel))
  · exact (⟨dX12_bar_24, .int, rfl, rfl, Or.inl rfl⟩)
theorem xmo_3 : xMok xmt xm_3 := ⟨xw_66, xw_58, ⟨by decide, by decide, by decide +kernel⟩, by decide +kernel, rfl, xo_3⟩
theorem xo_4 : ∀ q ∈ xk_4, xok xmt xm_4 q.1 q.2 := by
  refine xcns ?_ <| xcns ?_ <| xcns ?_ <| xcns ?_ <| xcns ?_ <| xcns ?_ <| xcns ?_ <| xcns ?_ <| xcns ?_ <| xcns ?_ <| xcns ?_ <| xcns ?_ <| xcns ?_ <| xcns ?_ <| xcns ?_ <| xcns ?_ <| xcns ?_ <| xcns ?_ <| xcns ?_ <| xcns ?_ <| xcns ?_ <| xcns ?_ <| xcns ?_ <| xcns ?_ <| xcns ?_ <| xcns ?_ <| xcns ?_ <| xcns ?_ <| xcns ?_ <| xcns ?_ <| xcns ?_ <| xcns ?_ <| xcns ?_ <| xcns ?_ <| xcns ?_ <| xcns ?_ <| xcns ?_ <| xcns ?_ <| xcns ?_ <| xcns ?_ <| xcns ?_ <| xcns ?_ <| xcns ?_ <| xcns ?_ <| xcns ?_ <| xcns ?_ <| xcns ?_ <| xcns ?_ <| xcns ?_ <| xcns ?_ <| xcns ?_ <| xcns ?_ <| xcns ?_ <| xcns ?_ <| xcns ?_ <| xcns ?_ <| xcns ?_ <| xcns ?_ <| xcns ?_ <| xcns ?_ <| xcns ?_ <| xcns ?_ <| xcns ?_ <| xcns ?_ <| xcns ?_ <| xcns ?_ <| xcns ?_ <| xcns ?_ <| xcns ?_ <| xcns ?_ <| xcns ?_ <| xcns ?_ <| xcns ?_ <| xcns ?_ <| xcns ?_ <| xcns ?_ <| xcns ?_ <| xcns ?_ <| xcns ?_ <| xcns ?_ <| xcns ?_ <| xcns ?_ <| xcns ?_ <| xcns ?_ <| xcns ?_ <| xcns ?_ <| xcns ?_ <| xcns ?_ <| xcns ?_ <| xcns ?_ <| xcns ?_ <| xcns ?_ <| xcns ?_ <| xcns ?_ <| xcns ?_ <| xcns ?_ <| xcns ?_ <| xnl
  · exact (⟨by decide, xr_aloadn dX12_begins_0 rfl⟩)
  · exact (xr_getf dX12_begins_1 (show vwCl[12]? = some (RX12, TX12, 69) from rfl) (by decide) xin_X12 xw_27)
  · exact (xr_iconst dX12_begins_4 (by decide +kernel))
  · exact (xr_iconst dX12_begins_5 (by decide +kernel))
  · exact (xr_iast dX12_begins_6)
  · exact (⟨by decide, xr_aloadn dX12_begins_7 rfl⟩)
  · exact (xr_getf dX12_begins_8 (show vwCl[12]? = some (RX12, TX12, 69) from rfl) (by decide) xin_X12 xw_28)
  · exact (xr_iconst dX12_begins_11 (by decide +kernel))
  · exact (⟨by decide, xr_aloadn dX12_begins_12 rfl⟩)
  · exact (xr_getf dX12_begins_13 (show vwCl[12]? = some (RX12, TX12, 69) from rfl) (by decide) xin_X12 xw_4)
  · exact (xr_iconst dX12_begins_16 (by decide +kernel))
  · exact (⟨by decide, xr_iald dX12_begins_17⟩)
  · exact (xr_iast dX12_begins_18)
  · exact (⟨by decide, xr_aloadn dX12_begins_19 rfl⟩)
  · exact (xr_getf dX12_begins_20 (show vwCl[12]? = some (RX12, TX12, 69) from rfl) (by decide) xin_X12 xw_29)
  · exact (xr_iconst dX12_begins_23 (by decide +kernel))
  · exact (⟨by decide, xr_aloadn dX12_begins_24 rfl⟩)
  · exact (xr_getf dX12_begins_25 (show vwCl[12]? = some (RX12, TX12, 69) from rfl) (by decide) xin_X12 xw_4)
  · exact (xr_iconst dX12_begins_28 (by decide +kernel))
  · exact (⟨by decide, xr_iald dX12_begins_29⟩)
  · exact (xr_iast dX12_begins_30)
  · exact (⟨by decide, xr_aloadn dX12_begins_31 rfl⟩)
  · exact (xr_getf dX12_begins_32 (show vwCl[12]? = some (RX12, TX12, 69) from rfl) (by decide) xin_X12 xw_30)
  · exact (xr_iconst dX12_begins_35 (by decide +kernel))
  · exact (xr_iconst dX12_begins_36 (by decide +kernel))
  · exact (xr_iast dX12_begins_37)
  · exact (⟨by decide, xr_aloadn dX12_begins_38 rfl⟩)
  · exact (xr_getf dX12_begins_39 (show vwCl[12]? = some (RX12, TX12, 69) from rfl) (by decide) xin_X12 xw_31)
  · exact (xr_iconst dX12_begins_42 (by decide +kernel))
  · exact (xr_iconst dX12_begins_43 (by decide +kernel))
  · exact (xr_iast dX12_begins_44)
  · exact (⟨by decide, xr_aloadn dX12_begins_45 rfl⟩)
  · exact (xr_getf dX12_begins_46 (show vwCl[12]? = some (RX12, TX12, 69) from rfl) (by decide) xin_X12 xw_36)
  · exact (xr_iconst dX12_begins_49 (by decide +kernel))
  · exact (xr_iconst dX12_begins_50 (by decide +kernel))
  · exact (xr_iast dX12_begins_51)
  · exact (xr_iconst dX12_begins_52 (by decide +kernel))
  · exact (⟨by decide, xr_istoren dX12_begins_53 rfl⟩)
  · exact (⟨by decide, xr_iloadn dX12_begins_54 rfl⟩)
  · exact (xr_iconst dX12_begins_55 (by decide +kernel))
  · exact (xr_icmpge dX12_begins_56 (by decide))
  · exact (⟨by decide, xr_aloadn dX12_begins_59 rfl⟩)
  · exact (xr_getf dX12_begins_60 (show vwCl[12]? = some (RX12, TX12, 69) from rfl) (by decide) xin_X12 xw_32)
  · exact (⟨by decide, xr_iloadn dX12_begins_63 rfl⟩)
  · exact (⟨by decide, xr_iloadn dX12_begins_64 rfl⟩)
  · exact (⟨by decide, xr_aloadn dX12_begins_65 rfl⟩)
  · exact (xr_getf dX12_begins_66 (show vwCl[12]? = some (RX12, TX12, 69) from rfl) (by decide) xin_X12 xw_4)
  · exact (xr_iconst dX12_begins_69 (by decide +kernel))
  · exact (⟨by decide, xr_iald dX12_begins_70⟩)
  · exact (xr_icmpge dX12_begins_71 (by decide))
  · exact (xr_iconst dX12_begins_83 (by decide +kernel))
  · exact (xr_iast dX12_begins_84)
  · exact (xr_iinc dX12_begins_85 (by decide +kernel))
  · exact (xr_goto dX12_begins_88 (by decide))
  · exact (xr_iconst dX12_begins_91 (by decide +kernel))
  · exact (⟨by decide, xr_istoren dX12_begins_92 rfl⟩)
  · exact (⟨by decide, xr_iloadn dX12_begins_93 rfl⟩)
  · exact (xr_iconst dX12_begins_94 (by decide +kernel))
  · exact (xr_icmpge dX12_begins_95 (by decide))
  · exact (⟨by decide, xr_aloadn dX12_begins_98 rfl⟩)
  · exact (xr_getf dX12_begins_99 (show vwCl[12]? = some (RX12, TX12, 69) from rfl) (by decide) xin_X12 xw_33)
  · exact (⟨by decide, xr_iloadn dX12_begins_102 rfl⟩)
  · exact (⟨by decide, xr_iloadn dX12_begins_103 rfl⟩)
  · exact (⟨by decide, xr_aloadn dX12_begins_104 rfl⟩)
  · exact (xr_getf dX12_begins_105 (show vwCl[12]? = some (RX12, TX12, 69) from rfl) (by decide) xin_X12 xw_4)
  · exact (xr_iconst dX12_begins_108 (by decide +kernel))
  · exact (⟨by decide, xr_iald dX12_begins_109⟩)
  · exact (xr_icmpge dX12_begins_110 (by decide))
  · exact (xr_iconst dX12_begins_122 (by decide +kernel))
  · exact (xr_iast dX12_begins_123)
  · exact (xr_iinc dX12_begins_124 (by decide +kernel))
  · exact (xr_goto dX12_begins_127 (by decide))
  · exact (xr_iconst dX12_begins_130 (by decide +kernel))
  · exact (⟨by decide, xr_istoren dX12_begins_131 rfl⟩)
  · exact (⟨by decide, xr_iloadn dX12_begins_132 rfl⟩)
  · exact (xr_bipush dX12_begins_133 (by decide +kernel))
  · exact (xr_icmpge dX12_begins_135 (by decide))
  · exact (⟨by decide, xr_aloadn dX12_begins_138 rfl⟩)
  · exact (xr_getf dX12_begins_139 (show vwCl[12]? = some (RX12, TX12, 69) from rfl) (by decide) xin_X12 xw_34)
  · exact (⟨by decide, xr_iloadn dX12_begins_142 rfl⟩)
  · exact (xr_iconst dX12_begins_143 (by decide +kernel))
  · exact (xr_iast dX12_begins_144)
  · exact (xr_iinc dX12_begins_145 (by decide +kernel))
  · exact (xr_goto dX12_begins_148 (by decide))
  · exact (xr_iconst dX12_begins_151 (by decide +kernel))
  · exact (⟨by decide, xr_istoren dX12_begins_152 rfl⟩)
  · exact (⟨by decide, xr_iloadn dX12_begins_153 rfl⟩)
  · exact (xr_bipush dX12_begins_154 (by decide +kernel))
  · exact (xr_icmpge dX12_begins_156 (by decide))
  · exact (⟨by decide, xr_aloadn dX12_begins_159 rfl⟩)
  · exact (xr_getf dX12_begins_160 (show vwCl[12]? = some (RX12, TX12, 69) from rfl) (by decide) xin_X12 xw_35)
  · exact (⟨by decide, xr_iloadn dX12_begins_163 rfl⟩)
  · exact (xr_iconst dX12_begins_164 (by decide +kernel))
  · exact (xr_iast dX12_begins_165)
  · exact (xr_iinc dX12_begins_166 (by decide +kernel))
  · exact (xr_goto dX12_begins_169 (by decide))
  · exact (⟨dX12_begins_172, rfl⟩)
theorem xmo_4 : xMok xmt xm_4 := ⟨xw_67, xw_58, ⟨by decide, by decide, by decide +kernel⟩, by decide +kernel, rfl, xo_4⟩
theorem xo_5 : ∀ q ∈ xk_5, xok xmt xm_5 q.1 q.2 := by
  refine xcns ?_ <| xcns ?_ <| xcns ?_ <| xcns ?_ <| xcns ?_ <| xcns ?_ <| xcns ?_ <| xcns ?_ <| xcns ?_ <| xcns ?_ <| xcns ?_ <| xcns ?_ <| xcns ?_ <| xcns ?_ <| xcns ?_ <| xcns ?_ <| xcns ?_ <| xcns ?_ <| xcns ?_ <| xcns ?_ <| xcns ?_ <| xcns ?_ <| xcns ?_ <| xcns ?_ <| xcns ?_ <| xcns ?_ <| xcns ?_ <| xcns ?_ <| xnl
  · exact (⟨by decide, xr_aloadn dX12_best_0 rfl⟩)
  · exact (xr_iconst dX12_best_1 (by decide +kernel))
  · exact (⟨.int, false, 0, rfl, xr_putf dX12_best_2 (show vwCl[12]? = some (RX12, TX12, 69) from rfl) (by decide) xin_X12 tyX12_ok nmX12 xw_60 rfl (rfl : tyX12 0 = .int), fun h => (by cases h)⟩)
  · exact (⟨by decide, xr_iloadn dX12_best_5 rfl⟩)
  · exact (⟨rfl, _, rfl, ⟨446, dX12_best_6, xw_68, xw_69⟩⟩)
  · exact (xr_ifeq dX12_best_9 (by decide))
  · exact (⟨by decide, xr_iloadn dX12_best_12 rfl⟩)
  · exact (xr_iflt dX12_best_13 (by decide))
  · exact (⟨by decide, xr_iloadn dX12_best_16 rfl⟩)
  · exact (xr_iconst dX12_best_17 (by decide +kernel))
  · exact (xr_icmple dX12_best_18 (by decide))
  · exact (xr_iconst dX12_best_21 (by decide +kernel))
  · exact (⟨dX12_best_22, .int, rfl, rfl, Or.inl rfl⟩)
  · exact (⟨by decide, xr_aloadn dX12_best_23 rfl⟩)
  · exact (⟨by decide, xr_iloadn dX12_best_24 rfl⟩)
  · exact (⟨rfl, _, rfl, ⟨449, dX12_best_25, xw_72, xw_70, xw_71⟩, _, rfl, rfl⟩)
  · exact (⟨by decide, xr_iloadn dX12_best_28 rfl⟩)
  · exact (xr_ifne dX12_best_29 (by decide))
  · exact (⟨by decide, xr_aloadn dX12_best_32 rfl⟩)
  · exact (xr_getf dX12_best_33 (show vwCl[12]? = some (RX12, TX12, 69) from rfl) (by decide) xin_X12 xw_42)
  · exact (⟨by decide, xr_iloadn dX12_best_36 rfl⟩)
  · exact (⟨by decide, xr_iald dX12_best_37⟩)
  · exact (xr_goto dX12_best_38 (by decide))
  · exact (⟨by decide, xr_aloadn dX12_best_41 rfl⟩)
  · exact (xr_getf dX12_best_42 (show vwCl[12]? = some (RX12, TX12, 69) from rfl) (by decide) xin_X12 xw_43)
  · exact (⟨by decide, xr_iloadn dX12_best_45 rfl⟩)
  · exact (⟨by decide, xr_iald dX12_best_46⟩)
  · exact (⟨dX12_best_47, .int, rfl, rfl, Or.inl rfl⟩)
theorem xmo_5 : xMok xmt xm_5 := ⟨xw_73, xw_58, ⟨by decide, by decide, by decide +kernel⟩, by decide +kernel, rfl, xo_5⟩
theorem xo_6 : ∀ q ∈ xk_6, xok xmt xm_6 q.1 q.2 := by
  refine xcns ?_ <| xcns ?_ <| xcns ?_ <| xcns ?_ <| xcns ?_ <| xcns ?_ <| xcns ?_ <| xcns ?_ <| xcns ?_ <| xcns ?_ <| xcns ?_ <| xcns ?_ <| xcns ?_ <| xnl
  · exact (⟨by decide, xr_aloadn dX12_bids_0 rfl⟩)
  · exact (xr_iconst dX12_bids_1 (by decide +kernel))
  · exact (⟨.int, false, 0, rfl, xr_putf dX12_bids_2 (show vwCl[12]? = some (RX12, TX12, 69) from rfl) (by decide) xin_X12 tyX12_ok nmX12 xw_60 rfl (rfl : tyX12 0 = .int), fun h => (by cases h)⟩)
  · exact (⟨by decide, xr_iloadn dX12_bids_5 rfl⟩)
  · exact (xr_iflt dX12_bids_6 (by decide))
  · exact (⟨by decide, xr_iloadn dX12_bids_9 rfl⟩)
  · exact (⟨by decide, xr_aloadn dX12_bids_10 rfl⟩)
  · exact (xr_getf dX12_bids_11 (show vwCl[12]? = some (RX12, TX12, 69) from rfl) (by decide) xin_X12 xw_4)
  · exact (xr_iconst dX12_bids_14 (by decide +kernel))
  · exact (⟨by decide, xr_iald dX12_bids_15⟩)
  · exact (xr_icmpge dX12_bids_16 (by decide))
  · exact (xr_iconst dX12_bids_42 (by decide +kernel))
  · exact (⟨dX12_bids_43, .int, rfl, rfl, Or.inl rfl⟩)
theorem xmo_6 : xMok xmt xm_6 := ⟨xw_74, xw_58, ⟨by decide, by decide, by decide +kernel⟩, by decide +kernel, rfl, xo_6⟩
theorem xo_7 : ∀ q ∈ xk_7, xok xmt xm_7 q.1 q.2 := by
  refine xcns ?_ <| xcns ?_ <| xcns ?_ <| xcns ?_ <| xcns ?_ <| xcns ?_ <| xcns ?_ <| xcns ?_ <| xcns ?_ <| xcns ?_ <| xcns ?_ <| xcns ?_ <| xcns ?_ <| xcns ?_ <| xcns ?_ <| xcns ?_ <| xcns ?_ <| xcns ?_ <| xcns ?_ <| xnl
  · exact (xr_iconst dX12_bitsOf_0 (by decide +kernel))
  · exact (⟨by decide, xr_istoren dX12_bitsOf_1 rfl⟩)
  · exact (xr_iconst dX12_bitsOf_2 (by decide +kernel))
  · exact (⟨by decide, xr_istoren dX12_bitsOf_3 rfl⟩)
  · exact (⟨by decide, xr_iloadn dX12_bitsOf_4 rfl⟩)
  · exact (xr_bipush dX12_bitsOf_5 (by decide +kernel))
  · exact (xr_icmpge dX12_bitsOf_7 (by decide))
  · exact (⟨by decide, xr_iloadn dX12_bitsOf_10 rfl⟩)
  · exact (⟨by decide, xr_iloadn dX12_bitsOf_11 rfl⟩)
  · exact (⟨by decide, xr_iloadn dX12_bitsOf_12 rfl⟩)
  · exact (fun x y h => xr_ishr dX12_bitsOf_13 x y)
  · exact (xr_iconst dX12_bitsOf_14 (by decide +kernel))
  · exact (fun x y h => xr_iand dX12_bitsOf_15 x y)
  · exact (fun x y h => xr_iadd dX12_bitsOf_16 x y)
  · exact (⟨by decide, xr_istoren dX12_bitsOf_17 rfl⟩)
  · exact (xr_iinc dX12_bitsOf_18 (by decide +kernel))
  · exact (xr_goto dX12_bitsOf_21 (by decide))
  · exact (⟨by decide, xr_iloadn dX12_bitsOf_24 rfl⟩)
  · exact (⟨dX12_bitsOf_25, .int, rfl, rfl, Or.inl rfl⟩)
theorem xmo_7 : xMok xmt xm_7 := ⟨xw_75, xw_58, ⟨by decide, by decide, by decide +kernel⟩, by decide +kernel, rfl, xo_7⟩
theorem xo_8 : ∀ q ∈ xk_8, xok xmt xm_8 q.1 q.2 := by
  refine xcns ?_ <| xcns ?_ <| xcns ?_ <| xcns ?_ <| xcns ?_ <| xcns ?_ <| xcns ?_ <| xcns ?_ <| xcns ?_ <| xcns ?_ <| xcns ?_ <| xcns ?_ <| xcns ?_ <| xnl
  · exact (⟨by decide, xr_aloadn dX12_chosen_0 rfl⟩)
  · exact (xr_iconst dX12_chosen_1 (by decide +kernel))
  · exact (⟨.int, false, 0, rfl, xr_putf dX12_chosen_2 (show vwCl[12]? = some (RX12, TX12, 69) from rfl) (by decide) xin_X12 tyX12_ok nmX12 xw_60 rfl (rfl : tyX12 0 = .int), fun h => (by cases h)⟩)
  · exact (⟨by decide, xr_iloadn dX12_chosen_5 rfl⟩)
  · exact (⟨rfl, _, rfl, ⟨446, dX12_chosen_6, xw_68, xw_69⟩⟩)
  · exact (xr_ifeq dX12_chosen_9 (by decide))
  · exact (⟨by decide, xr_aloadn dX12_chosen_12 rfl⟩)
  · exact (⟨by decide, xr_iloadn dX12_chosen_13 rfl⟩)
  · exact (⟨by decide, xr_iloadn dX12_chosen_14 rfl⟩)
  · exact (⟨rfl, _, rfl, ⟨344, dX12_chosen_15, xw_78, xw_76, xw_77⟩, _, rfl, rfl⟩)
  · exact (xr_ifne dX12_chosen_18 (by decide))
  · exact (xr_iconst dX12_chosen_21 (by decide +kernel))
  · exact (⟨dX12_chosen_22, .int, rfl, rfl, Or.inl rfl⟩)
theorem xmo_8 : xMok xmt xm_8 := ⟨xw_79, xw_58, ⟨by decide, by decide, by decide +kernel⟩, by decide +kernel, rfl, xo_8⟩
theorem xo_9 : ∀ q ∈ xk_9, xok xmt xm_9 q.1 q.2 := by
  refine xcns ?_ <| xcns ?_ <| xcns ?_ <| xcns ?_ <| xcns ?_ <| xcns ?_ <| xcns ?_ <| xcns ?_ <| xcns ?_ <| xcns ?_ <| xcns ?_ <| xcns ?_ <| xcns ?_ <| xcns ?_ <| xcns ?_ <| xcns ?_ <| xcns ?_ <| xcns ?_ <| xcns ?_ <| xcns ?_ <| xcns ?_ <| xcns ?_ <| xcns ?_ <| xcns ?_ <| xcns ?_ <| xcns ?_ <| xcns ?_ <| xcns ?_ <| xcns ?_ <| xcns ?_ <| xcns ?_ <| xcns ?_ <| xcns ?_ <| xcns ?_ <| xcns ?_ <| xcns ?_ <| xcns ?_ <| xcns ?_ <| xcns ?_ <| xcns ?_ <| xcns ?_ <| xcns ?_ <| xcns ?_ <| xcns ?_ <| xcns ?_ <| xcns ?_ <| xcns ?_ <| xcns ?_ <| xcns ?_ <| xcns ?_ <| xcns ?_ <| xcns ?_ <| xcns ?_ <| xcns ?_ <| xcns ?_ <| xcns ?_ <| xcns ?_ <| xcns ?_ <| xcns ?_ <| xcns ?_ <| xcns ?_ <| xcns ?_ <| xcns ?_ <| xcns ?_ <| xcns ?_ <| xcns ?_ <| xcns ?_ <| xcns ?_ <| xcns ?_ <| xcns ?_ <| xcns ?_ <| xcns ?_ <| xcns ?_ <| xcns ?_ <| xcns ?_ <| xcns ?_ <| xcns ?_ <| xcns ?_ <| xcns ?_ <| xcns ?_ <| xcns ?_ <| xcns ?_ <| xcns ?_ <| xcns ?_ <| xcns ?_ <| xcns ?_ <| xcns ?_ <| xcns ?_ <| xcns ?_ <| xcns ?_ <| xcns ?_ <| xcns ?_ <| xcns ?_ <| xcns ?_ <| xcns ?_ <| xcns ?_ <| xcns ?_ <| xcns ?_ <| xcns ?_ <| xcns ?_ <| xcns ?_ <| xcns ?_ <| xcns ?_ <| xcns ?_ <| xcns ?_ <| xcns ?_ <| xcns ?_ <| xcns ?_ <| xcns ?_ <| xcns ?_ <| xcns ?_ <| xcns ?_ <| xcns ?_ <| xcns ?_ <| xcns ?_ <| xcns ?_ <| xcns ?_ <| xcns ?_ <| xcns ?_ <| xcns ?_ <| xcns ?_ <| xcns ?_ <| xcns ?_ <| xcns ?_ <| xcns ?_ <| xcns ?_ <| xcns ?_ <| xcns ?_ <| xcns ?_ <| xcns ?_ <| xcns ?_ <| xcns ?_ <| xcns ?_ <| xcns ?_ <| xcns ?_ <| xcns ?_ <| xcns ?_ <| xcns ?_ <| xcns ?_ <| xcns ?_ <| xcns ?_ <| xcns ?_ <| xcns ?_ <| xcns ?_ <| xcns ?_ <| xcns ?_ <| xcns ?_ <| xcns ?_ <| xcns ?_ <| xcns ?_ <| xcns ?_ <| xcns ?_ <| xcns ?_ <| xcns ?_ <| xcns ?_ <| xcns ?_ <| xcns ?_ <| xcns ?_ <| xcns ?_ <| xcns ?_ <| xcns ?_ <| xcns ?_ <| xcns ?_ <| xcns ?_ <| xcns ?_ <| xcns ?_ <| xcns ?_ <| xcns ?_ <| xcns ?_ <| xcns ?_ <| xcns ?_ <| xcns ?_ <| xcns ?_ <| xnl
  · exact (⟨by decide, xr_aloadn dX12_copies_0 rfl⟩)
  · exact (xr_getf dX12_copies_1 (show vwCl[12]? = some (RX12, TX12, 69) from rfl) (by decide) xin_X12 xw_27)
  · exact (⟨by decide, xr_iloadn dX12_copies_4 rfl⟩)
  · exact (⟨by decide, xr_aloadn dX12_copies_5 rfl⟩)
  · exact (xr_getf dX12_copies_6 (show vwCl[12]? = some (RX12, TX12, 69) from rfl) (by decide) xin_X12 xw_27)
  · exact (⟨by decide, xr_iloadn dX12_copies_9 rfl⟩)
  · exact (⟨by decide, xr_iald dX12_copies_10⟩)
  · exact (xr_iast dX12_copies_11)
  · exact (⟨by decide, xr_aloadn dX12_copies_12 rfl⟩)
  · exact (xr_getf dX12_copies_13 (show vwCl[12]? = some (RX12, TX12, 69) from rfl) (by decide) xin_X12 xw_28)
  · exact (⟨by decide, xr_iloadn dX12_copies_16 rfl⟩)
  · exact (⟨by decide, xr_aloadn dX12_copies_17 rfl⟩)
  · exact (xr_getf dX12_copies_18 (show vwCl[12]? = some (RX12, TX12, 69) from rfl) (by decide) xin_X12 xw_28)
  · exact (⟨by decide, xr_iloadn dX12_copies_21 rfl⟩)
  · exact (⟨by decide, xr_iald dX12_copies_22⟩)
  · exact (xr_iast dX12_copies_23)
  · exact (⟨by decide, xr_aloadn dX12_copies_24 rfl⟩)
  · exact (xr_getf dX12_copies_25 (show vwCl[12]? = some (RX12, TX12, 69) from rfl) (by decide) xin_X12 xw_29)
  · exact (⟨by decide, xr_iloadn dX12_copies_28 rfl⟩)
  · exact (⟨by decide, xr_aloadn dX12_copies_29 rfl⟩)
  · exact (xr_getf dX12_copies_30 (show vwCl[12]? = some (RX12, TX12, 69) from rfl) (by decide) xin_X12 xw_29)
  · exact (⟨by decide, xr_iloadn dX12_copies_33 rfl⟩)
  · exact (⟨by decide, xr_iald dX12_copies_34⟩)
  · exact (xr_iast dX12_copies_35)
  · exact (⟨by decide, xr_aloadn dX12_copies_36 rfl⟩)
  · exact (xr_getf dX12_copies_37 (show vwCl[12]? = some (RX12, TX12, 69) from rfl) (by decide) xin_X12 xw_30)
  · exact (⟨by decide, xr_iloadn dX12_copies_40 rfl⟩)
  · exact (⟨by decide, xr_aloadn dX12_copies_41 rfl⟩)
  · exact (xr_getf dX12_copies_42 (show vwCl[12]? = some (RX12, TX12, 69) from rfl) (by decide) xin_X12 xw_30)
  · exact (⟨by decide, xr_iloadn dX12_copies_45 rfl⟩)
  · exact (⟨by decide, xr_iald dX12_copies_46⟩)
  · exact (xr_iast dX12_copies_47)
  · exact (⟨by decide, xr_aloadn dX12_copies_48 rfl⟩)
  · exact (xr_getf dX12_copies_49 (show vwCl[12]? = some (RX12, TX12, 69) from rfl) (by decide) xin_X12 xw_31)
  · exact (⟨by decide, xr_iloadn dX12_copies_52 rfl⟩)
  · exact (⟨by decide, xr_aloadn dX12_copies_53 rfl⟩)
  · exact (xr_getf dX12_copies_54 (show vwCl[12]? = some (RX12, TX12, 69) from rfl) (by decide) xin_X12 xw_31)
  · exact (⟨by decide, xr_iloadn dX12_copies_57 rfl⟩)
  · exact (⟨by decide, xr_iald dX12_copies_58⟩)
  · exact (xr_iast dX12_copies_59)
  · exact (⟨by decide, xr_aloadn dX12_copies_60 rfl⟩)
  · exact (xr_getf dX12_copies_61 (show vwCl[12]? = some (RX12, TX12, 69) from rfl) (by decide) xin_X12 xw_36)
  · exact (⟨by decide, xr_iloadn dX12_copies_64 rfl⟩)
  · exact (⟨by decide, xr_aloadn dX12_copies_65 rfl⟩)
  · exact (xr_getf dX12_copies_66 (show vwCl[12]? = some (RX12, TX12, 69) from rfl) (by decide) xin_X12 xw_36)
  · exact (⟨by decide, xr_iloadn dX12_copies_69 rfl⟩)
  · exact (⟨by decide, xr_iald dX12_copies_70⟩)
  · exact (xr_iast dX12_copies_71)
  · exact (xr_iconst dX12_copies_72 (by decide +kernel))
  · exact (⟨by decide, xr_istoren dX12_copies_73 rfl⟩)
  · exact (⟨by decide, xr_iloadn dX12_copies_74 rfl⟩)
  · exact (xr_iconst dX12_copies_75 (by decide +kernel))
  · exact (xr_icmpge dX12_copies_76 (by decide))
  · exact (⟨by decide, xr_aloadn dX12_copies_79 rfl⟩)
  · exact (xr_getf dX12_copies_80 (show vwCl[12]? = some (RX12, TX12, 69) from rfl) (by decide) xin_X12 xw_32)
  · exact (xr_iconst dX12_copies_83 (by decide +kernel))
  · exact (⟨by decide, xr_iloadn dX12_copies_84 rfl⟩)
  · exact (fun x y h => xr_imul dX12_copies_85 x y)
  · exact (⟨by decide, xr_iloadn dX12_copies_86 rfl⟩)
  · exact (fun x y h => xr_iadd dX12_copies_87 x y)
  · exact (⟨by decide, xr_aloadn dX12_copies_88 rfl⟩)
  · exact (xr_getf dX12_copies_89 (show vwCl[12]? = some (RX12, TX12, 69) from rfl) (by decide) xin_X12 xw_32)
  · exact (xr_iconst dX12_copies_92 (by decide +kernel))
  · exact (⟨by decide, xr_iloadn dX12_copies_93 rfl⟩)
  · exact (fun x y h => xr_imul dX12_copies_94 x y)
  · exact (⟨by decide, xr_iloadn dX12_copies_95 rfl⟩)
  · exact (fun x y h => xr_iadd dX12_copies_96 x y)
  · exact (⟨by decide, xr_iald dX12_copies_97⟩)
  · exact (xr_iast dX12_copies_98)
  · exact (xr_iinc dX12_copies_99 (by decide +kernel))
  · exact (xr_goto dX12_copies_102 (by decide))
  · exact (xr_iconst dX12_copies_105 (by decide +kernel))
  · exact (⟨by decide, xr_istoren dX12_copies_106 rfl⟩)
  · exact (⟨by decide, xr_iloadn dX12_copies_107 rfl⟩)
  · exact (xr_iconst dX12_copies_108 (by decide +kernel))
  · exact (xr_icmpge dX12_copies_109 (by decide))
  · exact (⟨by decide, xr_aloadn dX12_copies_112 rfl⟩)
  · exact (xr_getf dX12_copies_113 (show vwCl[12]? = some (RX12, TX12, 69) from rfl) (by decide) xin_X12 xw_33)
  · exact (xr_iconst dX12_copies_116 (by decide +kernel))
  · exact (⟨by decide, xr_iloadn dX12_copies_117 rfl⟩)
  · exact (fun x y h => xr_imul dX12_copies_118 x y)
  · exact (⟨by decide, xr_iloadn dX12_copies_119 rfl⟩)
  · exact (fun x y h => xr_iadd dX12_copies_120 x y)
  · exact (⟨by decide, xr_aloadn dX12_copies_121 rfl⟩)
  · exact (xr_getf dX12_copies_122 (show vwCl[12]? = some (RX12, TX12, 69) from rfl) (by decide) xin_X12 xw_33)
  · exact (xr_iconst dX12_copies_125 (by decide +kernel))
  · exact (⟨by decide, xr_iloadn dX12_copies_126 rfl⟩)
  · exact (fun x y h => xr_imul dX12_copies_127 x y)
  · exact (⟨by decide, xr_iloadn dX12_copies_128 rfl⟩)
  · exact (fun x y h => xr_iadd dX12_copies_129 x y)
  · exact (⟨by decide, xr_iald dX12_copies_130⟩)
  · exact (xr_iast dX12_copies_131)
  · exact (xr_iinc dX12_copies_132 (by decide +kernel))
  · exact (xr_goto dX12_copies_135 (by decide))
  · exact (xr_iconst dX12_copies_138 (by decide +kernel))
  · exact (⟨by decide, xr_istoren dX12_copies_139 rfl⟩)
  · exact (⟨by decide, xr_iloadn dX12_copies_140 rfl⟩)
  · exact (xr_bipush dX12_copies_141 (by decide +kernel))
  · exact (xr_icmpge dX12_copies_143 (by decide))
  · exact (⟨by decide, xr_aloadn dX12_copies_146 rfl⟩)
  · exact (xr_getf dX12_copies_147 (show vwCl[12]? = some (RX12, TX12, 69) from rfl) (by decide) xin_X12 xw_34)
  · exact (xr_bipush dX12_copies_150 (by decide +kernel))
  · exact (⟨by decide, xr_iloadn dX12_copies_152 rfl⟩)
  · exact (fun x y h => xr_imul dX12_copies_153 x y)
  · exact (⟨by decide, xr_iloadn dX12_copies_154 rfl⟩)
  · exact (fun x y h => xr_iadd dX12_copies_155 x y)
  · exact (⟨by decide, xr_aloadn dX12_copies_156 rfl⟩)
  · exact (xr_getf dX12_copies_157 (show vwCl[12]? = some (RX12, TX12, 69) from rfl) (by decide) xin_X12 xw_34)
  · exact (xr_bipush dX12_copies_160 (by decide +kernel))
  · exact (⟨by decide, xr_iloadn dX12_copies_162 rfl⟩)
  · exact (fun x y h => xr_imul dX12_copies_163 x y)
  · exact (⟨by decide, xr_iloadn dX12_copies_164 rfl⟩)
  · exact (fun x y h => xr_iadd dX12_copies_165 x y)
  · exact (⟨by decide, xr_iald dX12_copies_166⟩)
  · exact (xr_iast dX12_copies_167)
  · exact (xr_iinc dX12_copies_168 (by decide +kernel))
  · exact (xr_goto dX12_copies_171 (by decide))
  · exact (xr_iconst dX12_copies_174 (by decide +kernel))
  · exact (⟨by decide, xr_istoren dX12_copies_175 rfl⟩)
  · exact (⟨by decide, xr_iloadn dX12_copies_176 rfl⟩)
  · exact (xr_bipush dX12_copies_177 (by decide +kernel))
  · exact (xr_icmpge dX12_copies_179 (by decide))
  · exact (⟨by decide, xr_aloadn dX12_copies_182 rfl⟩)
  · exact (xr_getf dX12_copies_183 (show vwCl[12]? = some (RX12, TX12, 69) from rfl) (by decide) xin_X12 xw_35)
  · exact (xr_bipush dX12_copies_186 (by decide +kernel))
  · exact (⟨by decide, xr_iloadn dX12_copies_188 rfl⟩)
  · exact (fun x y h => xr_imul dX12_copies_189 x y)
  · exact (⟨by decide, xr_iloadn dX12_copies_190 rfl⟩)
  · exact (fun x y h => xr_iadd dX12_copies_191 x y)
  · exact (⟨by decide, xr_aloadn dX12_copies_192 rfl⟩)
  · exact (xr_getf dX12_copies_193 (show vwCl[12]? = some (RX12, TX12, 69) from rfl) (by decide) xin_X12 xw_35)
  · exact (xr_bipush dX12_copies_196 (by decide +kernel))
  · exact (⟨by decide, xr_iloadn dX12_copies_198 rfl⟩)
  · exact (fun x y h => xr_imul dX12_copies_199 x y)
  · exact (⟨by decide, xr_iloadn dX12_copies_200 rfl⟩)
  · exact (fun x y h => xr_iadd dX12_copies_201 x y)
  · exact (⟨by decide, xr_iald dX12_copies_202⟩)
  · exact (xr_iast dX12_copies_203)
  · exact (⟨by decide, xr_aloadn dX12_copies_204 rfl⟩)
  · exact (xr_getf dX12_copies_205 (show vwCl[12]? = some (RX12, TX12, 69) from rfl) (by decide) xin_X12 xw_37)
  · exact (xr_bipush dX12_copies_208 (by decide +kernel))
  · exact (⟨by decide, xr_iloadn dX12_copies_210 rfl⟩)
  · exact (fun x y h => xr_imul dX12_copies_211 x y)
  · exact (⟨by decide, xr_iloadn dX12_copies_212 rfl⟩)
  · exact (fun x y h => xr_iadd dX12_copies_213 x y)
  · exact (⟨by decide, xr_aloadn dX12_copies_214 rfl⟩)
  · exact (xr_getf dX12_copies_215 (show vwCl[12]? = some (RX12, TX12, 69) from rfl) (by decide) xin_X12 xw_37)
  · exact (xr_bipush dX12_copies_218 (by decide +kernel))
  · exact (⟨by decide, xr_iloadn dX12_copies_220 rfl⟩)
  · exact (fun x y h => xr_imul dX12_copies_221 x y)
  · exact (⟨by decide, xr_iloadn dX12_copies_222 rfl⟩)
  · exact (fun x y h => xr_iadd dX12_copies_223 x y)
  · exact (⟨by decide, xr_iald dX12_copies_224⟩)
  · exact (xr_iast dX12_copies_225)
  · exact (⟨by decide, xr_aloadn dX12_copies_226 rfl⟩)
  · exact (xr_getf dX12_copies_227 (show vwCl[12]? = some (RX12, TX12, 69) from rfl) (by decide) xin_X12 xw_38)
  · exact (xr_bipush dX12_copies_230 (by decide +kernel))
  · exact (⟨by decide, xr_iloadn dX12_copies_232 rfl⟩)
  · exact (fun x y h => xr_imul dX12_copies_233 x y)
  · exact (⟨by decide, xr_iloadn dX12_copies_234 rfl⟩)
  · exact (fun x y h => xr_iadd dX12_copies_235 x y)
  · exact (⟨by decide, xr_aloadn dX12_copies_236 rfl⟩)
  · exact (xr_getf dX12_copies_237 (show vwCl[12]? = some (RX12, TX12, 69) from rfl) (by decide) xin_X12 xw_38)
  · exact (xr_bipush dX12_copies_240 (by decide +kernel))
  · exact (⟨by decide, xr_iloadn dX12_copies_242 rfl⟩)
  · exact (fun x y h => xr_imul dX12_copies_243 x y)
  · exact (⟨by decide, xr_iloadn dX12_copies_244 rfl⟩)
  · exact (fun x y h => xr_iadd dX12_copies_245 x y)
  · exact (⟨by decide, xr_iald dX12_copies_246⟩)
  · exact (xr_iast dX12_copies_247)
  · exact (xr_iinc dX12_copies_248 (by decide +kernel))
  · exact (xr_goto dX12_copies_251 (by decide))
  · exact (⟨dX12_copies_254, rfl⟩)
theorem xmo_9 : xMok xmt xm_9 := ⟨xw_80, xw_58, ⟨by decide, by decide, by decide +kernel⟩, by decide +kernel, rfl, xo_9⟩
theorem xo_10 : ∀ q ∈ xk_10, xok xmt xm_10 q.1 q.2 := by
  refine xcns ?_ <| xcns ?_ <| xcns ?_ <| xcns ?_ <| xcns ?_ <| xcns ?_ <| xcns ?_ <| xcns ?_ <| xcns ?_ <| xcns ?_ <| xcns ?_ <| xcns ?_ <| xcns ?_ <| xcns ?_ <| xcns ?_ <| xcns ?_ <| xcns ?_ <| xcns ?_ <| xcns ?_ <| xcns ?_ <| xcns ?_ <| xcns ?_ <| xcns ?_ <| xcns ?_ <| xcns ?_ <| xcns ?_ <| xcns ?_ <| xcns ?_ <| xcns ?_ <| xcns ?_ <| xcns ?_ <| xcns ?_ <| xcns ?_ <| xcns ?_ <| xcns ?_ <| xcns ?_ <| xcns ?_ <| xcns ?_ <| xcns ?_ <| xcns ?_ <| xcns ?_ <| xcns ?_ <| xcns ?_ <| xcns ?_ <| xcns ?_ <| xcns ?_ <| xcns ?_ <| xcns ?_ <| xcns ?_ <| xcns ?_ <| xcns ?_ <| xcns ?_ <| xcns ?_ <| xcns ?_ <| xcns ?_ <| xcns ?_ <| xcns ?_ <| xcns ?_ <| xcns ?_ <| xcns ?_ <| xcns ?_ <| xcns ?_ <| xcns ?_ <| xcns ?_ <| xcns ?_ <| xcns ?_ <| xcns ?_ <| xcns ?_ <| xcns ?_ <| xcns ?_ <| xcns ?_ <| xcns ?_ <| xcns ?_ <| xcns ?_ <| xcns ?_ <| xcns ?_ <| xcns ?_ <| xcns ?_ <| xcns ?_ <| xcns ?_ <| xcns ?_ <| xcns ?_ <| xcns ?_ <| xcns ?_ <| xcns ?_ <| xcns ?_ <| xcns ?_ <| xcns ?_ <| xcns ?_ <| xnl
  · exact (⟨by decide, xr_aloadn dX12_count_0 rfl⟩)
  · exact (xr_iconst dX12_count_1 (by decide +kernel))
  · exact (⟨.int, false, 0, rfl, xr_putf dX12_count_2 (show vwCl[12]? = some (RX12, TX12, 69) from rfl) (by decide) xin_X12 tyX12_ok nmX12 xw_60 rfl (rfl : tyX12 0 = .int), fun h => (by cases h)⟩)
  · exact (xr_iconst dX12_count_5 (by decide +kernel))
  · exact (⟨by decide, xr_istoren dX12_count_6 rfl⟩)
  · exact (⟨by decide, xr_iloadn dX12_count_7 rfl⟩)
  · exact (xr_table dX12_count_8 (by decide) (by decide) (by decide))
  · exact (⟨by decide, xr_aloadn dX12_count_72 rfl⟩)
  · exact (xr_getf dX12_count_73 (show vwCl[12]? = some (RX12, TX12, 69) from rfl) (by decide) xin_X12 xw_4)
  · exact (xr_iconst dX12_count_76 (by decide +kernel))
  · exact (⟨by decide, xr_iald dX12_count_77⟩)
  · exact (⟨dX12_count_78, .int, rfl, rfl, Or.inl rfl⟩)
  · exact (⟨by decide, xr_aloadn dX12_count_79 rfl⟩)
  · exact (xr_getf dX12_count_80 (show vwCl[12]? = some (RX12, TX12, 69) from rfl) (by decide) xin_X12 xw_4)
  · exact (xr_iconst dX12_count_83 (by decide +kernel))
  · exact (⟨by decide, xr_iald dX12_count_84⟩)
  · exact (⟨dX12_count_85, .int, rfl, rfl, Or.inl rfl⟩)
  · exact (⟨by decide, xr_aloadn dX12_count_86 rfl⟩)
  · exact (xr_getf dX12_count_87 (show vwCl[12]? = some (RX12, TX12, 69) from rfl) (by decide) xin_X12 xw_4)
  · exact (xr_iconst dX12_count_90 (by decide +kernel))
  · exact (⟨by decide, xr_iald dX12_count_91⟩)
  · exact (⟨dX12_count_92, .int, rfl, rfl, Or.inl rfl⟩)
  · exact (⟨by decide, xr_aloadn dX12_count_93 rfl⟩)
  · exact (xr_getf dX12_count_94 (show vwCl[12]? = some (RX12, TX12, 69) from rfl) (by decide) xin_X12 xw_4)
  · exact (xr_iconst dX12_count_97 (by decide +kernel))
  · exact (⟨by decide, xr_iald dX12_count_98⟩)
  · exact (⟨dX12_count_99, .int, rfl, rfl, Or.inl rfl⟩)
  · exact (⟨by decide, xr_aloadn dX12_count_100 rfl⟩)
  · exact (xr_getf dX12_count_101 (show vwCl[12]? = some (RX12, TX12, 69) from rfl) (by decide) xin_X12 xw_4)
  · exact (xr_bipush dX12_count_104 (by decide +kernel))
  · exact (⟨by decide, xr_iald dX12_count_106⟩)
  · exact (⟨dX12_count_107, .int, rfl, rfl, Or.inl rfl⟩)
  · exact (⟨by decide, xr_aloadn dX12_count_108 rfl⟩)
  · exact (xr_getf dX12_count_109 (show vwCl[12]? = some (RX12, TX12, 69) from rfl) (by decide) xin_X12 xw_27)
  · exact (xr_iconst dX12_count_112 (by decide +kernel))
  · exact (⟨by decide, xr_iald dX12_count_113⟩)
  · exact (⟨dX12_count_114, .int, rfl, rfl, Or.inl rfl⟩)
  · exact (⟨by decide, xr_aloadn dX12_count_115 rfl⟩)
  · exact (xr_getf dX12_count_116 (show vwCl[12]? = some (RX12, TX12, 69) from rfl) (by decide) xin_X12 xw_28)
  · exact (xr_iconst dX12_count_119 (by decide +kernel))
  · exact (⟨by decide, xr_iald dX12_count_120⟩)
  · exact (⟨dX12_count_121, .int, rfl, rfl, Or.inl rfl⟩)
  · exact (⟨by decide, xr_aloadn dX12_count_122 rfl⟩)
  · exact (xr_getf dX12_count_123 (show vwCl[12]? = some (RX12, TX12, 69) from rfl) (by decide) xin_X12 xw_36)
  · exact (xr_iconst dX12_count_126 (by decide +kernel))
  · exact (⟨by decide, xr_iald dX12_count_127⟩)
  · exact (⟨dX12_count_128, .int, rfl, rfl, Or.inl rfl⟩)
  · exact (⟨by decide, xr_aloadn dX12_count_129 rfl⟩)
  · exact (xr_getf dX12_count_130 (show vwCl[12]? = some (RX12, TX12, 69) from rfl) (by decide) xin_X12 xw_81)
  · exact (⟨dX12_count_133, .int, rfl, rfl, Or.inl rfl⟩)
  · exact (⟨by decide, xr_aloadn dX12_count_134 rfl⟩)
  · exact (⟨rfl, _, rfl, ⟨467, dX12_count_135, xw_84, xw_82, xw_83⟩, _, rfl, rfl⟩)
  · exact (⟨dX12_count_138, .int, rfl, rfl, Or.inl rfl⟩)
  · exact (⟨by decide, xr_aloadn dX12_count_139 rfl⟩)
  · exact (xr_getf dX12_count_140 (show vwCl[12]? = some (RX12, TX12, 69) from rfl) (by decide) xin_X12 xw_31)
  · exact (xr_iconst dX12_count_143 (by decide +kernel))
  · exact (⟨by decide, xr_iald dX12_count_144⟩)
  · exact (⟨rfl, _, rfl, ⟨485, dX12_count_145, xw_85, xw_86⟩⟩)
  · exact (⟨dX12_count_148, .int, rfl, rfl, Or.inl rfl⟩)
  · exact (xr_iconst dX12_count_149 (by decide +kernel))
  · exact (⟨by decide, xr_istoren dX12_count_150 rfl⟩)
  · exact (⟨by decide, xr_iloadn dX12_count_151 rfl⟩)
  · exact (⟨by decide, xr_aloadn dX12_count_152 rfl⟩)
  · exact (xr_getf dX12_count_153 (show vwCl[12]? = some (RX12, TX12, 69) from rfl) (by decide) xin_X12 xw_4)
  · exact (xr_iconst dX12_count_156 (by decide +kernel))
  · exact (⟨by decide, xr_iald dX12_count_157⟩)
  · exact (xr_icmpge dX12_count_158 (by decide))
  · exact (xr_iconst dX12_count_176 (by decide +kernel))
  · exact (⟨by decide, xr_istoren dX12_count_177 rfl⟩)
  · exact (⟨by decide, xr_iloadn dX12_count_178 rfl⟩)
  · exact (⟨by decide, xr_aloadn dX12_count_179 rfl⟩)
  · exact (xr_getf dX12_count_180 (show vwCl[12]? = some (RX12, TX12, 69) from rfl) (by decide) xin_X12 xw_4)
  · exact (xr_iconst dX12_count_183 (by decide +kernel))
  · exact (⟨by decide, xr_iald dX12_count_184⟩)
  · exact (xr_icmpge dX12_count_185 (by decide))
  · exact (⟨by decide, xr_iloadn dX12_count_203 rfl⟩)
  · exact (⟨by decide, xr_aloadn dX12_count_204 rfl⟩)
  · exact (xr_getf dX12_count_205 (show vwCl[12]? = some (RX12, TX12, 69) from rfl) (by decide) xin_X12 xw_28)
  · exact (xr_iconst dX12_count_208 (by decide +kernel))
  · exact (⟨by decide, xr_iald dX12_count_209⟩)
  · exact (fun x y h => xr_iadd dX12_count_210 x y)
  · exact (⟨by decide, xr_aloadn dX12_count_211 rfl⟩)
  · exact (xr_getf dX12_count_212 (show vwCl[12]? = some (RX12, TX12, 69) from rfl) (by decide) xin_X12 xw_30)
  · exact (xr_iconst dX12_count_215 (by decide +kernel))
  · exact (⟨by decide, xr_iald dX12_count_216⟩)
  · exact (fun x y h => xr_iadd dX12_count_217 x y)
  · exact (⟨dX12_count_218, .int, rfl, rfl, Or.inl rfl⟩)
  · exact (xr_iconst dX12_count_219 (by decide +kernel))
  · exact (⟨dX12_count_220, .int, rfl, rfl, Or.inl rfl⟩)
theorem xmo_10 : xMok xmt xm_10 := ⟨xw_87, xw_58, ⟨by decide, by decide, by decide +kernel⟩, by decide +kernel, rfl, xo_10⟩
end
section
theorem xo_11 : ∀ q ∈ xk_11, xok xmt xm_11 q.1 q.2 := by
  refine xcns ?_ <| xcns ?_ <| xcns ?_ <| xcns ?_ <| xcns ?_ <| xcns ?_ <| xcns ?_ <| xcns ?_ <| xcns ?_ <| xnl
  · exact (⟨by decide, xr_aloadn dX12_cracks_0 rfl⟩)
  · exact (xr_iconst dX12_cracks_1 (by decide +kernel))
  · exact (⟨.int, false, 0, rfl, xr_putf dX12_cracks_2 (show vwCl[12]? = some (RX12, TX12, 69) from rfl) (by decide) xin_X12 tyX12_ok nmX12 xw_60 rfl (rfl : tyX12 0 = .int), fun h => (by cases h)⟩)
  · exact (⟨by decide, xr_aloadn dX12_cracks_5 rfl⟩)
  · exact (⟨by decide, xr_iloadn dX12_cracks_6 rfl⟩)
  · exact (⟨rfl, _, rfl, ⟨335, dX12_cracks_7, xw_90, xw_88, xw_89⟩, _, rfl, rfl⟩)
  · exact (xr_ifeq dX12_cracks_10 (by decide))
  · exact (xr_iconst dX12_cracks_22 (by decide +kernel))
  · exact (⟨dX12_cracks_23, .int, rfl, rfl, Or.inl rfl⟩)
theorem xmo_11 : xMok xmt xm_11 := ⟨xw_91, xw_58, ⟨by decide, by decide, by decide +kernel⟩, by decide +kernel, rfl, xo_11⟩
theorem xo_12 : ∀ q ∈ xk_12, xok xmt xm_12 q.1 q.2 := by
  refine xcns ?_ <| xcns ?_ <| xcns ?_ <| xcns ?_ <| xcns ?_ <| xcns ?_ <| xcns ?_ <| xcns ?_ <| xcns ?_ <| xcns ?_ <| xnl
  · exact (⟨by decide, xr_aloadn dX12_due_0 rfl⟩)
  · exact (xr_iconst dX12_due_1 (by decide +kernel))
  · exact (⟨.int, false, 0, rfl, xr_putf dX12_due_2 (show vwCl[12]? = some (RX12, TX12, 69) from rfl) (by decide) xin_X12 tyX12_ok nmX12 xw_60 rfl (rfl : tyX12 0 = .int), fun h => (by cases h)⟩)
  · exact (⟨by decide, xr_aloadn dX12_due_5 rfl⟩)
  · exact (⟨by decide, xr_iloadn dX12_due_6 rfl⟩)
  · exact (⟨by decide, xr_iloadn dX12_due_7 rfl⟩)
  · exact (⟨rfl, _, rfl, ⟨344, dX12_due_8, xw_78, xw_76, xw_77⟩, _, rfl, rfl⟩)
  · exact (xr_ifeq dX12_due_11 (by decide))
  · exact (xr_iconst dX12_due_35 (by decide +kernel))
  · exact (⟨dX12_due_36, .int, rfl, rfl, Or.inl rfl⟩)
theorem xmo_12 : xMok xmt xm_12 := ⟨xw_92, xw_58, ⟨by decide, by decide, by decide +kernel⟩, by decide +kernel, rfl, xo_12⟩
theorem xo_13 : ∀ q ∈ xk_13, xok xmt xm_13 q.1 q.2 := by
  refine xcns ?_ <| xcns ?_ <| xcns ?_ <| xcns ?_ <| xcns ?_ <| xcns ?_ <| xcns ?_ <| xcns ?_ <| xcns ?_ <| xcns ?_ <| xcns ?_ <| xcns ?_ <| xcns ?_ <| xcns ?_ <| xcns ?_ <| xcns ?_ <| xcns ?_ <| xcns ?_ <| xcns ?_ <| xcns ?_ <| xcns ?_ <| xcns ?_ <| xcns ?_ <| xcns ?_ <| xcns ?_ <| xcns ?_ <| xcns ?_ <| xcns ?_ <| xcns ?_ <| xcns ?_ <| xcns ?_ <| xcns ?_ <| xcns ?_ <| xcns ?_ <| xcns ?_ <| xcns ?_ <| xcns ?_ <| xnl
  · exact (⟨by decide, xr_aloadn dX12_easter_0 rfl⟩)
  · exact (xr_iconst dX12_easter_1 (by decide +kernel))
  · exact (⟨.int, false, 0, rfl, xr_putf dX12_easter_2 (show vwCl[12]? = some (RX12, TX12, 69) from rfl) (by decide) xin_X12 tyX12_ok nmX12 xw_60 rfl (rfl : tyX12 0 = .int), fun h => (by cases h)⟩)
  · exact (⟨by decide, xr_aloadn dX12_easter_5 rfl⟩)
  · exact (⟨by decide, xr_iloadn dX12_easter_6 rfl⟩)
  · exact (⟨rfl, _, rfl, ⟨461, dX12_easter_7, xw_95, xw_93, xw_94⟩, _, rfl, rfl⟩)
  · exact (xr_ifne dX12_easter_10 (by decide))
  · exact (xr_iconst dX12_easter_13 (by decide +kernel))
  · exact (⟨dX12_easter_14, .int, rfl, rfl, Or.inl rfl⟩)
  · exact (⟨by decide, xr_aloadn dX12_easter_15 rfl⟩)
  · exact (⟨by decide, xr_iloadn dX12_easter_16 rfl⟩)
  · exact (⟨by decide, xr_aloadn dX12_easter_17 rfl⟩)
  · exact (xr_getf dX12_easter_18 (show vwCl[12]? = some (RX12, TX12, 69) from rfl) (by decide) xin_X12 xw_4)
  · exact (xr_iconst dX12_easter_21 (by decide +kernel))
  · exact (⟨by decide, xr_iald dX12_easter_22⟩)
  · exact (xr_iconst dX12_easter_23 (by decide +kernel))
  · exact (fun x y h => xr_isub dX12_easter_24 x y)
  · exact (⟨rfl, _, rfl, ⟨464, dX12_easter_25, xw_98, xw_96, xw_97⟩, _, rfl, rfl⟩)
  · exact (⟨by decide, xr_istoren dX12_easter_28 rfl⟩)
  · exact (xr_iconst dX12_easter_29 (by decide +kernel))
  · exact (⟨by decide, xr_istoren dX12_easter_30 rfl⟩)
  · exact (⟨by decide, xr_iloadn dX12_easter_31 rfl⟩)
  · exact (⟨by decide, xr_aloadn dX12_easter_32 rfl⟩)
  · exact (xr_getf dX12_easter_33 (show vwCl[12]? = some (RX12, TX12, 69) from rfl) (by decide) xin_X12 xw_4)
  · exact (xr_iconst dX12_easter_36 (by decide +kernel))
  · exact (⟨by decide, xr_iald dX12_easter_37⟩)
  · exact (xr_icmpge dX12_easter_38 (by decide))
  · exact (⟨by decide, xr_aloadn dX12_easter_59 rfl⟩)
  · exact (xr_getf dX12_easter_60 (show vwCl[12]? = some (RX12, TX12, 69) from rfl) (by decide) xin_X12 xw_28)
  · exact (xr_iconst dX12_easter_63 (by decide +kernel))
  · exact (fun v w h h2 => xr_dup2 dX12_easter_64 v w h h2)
  · exact (⟨by decide, xr_iald dX12_easter_65⟩)
  · exact (⟨by decide, xr_iloadn dX12_easter_66 rfl⟩)
  · exact (fun x y h => xr_iadd dX12_easter_67 x y)
  · exact (xr_iast dX12_easter_68)
  · exact (⟨by decide, xr_iloadn dX12_easter_69 rfl⟩)
  · exact (⟨dX12_easter_70, .int, rfl, rfl, Or.inl rfl⟩)
theorem xmo_13 : xMok xmt xm_13 := ⟨xw_99, xw_58, ⟨by decide, by decide, by decide +kernel⟩, by decide +kernel, rfl, xo_13⟩
theorem xo_14 : ∀ q ∈ xk_14, xok xmt xm_14 q.1 q.2 := by
  refine xcns ?_ <| xcns ?_ <| xcns ?_ <| xcns ?_ <| xcns ?_ <| xcns ?_ <| xcns ?_ <| xcns ?_ <| xcns ?_ <| xcns ?_ <| xnl
  · exact (⟨by decide, xr_aloadn dX12_entry_0 rfl⟩)
  · exact (xr_iconst dX12_entry_1 (by decide +kernel))
  · exact (⟨.int, false, 0, rfl, xr_putf dX12_entry_2 (show vwCl[12]? = some (RX12, TX12, 69) from rfl) (by decide) xin_X12 tyX12_ok nmX12 xw_60 rfl (rfl : tyX12 0 = .int), fun h => (by cases h)⟩)
  · exact (⟨by decide, xr_aloadn dX12_entry_5 rfl⟩)
  · exact (⟨by decide, xr_iloadn dX12_entry_6 rfl⟩)
  · exact (⟨by decide, xr_iloadn dX12_entry_7 rfl⟩)
  · exact (⟨rfl, _, rfl, ⟨344, dX12_entry_8, xw_78, xw_76, xw_77⟩, _, rfl, rfl⟩)
  · exact (xr_ifeq dX12_entry_11 (by decide))
  · exact (xr_iconst dX12_entry_34 (by decide +kernel))
  · exact (⟨dX12_entry_35, .int, rfl, rfl, Or.inl rfl⟩)
theorem xmo_14 : xMok xmt xm_14 := ⟨xw_100, xw_58, ⟨by decide, by decide, by decide +kernel⟩, by decide +kernel, rfl, xo_14⟩
theorem xo_15 : ∀ q ∈ xk_15, xok xmt xm_15 q.1 q.2 := by
  refine xcns ?_ <| xcns ?_ <| xcns ?_ <| xcns ?_ <| xcns ?_ <| xcns ?_ <| xcns ?_ <| xcns ?_ <| xcns ?_ <| xcns ?_ <| xcns ?_ <| xcns ?_ <| xcns ?_ <| xcns ?_ <| xcns ?_ <| xcns ?_ <| xnl
  · exact (⟨by decide, xr_aloadn dX12_fault_0 rfl⟩)
  · exact (xr_iconst dX12_fault_1 (by decide +kernel))
  · exact (⟨.int, false, 0, rfl, xr_putf dX12_fault_2 (show vwCl[12]? = some (RX12, TX12, 69) from rfl) (by decide) xin_X12 tyX12_ok nmX12 xw_60 rfl (rfl : tyX12 0 = .int), fun h => (by cases h)⟩)
  · exact (⟨by decide, xr_iloadn dX12_fault_5 rfl⟩)
  · exact (xr_ifne dX12_fault_6 (by decide))
  · exact (⟨by decide, xr_aloadn dX12_fault_9 rfl⟩)
  · exact (xr_getf dX12_fault_10 (show vwCl[12]? = some (RX12, TX12, 69) from rfl) (by decide) xin_X12 xw_101)
  · exact (xr_goto dX12_fault_13 (by decide))
  · exact (⟨by decide, xr_iloadn dX12_fault_16 rfl⟩)
  · exact (xr_iconst dX12_fault_17 (by decide +kernel))
  · exact (xr_icmpne dX12_fault_18 (by decide))
  · exact (⟨by decide, xr_aloadn dX12_fault_21 rfl⟩)
  · exact (xr_getf dX12_fault_22 (show vwCl[12]? = some (RX12, TX12, 69) from rfl) (by decide) xin_X12 xw_26)
  · exact (xr_goto dX12_fault_25 (by decide))
  · exact (xr_iconst dX12_fault_28 (by decide +kernel))
  · exact (⟨dX12_fault_29, .int, rfl, rfl, Or.inl rfl⟩)
theorem xmo_15 : xMok xmt xm_15 := ⟨xw_102, xw_58, ⟨by decide, by decide, by decide +kernel⟩, by decide +kernel, rfl, xo_15⟩
theorem xo_16 : ∀ q ∈ xk_16, xok xmt xm_16 q.1 q.2 := by
  refine xcns ?_ <| xcns ?_ <| xcns ?_ <| xcns ?_ <| xcns ?_ <| xcns ?_ <| xcns ?_ <| xcns ?_ <| xcns ?_ <| xcns ?_ <| xcns ?_ <| xcns ?_ <| xcns ?_ <| xcns ?_ <| xcns ?_ <| xcns ?_ <| xcns ?_ <| xcns ?_ <| xcns ?_ <| xcns ?_ <| xcns ?_ <| xcns ?_ <| xcns ?_ <| xcns ?_ <| xcns ?_ <| xcns ?_ <| xcns ?_ <| xcns ?_ <| xcns ?_ <| xcns ?_ <| xcns ?_ <| xcns ?_ <| xcns ?_ <| xcns ?_ <| xcns ?_ <| xcns ?_ <| xcns ?_ <| xcns ?_ <| xcns ?_ <| xcns ?_ <| xcns ?_ <| xcns ?_ <| xcns ?_ <| xcns ?_ <| xcns ?_ <| xcns ?_ <| xcns ?_ <| xcns ?_ <| xcns ?_ <| xcns ?_ <| xcns ?_ <| xcns ?_ <| xcns ?_ <| xcns ?_ <| xcns ?_ <| xcns ?_ <| xcns ?_ <| xcns ?_ <| xcns ?_ <| xcns ?_ <| xcns ?_ <| xcns ?_ <| xcns ?_ <| xnl
  · exact (⟨by decide, xr_aloadn dX12_feed_0 rfl⟩)
  · exact (xr_iconst dX12_feed_1 (by decide +kernel))
  · exact (⟨.int, false, 0, rfl, xr_putf dX12_feed_2 (show vwCl[12]? = some (RX12, TX12, 69) from rfl) (by decide) xin_X12 tyX12_ok nmX12 xw_60 rfl (rfl : tyX12 0 = .int), fun h => (by cases h)⟩)
  · exact (⟨by decide, xr_aloadn dX12_feed_5 rfl⟩)
  · exact (xr_getf dX12_feed_6 (show vwCl[12]? = some (RX12, TX12, 69) from rfl) (by decide) xin_X12 xw_103)
  · exact (xr_sipush dX12_feed_9 (by decide +kernel))
  · exact (xr_icmple dX12_feed_12 (by decide))
  · exact (xr_iconst dX12_feed_17 (by decide +kernel))
  · exact (⟨by decide, xr_istore dX12_feed_18⟩)
  · exact (⟨by decide, xr_iload dX12_feed_20⟩)
  · exact (xr_bipush dX12_feed_22 (by decide +kernel))
  · exact (xr_icmpge dX12_feed_24 (by decide))
  · exact (⟨by decide, xr_iload dX12_feed_27⟩)
  · exact (xr_iconst dX12_feed_29 (by decide +kernel))
  · exact (xr_icmpge dX12_feed_30 (by decide))
  · exact (⟨by decide, xr_iloadn dX12_feed_33 rfl⟩)
  · exact (xr_goto dX12_feed_34 (by decide))
  · exact (⟨by decide, xr_iload dX12_feed_37⟩)
  · exact (xr_bipush dX12_feed_39 (by decide +kernel))
  · exact (xr_icmpge dX12_feed_41 (by decide))
  · exact (⟨by decide, xr_iloadn dX12_feed_44 rfl⟩)
  · exact (xr_goto dX12_feed_45 (by decide))
  · exact (⟨by decide, xr_iload dX12_feed_48⟩)
  · exact (xr_bipush dX12_feed_50 (by decide +kernel))
  · exact (xr_icmpge dX12_feed_52 (by decide))
  · exact (⟨by decide, xr_iloadn dX12_feed_55 rfl⟩)
  · exact (xr_goto dX12_feed_56 (by decide))
  · exact (⟨by decide, xr_iload dX12_feed_59⟩)
  · exact (xr_bipush dX12_feed_61 (by decide +kernel))
  · exact (xr_icmpge dX12_feed_63 (by decide))
  · exact (⟨by decide, xr_iload dX12_feed_66⟩)
  · exact (xr_goto dX12_feed_68 (by decide))
  · exact (⟨by decide, xr_iload dX12_feed_71⟩)
  · exact (⟨by decide, xr_istore dX12_feed_73⟩)
  · exact (⟨by decide, xr_aloadn dX12_feed_75 rfl⟩)
  · exact (xr_getf dX12_feed_76 (show vwCl[12]? = some (RX12, TX12, 69) from rfl) (by decide) xin_X12 xw_3)
  · exact (⟨by decide, xr_aloadn dX12_feed_79 rfl⟩)
  · exact (xr_getf dX12_feed_80 (show vwCl[12]? = some (RX12, TX12, 69) from rfl) (by decide) xin_X12 xw_103)
  · exact (⟨by decide, xr_iload dX12_feed_83⟩)
  · exact (fun x y h => xr_iadd dX12_feed_85 x y)
  · exact (⟨by decide, xr_iload dX12_feed_86⟩)
  · exact (xr_bipush dX12_feed_88 (by decide +kernel))
  · exact (xr_bipush dX12_feed_90 (by decide +kernel))
  · exact (⟨by decide, xr_iload dX12_feed_92⟩)
  · exact (xr_iconst dX12_feed_94 (by decide +kernel))
  · exact (fun x y h => xr_irem dX12_feed_95 x y (h (Or.inr rfl)))
  · exact (fun x y h => xr_imul dX12_feed_96 x y)
  · exact (fun x y h => xr_isub dX12_feed_97 x y)
  · exact (fun x y h => xr_ishr dX12_feed_98 x y)
  · exact (xr_sipush dX12_feed_99 (by decide +kernel))
  · exact (fun x y h => xr_iand dX12_feed_102 x y)
  · exact (xr_iast dX12_feed_103)
  · exact (xr_iinc dX12_feed_104 (by decide +kernel))
  · exact (xr_goto dX12_feed_107 (by decide))
  · exact (⟨by decide, xr_aloadn dX12_feed_110 rfl⟩)
  · exact (fun v h => xr_dup dX12_feed_111 v h)
  · exact (xr_getf dX12_feed_112 (show vwCl[12]? = some (RX12, TX12, 69) from rfl) (by decide) xin_X12 xw_103)
  · exact (xr_bipush dX12_feed_115 (by decide +kernel))
  · exact (fun x y h => xr_iadd dX12_feed_117 x y)
  · exact (⟨.int, false, 0, rfl, xr_putf dX12_feed_118 (show vwCl[12]? = some (RX12, TX12, 69) from rfl) (by decide) xin_X12 tyX12_ok nmX12 xw_103 rfl (rfl : tyX12 2 = .int), fun h => (by cases h)⟩)
  · exact (⟨by decide, xr_aloadn dX12_feed_121 rfl⟩)
  · exact (xr_getf dX12_feed_122 (show vwCl[12]? = some (RX12, TX12, 69) from rfl) (by decide) xin_X12 xw_103)
  · exact (⟨dX12_feed_125, .int, rfl, rfl, Or.inl rfl⟩)
theorem xmo_16 : xMok xmt xm_16 := ⟨xw_104, xw_58, ⟨by decide, by decide, by decide +kernel⟩, by decide +kernel, rfl, xo_16⟩
theorem xo_17 : ∀ q ∈ xk_17, xok xmt xm_17 q.1 q.2 := by
  refine xcns ?_ <| xcns ?_ <| xcns ?_ <| xcns ?_ <| xcns ?_ <| xcns ?_ <| xcns ?_ <| xnl
  · exact (xr_iconst dX12_found_0 (by decide +kernel))
  · exact (⟨by decide, xr_istore dX12_found_1⟩)
  · exact (⟨by decide, xr_iload dX12_found_3⟩)
  · exact (⟨by decide, xr_iloadn dX12_found_5 rfl⟩)
  · exact (xr_icmpge dX12_found_6 (by decide))
  · exact (xr_iconst dX12_found_28 (by decide +kernel))
  · exact (⟨dX12_found_29, .int, rfl, rfl, Or.inl rfl⟩)
theorem xmo_17 : xMok xmt xm_17 := ⟨xw_105, xw_58, ⟨by decide, by decide, by decide +kernel⟩, by decide +kernel, rfl, xo_17⟩
theorem xo_18 : ∀ q ∈ xk_18, xok xmt xm_18 q.1 q.2 := by
  refine xcns ?_ <| xcns ?_ <| xcns ?_ <| xcns ?_ <| xcns ?_ <| xcns ?_ <| xcns ?_ <| xcns ?_ <| xcns ?_ <| xcns ?_ <| xcns ?_ <| xcns ?_ <| xcns ?_ <| xcns ?_ <| xcns ?_ <| xcns ?_ <| xcns ?_ <| xcns ?_ <| xcns ?_ <| xcns ?_ <| xcns ?_ <| xcns ?_ <| xcns ?_ <| xcns ?_ <| xcns ?_ <| xcns ?_ <| xcns ?_ <| xcns ?_ <| xcns ?_ <| xcns ?_ <| xnl
  · exact (⟨by decide, xr_aloadn dX12_gang_0 rfl⟩)
  · exact (xr_iconst dX12_gang_1 (by decide +kernel))
  · exact (⟨.int, false, 0, rfl, xr_putf dX12_gang_2 (show vwCl[12]? = some (RX12, TX12, 69) from rfl) (by decide) xin_X12 tyX12_ok nmX12 xw_60 rfl (rfl : tyX12 0 = .int), fun h => (by cases h)⟩)
  · exact (⟨by decide, xr_aloadn dX12_gang_5 rfl⟩)
  · exact (⟨rfl, _, rfl, ⟨473, dX12_gang_6, xw_108, xw_106, xw_107⟩, _, rfl, rfl⟩)
  · exact (xr_bipush dX12_gang_9 (by decide +kernel))
  · exact (⟨by decide, xr_istoren dX12_gang_11 rfl⟩)
  · exact (xr_iconst dX12_gang_12 (by decide +kernel))
  · exact (⟨by decide, xr_istoren dX12_gang_13 rfl⟩)
  · exact (⟨by decide, xr_iloadn dX12_gang_14 rfl⟩)
  · exact (xr_iconst dX12_gang_15 (by decide +kernel))
  · exact (⟨by decide, xr_aloadn dX12_gang_16 rfl⟩)
  · exact (xr_getf dX12_gang_17 (show vwCl[12]? = some (RX12, TX12, 69) from rfl) (by decide) xin_X12 xw_4)
  · exact (xr_iconst dX12_gang_20 (by decide +kernel))
  · exact (⟨by decide, xr_iald dX12_gang_21⟩)
  · exact (fun x y h => xr_ishl dX12_gang_22 x y)
  · exact (xr_icmpge dX12_gang_23 (by decide))
  · exact (⟨by decide, xr_iloadn dX12_gang_26 rfl⟩)
  · exact (xr_bipush dX12_gang_27 (by decide +kernel))
  · exact (xr_icmpeq dX12_gang_29 (by decide))
  · exact (⟨by decide, xr_aloadn dX12_gang_43 rfl⟩)
  · exact (⟨by decide, xr_iloadn dX12_gang_44 rfl⟩)
  · exact (⟨rfl, _, rfl, ⟨488, dX12_gang_45, xw_111, xw_109, xw_110⟩, _, rfl, rfl⟩)
  · exact (xr_ifeq dX12_gang_48 (by decide))
  · exact (⟨by decide, xr_iloadn dX12_gang_51 rfl⟩)
  · exact (⟨by decide, xr_istoren dX12_gang_52 rfl⟩)
  · exact (xr_iinc dX12_gang_53 (by decide +kernel))
  · exact (xr_goto dX12_gang_56 (by decide))
  · exact (⟨by decide, xr_iloadn dX12_gang_59 rfl⟩)
  · exact (⟨dX12_gang_60, .int, rfl, rfl, Or.inl rfl⟩)
theorem xmo_18 : xMok xmt xm_18 := ⟨xw_112, xw_58, ⟨by decide, by decide, by decide +kernel⟩, by decide +kernel, rfl, xo_18⟩
theorem xo_19 : ∀ q ∈ xk_19, xok xmt xm_19 q.1 q.2 := by
  refine xcns ?_ <| xcns ?_ <| xcns ?_ <| xcns ?_ <| xcns ?_ <| xcns ?_ <| xcns ?_ <| xcns ?_ <| xcns ?_ <| xcns ?_ <| xcns ?_ <| xcns ?_ <| xcns ?_ <| xcns ?_ <| xcns ?_ <| xcns ?_ <| xcns ?_ <| xcns ?_ <| xcns ?_ <| xcns ?_ <| xcns ?_ <| xnl
  · exact (⟨by decide, xr_aloadn dX12_half_0 rfl⟩)
  · exact (xr_alen dX12_half_1)
  · exact (xr_iconst dX12_half_2 (by decide +kernel))
  · exact (fun x y h => xr_idiv dX12_half_3 x y (h (Or.inl rfl)))
  · exact (⟨by decide, xr_istoren dX12_half_4 rfl⟩)
  · exact (xr_iconst dX12_half_5 (by decide +kernel))
  · exact (⟨by decide, xr_istoren dX12_half_6 rfl⟩)
  · exact (⟨by decide, xr_iloadn dX12_half_7 rfl⟩)
  · exact (⟨by decide, xr_iloadn dX12_half_8 rfl⟩)
  · exact (xr_icmpge dX12_half_9 (by decide))
  · exact (⟨by decide, xr_aloadn dX12_half_12 rfl⟩)
  · exact (⟨by decide, xr_iloadn dX12_half_13 rfl⟩)
  · exact (⟨by decide, xr_aloadn dX12_half_14 rfl⟩)
  · exact (⟨by decide, xr_iloadn dX12_half_15 rfl⟩)
  · exact (⟨by decide, xr_iloadn dX12_half_16 rfl⟩)
  · exact (fun x y h => xr_iadd dX12_half_17 x y)
  · exact (⟨by decide, xr_iald dX12_half_18⟩)
  · exact (xr_iast dX12_half_19)
  · exact (xr_iinc dX12_half_20 (by decide +kernel))
  · exact (xr_goto dX12_half_23 (by decide))
  · exact (⟨dX12_half_26, rfl⟩)
theorem xmo_19 : xMok xmt xm_19 := ⟨xw_113, xw_58, ⟨by decide, by decide, by decide +kernel⟩, by decide +kernel, rfl, xo_19⟩
theorem xo_20 : ∀ q ∈ xk_20, xok xmt xm_20 q.1 q.2 := by
  refine xcns ?_ <| xcns ?_ <| xcns ?_ <| xcns ?_ <| xcns ?_ <| xcns ?_ <| xcns ?_ <| xnl
  · exact (⟨by decide, xr_aloadn dX12_here_0 rfl⟩)
  · exact (xr_getf dX12_here_1 (show vwCl[12]? = some (RX12, TX12, 69) from rfl) (by decide) xin_X12 xw_114)
  · exact (⟨by decide, xr_aloadn dX12_here_4 rfl⟩)
  · exact (xr_getf dX12_here_5 (show vwCl[12]? = some (RX12, TX12, 69) from rfl) (by decide) xin_X12 xw_115)
  · exact (xr_icmpge dX12_here_8 (by decide))
  · exact (xr_iconst dX12_here_23 (by decide +kernel))
  · exact (⟨dX12_here_24, .int, rfl, rfl, Or.inl rfl⟩)
theorem xmo_20 : xMok xmt xm_20 := ⟨xw_116, xw_58, ⟨by decide, by decide, by decide +kernel⟩, by decide +kernel, rfl, xo_20⟩
theorem xo_21 : ∀ q ∈ xk_21, xok xmt xm_21 q.1 q.2 := by
  refine xcns ?_ <| xcns ?_ <| xcns ?_ <| xcns ?_ <| xcns ?_ <| xcns ?_ <| xcns ?_ <| xcns ?_ <| xcns ?_ <| xcns ?_ <| xcns ?_ <| xcns ?_ <| xcns ?_ <| xcns ?_ <| xcns ?_ <| xcns ?_ <| xcns ?_ <| xcns ?_ <| xcns ?_ <| xcns ?_ <| xcns ?_ <| xcns ?_ <| xcns ?_ <| xcns ?_ <| xcns ?_ <| xcns ?_ <| xcns ?_ <| xcns ?_ <| xcns ?_ <| xcns ?_ <| xcns ?_ <| xcns ?_ <| xcns ?_ <| xcns ?_ <| xcns ?_ <| xcns ?_ <| xcns ?_ <| xcns ?_ <| xnl
  · exact (⟨by decide, xr_aloadn dX12_hum_0 rfl⟩)
  · exact (xr_iconst dX12_hum_1 (by decide +kernel))
  · exact (⟨.int, false, 0, rfl, xr_putf dX12_hum_2 (show vwCl[12]? = some (RX12, TX12, 69) from rfl) (by decide) xin_X12 tyX12_ok nmX12 xw_60 rfl (rfl : tyX12 0 = .int), fun h => (by cases h)⟩)
  · exact (⟨by decide, xr_iloadn dX12_hum_5 rfl⟩)
  · exact (xr_iconst dX12_hum_6 (by decide +kernel))
  · exact (xr_icmplt dX12_hum_7 (by decide))
  · exact (⟨by decide, xr_iloadn dX12_hum_10 rfl⟩)
  · exact (xr_bipush dX12_hum_11 (by decide +kernel))
  · exact (xr_icmpgt dX12_hum_13 (by decide))
  · exact (⟨by decide, xr_aloadn dX12_hum_16 rfl⟩)
  · exact (xr_getf dX12_hum_17 (show vwCl[12]? = some (RX12, TX12, 69) from rfl) (by decide) xin_X12 xw_81)
  · exact (xr_bipush dX12_hum_20 (by decide +kernel))
  · exact (xr_icmpne dX12_hum_22 (by decide))
  · exact (xr_iconst dX12_hum_25 (by decide +kernel))
  · exact (⟨dX12_hum_26, .int, rfl, rfl, Or.inl rfl⟩)
  · exact (⟨by decide, xr_aloadn dX12_hum_27 rfl⟩)
  · exact (xr_getf dX12_hum_28 (show vwCl[12]? = some (RX12, TX12, 69) from rfl) (by decide) xin_X12 xw_49)
  · exact (⟨by decide, xr_aloadn dX12_hum_31 rfl⟩)
  · exact (xr_getf dX12_hum_32 (show vwCl[12]? = some (RX12, TX12, 69) from rfl) (by decide) xin_X12 xw_81)
  · exact (⟨by decide, xr_iloadn dX12_hum_35 rfl⟩)
  · exact (xr_iast dX12_hum_36)
  · exact (⟨by decide, xr_aloadn dX12_hum_37 rfl⟩)
  · exact (xr_getf dX12_hum_38 (show vwCl[12]? = some (RX12, TX12, 69) from rfl) (by decide) xin_X12 xw_50)
  · exact (⟨by decide, xr_aloadn dX12_hum_41 rfl⟩)
  · exact (xr_getf dX12_hum_42 (show vwCl[12]? = some (RX12, TX12, 69) from rfl) (by decide) xin_X12 xw_81)
  · exact (xr_iconst dX12_hum_45 (by decide +kernel))
  · exact (xr_iast dX12_hum_46)
  · exact (⟨by decide, xr_aloadn dX12_hum_47 rfl⟩)
  · exact (fun v h => xr_dup dX12_hum_48 v h)
  · exact (xr_getf dX12_hum_49 (show vwCl[12]? = some (RX12, TX12, 69) from rfl) (by decide) xin_X12 xw_81)
  · exact (xr_iconst dX12_hum_52 (by decide +kernel))
  · exact (fun x y h => xr_iadd dX12_hum_53 x y)
  · exact (⟨.int, false, 0, rfl, xr_putf dX12_hum_54 (show vwCl[12]? = some (RX12, TX12, 69) from rfl) (by decide) xin_X12 tyX12_ok nmX12 xw_81 rfl (rfl : tyX12 61 = .int), fun h => (by cases h)⟩)
  · exact (⟨by decide, xr_aloadn dX12_hum_57 rfl⟩)
  · exact (xr_getf dX12_hum_58 (show vwCl[12]? = some (RX12, TX12, 69) from rfl) (by decide) xin_X12 xw_81)
  · exact (xr_iconst dX12_hum_61 (by decide +kernel))
  · exact (fun x y h => xr_isub dX12_hum_62 x y)
  · exact (⟨dX12_hum_63, .int, rfl, rfl, Or.inl rfl⟩)
theorem xmo_21 : xMok xmt xm_21 := ⟨xw_117, xw_58, ⟨by decide, by decide, by decide +kernel⟩, by decide +kernel, rfl, xo_21⟩
theorem xo_22 : ∀ q ∈ xk_22, xok xmt xm_22 q.1 q.2 := by
  refine xcns ?_ <| xcns ?_ <| xcns ?_ <| xcns ?_ <| xcns ?_ <| xcns ?_ <| xcns ?_ <| xcns ?_ <| xcns ?_ <| xnl
  · exact (⟨by decide, xr_iloadn dX12_isCrowns_0 rfl⟩)
  · exact (xr_iflt dX12_isCrowns_1 (by decide))
  · exact (⟨by decide, xr_iloadn dX12_isCrowns_4 rfl⟩)
  · exact (xr_sipush dX12_isCrowns_5 (by decide +kernel))
  · exact (xr_icmpge dX12_isCrowns_8 (by decide))
  · exact (xr_iconst dX12_isCrowns_11 (by decide +kernel))
  · exact (xr_goto dX12_isCrowns_12 (by decide))
  · exact (xr_iconst dX12_isCrowns_15 (by decide +kernel))
  · exact (⟨dX12_isCrowns_16, .boolean, rfl, rfl, Or.inr rfl⟩)
theorem xmo_22 : xMok xmt xm_22 := ⟨xw_118, xw_58, ⟨by decide, by decide, by decide +kernel⟩, by decide +kernel, rfl, xo_22⟩
theorem xo_23 : ∀ q ∈ xk_23, xok xmt xm_23 q.1 q.2 := by
  refine xcns ?_ <| xcns ?_ <| xcns ?_ <| xcns ?_ <| xcns ?_ <| xcns ?_ <| xcns ?_ <| xcns ?_ <| xnl
  · exact (xr_iconst dX12_isGang_0 (by decide +kernel))
  · exact (⟨by decide, xr_istoren dX12_isGang_1 rfl⟩)
  · exact (⟨by decide, xr_iloadn dX12_isGang_2 rfl⟩)
  · exact (⟨by decide, xr_aloadn dX12_isGang_3 rfl⟩)
  · exact (⟨rfl, _, rfl, ⟨467, dX12_isGang_4, xw_84, xw_82, xw_83⟩, _, rfl, rfl⟩)
  · exact (xr_icmpge dX12_isGang_7 (by decide))
  · exact (xr_iconst dX12_isGang_97 (by decide +kernel))
  · exact (⟨dX12_isGang_98, .boolean, rfl, rfl, Or.inr rfl⟩)
theorem xmo_23 : xMok xmt xm_23 := ⟨xw_119, xw_58, ⟨by decide, by decide, by decide +kernel⟩, by decide +kernel, rfl, xo_23⟩
theorem xo_24 : ∀ q ∈ xk_24, xok xmt xm_24 q.1 q.2 := by
  refine xcns ?_ <| xcns ?_ <| xcns ?_ <| xcns ?_ <| xcns ?_ <| xcns ?_ <| xnl
  · exact (⟨by decide, xr_aloadn dX12_isPart_0 rfl⟩)
  · exact (⟨by decide, xr_iloadn dX12_isPart_1 rfl⟩)
  · exact (⟨rfl, _, rfl, ⟨332, dX12_isPart_2, xw_65, xw_63, xw_64⟩, _, rfl, rfl⟩)
  · exact (xr_ifeq dX12_isPart_5 (by decide))
  · exact (xr_iconst dX12_isPart_26 (by decide +kernel))
  · exact (⟨dX12_isPart_27, .boolean, rfl, rfl, Or.inr rfl⟩)
theorem xmo_24 : xMok xmt xm_24 := ⟨xw_120, xw_58, ⟨by decide, by decide, by decide +kernel⟩, by decide +kernel, rfl, xo_24⟩
theorem xo_25 : ∀ q ∈ xk_25, xok xmt xm_25 q.1 q.2 := by
  refine xcns ?_ <| xcns ?_ <| xcns ?_ <| xcns ?_ <| xcns ?_ <| xcns ?_ <| xcns ?_ <| xcns ?_ <| xcns ?_ <| xcns ?_ <| xnl
  · exact (⟨by decide, xr_iloadn dX12_isTavern_0 rfl⟩)
  · exact (xr_iflt dX12_isTavern_1 (by decide))
  · exact (⟨by decide, xr_iloadn dX12_isTavern_4 rfl⟩)
  · exact (⟨by decide, xr_aloadn dX12_isTavern_5 rfl⟩)
  · exact (xr_getf dX12_isTavern_6 (show vwCl[12]? = some (RX12, TX12, 69) from rfl) (by decide) xin_X12 xw_4)
  · exact (xr_iconst dX12_isTavern_9 (by decide +kernel))
  · exact (⟨by decide, xr_iald dX12_isTavern_10⟩)
  · exact (xr_icmpge dX12_isTavern_11 (by decide))
  · exact (xr_iconst dX12_isTavern_18 (by decide +kernel))
  · exact (⟨dX12_isTavern_19, .boolean, rfl, rfl, Or.inr rfl⟩)
theorem xmo_25 : xMok xmt xm_25 := ⟨xw_121, xw_58, ⟨by decide, by decide, by decide +kernel⟩, by decide +kernel, rfl, xo_25⟩
theorem xo_26 : ∀ q ∈ xk_26, xok xmt xm_26 q.1 q.2 := by
  refine xcns ?_ <| xcns ?_ <| xcns ?_ <| xcns ?_ <| xcns ?_ <| xcns ?_ <| xcns ?_ <| xcns ?_ <| xcns ?_ <| xcns ?_ <| xnl
  · exact (⟨by decide, xr_iloadn dX12_isVerse_0 rfl⟩)
  · exact (xr_iflt dX12_isVerse_1 (by decide))
  · exact (⟨by decide, xr_iloadn dX12_isVerse_4 rfl⟩)
  · exact (⟨by decide, xr_aloadn dX12_isVerse_5 rfl⟩)
  · exact (xr_getf dX12_isVerse_6 (show vwCl[12]? = some (RX12, TX12, 69) from rfl) (by decide) xin_X12 xw_4)
  · exact (xr_iconst dX12_isVerse_9 (by decide +kernel))
  · exact (⟨by decide, xr_iald dX12_isVerse_10⟩)
  · exact (xr_icmpge dX12_isVerse_11 (by decide))
  · exact (xr_iconst dX12_isVerse_18 (by decide +kernel))
  · exact (⟨dX12_isVerse_19, .boolean, rfl, rfl, Or.inr rfl⟩)
theorem xmo_26 : xMok xmt xm_26 := ⟨xw_122, xw_58, ⟨by decide, by decide, by decide +kernel⟩, by decide +kernel, rfl, xo_26⟩
theorem xo_27 : ∀ q ∈ xk_27, xok xmt xm_27 q.1 q.2 := by
  refine xcns ?_ <| xcns ?_ <| xcns ?_ <| xcns ?_ <| xcns ?_ <| xcns ?_ <| xcns ?_ <| xcns ?_ <| xcns ?_ <| xcns ?_ <| xnl
  · exact (⟨by decide, xr_iloadn dX12_isVoice_0 rfl⟩)
  · exact (xr_iflt dX12_isVoice_1 (by decide))
  · exact (⟨by decide, xr_iloadn dX12_isVoice_4 rfl⟩)
  · exact (⟨by decide, xr_aloadn dX12_isVoice_5 rfl⟩)
  · exact (xr_getf dX12_isVoice_6 (show vwCl[12]? = some (RX12, TX12, 69) from rfl) (by decide) xin_X12 xw_4)
  · exact (xr_iconst dX12_isVoice_9 (by decide +kernel))
  · exact (⟨by decide, xr_iald dX12_isVoice_10⟩)
  · exact (xr_icmpge dX12_isVoice_11 (by decide))
  · exact (xr_iconst dX12_isVoice_18 (by decide +kernel))
  · exact (⟨dX12_isVoice_19, .boolean, rfl, rfl, Or.inr rfl⟩)
theorem xmo_27 : xMok xmt xm_27 := ⟨xw_123, xw_58, ⟨by decide, by decide, by decide +kernel⟩, by decide +kernel, rfl, xo_27⟩
theorem xo_28 : ∀ q ∈ xk_28, xok xmt xm_28 q.1 q.2 := by
  refine xcns ?_ <| xcns ?_ <| xcns ?_ <| xcns ?_ <| xcns ?_ <| xcns ?_ <| xcns ?_ <| xcns ?_ <| xcns ?_ <| xcns ?_ <| xcns ?_ <| xcns ?_ <| xcns ?_ <| xcns ?_ <| xcns ?_ <| xnl
  · exact (⟨by decide, xr_aloadn dX12_keep_0 rfl⟩)
  · exact (xr_iconst dX12_keep_1 (by decide +kernel))
  · exact (⟨.int, false, 0, rfl, xr_putf dX12_keep_2 (show vwCl[12]? = some (RX12, TX12, 69) from rfl) (by decide) xin_X12 tyX12_ok nmX12 xw_60 rfl (rfl : tyX12 0 = .int), fun h => (by cases h)⟩)
  · exact (⟨by decide, xr_aloadn dX12_keep_5 rfl⟩)
  · exact (xr_iconst dX12_keep_6 (by decide +kernel))
  · exact (xr_iconst dX12_keep_7 (by decide +kernel))
  · exact (⟨rfl, _, rfl, ⟨508, dX12_keep_8, xw_126, xw_124, xw_125⟩, _, rfl, rfl⟩)
  · exact (⟨by decide, xr_aloadn dX12_keep_11 rfl⟩)
  · exact (xr_iconst dX12_keep_12 (by decide +kernel))
  · exact (⟨.boolean, false, 0, rfl, xr_putf dX12_keep_13 (show vwCl[12]? = some (RX12, TX12, 69) from rfl) (by decide) xin_X12 tyX12_ok nmX12 xw_61 rfl (rfl : tyX12 49 = .boolean), fun h => (by cases h)⟩)
  · exact (⟨by decide, xr_aloadn dX12_keep_16 rfl⟩)
  · exact (xr_getf dX12_keep_17 (show vwCl[12]? = some (RX12, TX12, 69) from rfl) (by decide) xin_X12 xw_27)
  · exact (xr_iconst dX12_keep_20 (by decide +kernel))
  · exact (⟨by decide, xr_iald dX12_keep_21⟩)
  · exact (⟨dX12_keep_22, .int, rfl, rfl, Or.inl rfl⟩)
theorem xmo_28 : xMok xmt xm_28 := ⟨xw_127, xw_58, ⟨by decide, by decide, by decide +kernel⟩, by decide +kernel, rfl, xo_28⟩
theorem xo_29 : ∀ q ∈ xk_29, xok xmt xm_29 q.1 q.2 := by
  refine xcns ?_ <| xcns ?_ <| xcns ?_ <| xcns ?_ <| xcns ?_ <| xcns ?_ <| xcns ?_ <| xcns ?_ <| xcns ?_ <| xcns ?_ <| xcns ?_ <| xcns ?_ <| xcns ?_ <| xcns ?_ <| xcns ?_ <| xcns ?_ <| xcns ?_ <| xnl
  · exact (⟨by decide, xr_aloadn dX12_known_0 rfl⟩)
  · exact (xr_iconst dX12_known_1 (by decide +kernel))
  · exact (⟨.int, false, 0, rfl, xr_putf dX12_known_2 (show vwCl[12]? = some (RX12, TX12, 69) from rfl) (by decide) xin_X12 tyX12_ok nmX12 xw_60 rfl (rfl : tyX12 0 = .int), fun h => (by cases h)⟩)
  · exact (⟨by decide, xr_iloadn dX12_known_5 rfl⟩)
  · exact (xr_iconst dX12_known_6 (by decide +kernel))
  · exact (xr_icmplt dX12_known_7 (by decide))
  · exact (⟨by decide, xr_iloadn dX12_known_10 rfl⟩)
  · exact (⟨by decide, xr_aloadn dX12_known_11 rfl⟩)
  · exact (xr_getf dX12_known_12 (show vwCl[12]? = some (RX12, TX12, 69) from rfl) (by decide) xin_X12 xw_81)
  · exact (xr_icmple dX12_known_15 (by decide))
  · exact (xr_iconst dX12_known_18 (by decide +kernel))
  · exact (⟨dX12_known_19, .boolean, rfl, rfl, Or.inr rfl⟩)
  · exact (⟨by decide, xr_aloadn dX12_known_20 rfl⟩)
  · exact (⟨by decide, xr_iloadn dX12_known_21 rfl⟩)
  · exact (⟨.int, false, 0, rfl, xr_putf dX12_known_22 (show vwCl[12]? = some (RX12, TX12, 69) from rfl) (by decide) xin_X12 tyX12_ok nmX12 xw_48 rfl (rfl : tyX12 62 = .int), fun h => (by cases h)⟩)
  · exact (xr_iconst dX12_known_25 (by decide +kernel))
  · exact (⟨dX12_known_26, .boolean, rfl, rfl, Or.inr rfl⟩)
theorem xmo_29 : xMok xmt xm_29 := ⟨xw_128, xw_58, ⟨by decide, by decide, by decide +kernel⟩, by decide +kernel, rfl, xo_29⟩
theorem xo_30 : ∀ q ∈ xk_30, xok xmt xm_30 q.1 q.2 := by
  refine xcns ?_ <| xcns ?_ <| xcns ?_ <| xcns ?_ <| xcns ?_ <| xcns ?_ <| xcns ?_ <| xcns ?_ <| xnl
  · exact (⟨by decide, xr_aloadn dX12_knownMany_0 rfl⟩)
  · exact (xr_getf dX12_knownMany_1 (show vwCl[12]? = some (RX12, TX12, 69) from rfl) (by decide) xin_X12 xw_48)
  · exact (xr_iconst dX12_knownMany_4 (by decide +kernel))
  · exact (xr_icmpne dX12_knownMany_5 (by decide))
  · exact (⟨by decide, xr_aloadn dX12_knownMany_8 rfl⟩)
  · exact (xr_getf dX12_knownMany_9 (show vwCl[12]? = some (RX12, TX12, 69) from rfl) (by decide) xin_X12 xw_81)
  · exact (xr_goto dX12_knownMany_12 (by decide))
  · exact (⟨dX12_knownMany_19, .int, rfl, rfl, Or.inl rfl⟩)
theorem xmo_30 : xMok xmt xm_30 := ⟨xw_129, xw_58, ⟨by decide, by decide, by decide +kernel⟩, by decide +kernel, rfl, xo_30⟩
theorem xo_31 : ∀ q ∈ xk_31, xok xmt xm_31 q.1 q.2 := by
  refine xcns ?_ <| xcns ?_ <| xcns ?_ <| xcns ?_ <| xcns ?_ <| xcns ?_ <| xcns ?_ <| xcns ?_ <| xcns ?_ <| xcns ?_ <| xcns ?_ <| xcns ?_ <| xcns ?_ <| xcns ?_ <| xcns ?_ <| xcns ?_ <| xcns ?_ <| xcns ?_ <| xcns ?_ <| xcns ?_ <| xcns ?_ <| xcns ?_ <| xcns ?_ <| xcns ?_ <| xcns ?_ <| xcns ?_ <| xcns ?_ <| xcns ?_ <| xcns ?_ <| xcns ?_ <| xcns ?_ <| xcns ?_ <| xcns ?_ <| xcns ?_ <| xcns ?_ <| xcns ?_ <| xcns ?_ <| xcns ?_ <| xcns ?_ <| xcns ?_ <| xcns ?_ <| xcns ?_ <| xcns ?_ <| xnl
  · exact (⟨by decide, xr_aloadn dX12_layBest_0 rfl⟩)
  · exact (⟨rfl, _, rfl, ⟨424, dX12_layBest_1, xw_132, xw_130, xw_131⟩, _, rfl, rfl⟩)
  · exact (xr_iconst dX12_layBest_4 (by decide +kernel))
  · exact (⟨by decide, xr_istoren dX12_layBest_5 rfl⟩)
  · exact (⟨by decide, xr_iloadn dX12_layBest_6 rfl⟩)
  · exact (⟨by decide, xr_iloadn dX12_layBest_7 rfl⟩)
  · exact (xr_icmpgt dX12_layBest_8 (by decide))
  · exact (⟨by decide, xr_aloadn dX12_layBest_11 rfl⟩)
  · exact (xr_getf dX12_layBest_12 (show vwCl[12]? = some (RX12, TX12, 69) from rfl) (by decide) xin_X12 xw_42)
  · exact (xr_sipush dX12_layBest_15 (by decide +kernel))
  · exact (⟨by decide, xr_aloadn dX12_layBest_18 rfl⟩)
  · exact (xr_getf dX12_layBest_19 (show vwCl[12]? = some (RX12, TX12, 69) from rfl) (by decide) xin_X12 xw_4)
  · exact (xr_iconst dX12_layBest_22 (by decide +kernel))
  · exact (⟨by decide, xr_iald dX12_layBest_23⟩)
  · exact (fun x y h => xr_imul dX12_layBest_24 x y)
  · exact (⟨by decide, xr_iloadn dX12_layBest_25 rfl⟩)
  · exact (fun x y h => xr_iadd dX12_layBest_26 x y)
  · exact (xr_iconst dX12_layBest_27 (by decide +kernel))
  · exact (xr_iast dX12_layBest_28)
  · exact (⟨by decide, xr_aloadn dX12_layBest_29 rfl⟩)
  · exact (xr_getf dX12_layBest_30 (show vwCl[12]? = some (RX12, TX12, 69) from rfl) (by decide) xin_X12 xw_43)
  · exact (xr_sipush dX12_layBest_33 (by decide +kernel))
  · exact (⟨by decide, xr_aloadn dX12_layBest_36 rfl⟩)
  · exact (xr_getf dX12_layBest_37 (show vwCl[12]? = some (RX12, TX12, 69) from rfl) (by decide) xin_X12 xw_4)
  · exact (xr_iconst dX12_layBest_40 (by decide +kernel))
  · exact (⟨by decide, xr_iald dX12_layBest_41⟩)
  · exact (fun x y h => xr_imul dX12_layBest_42 x y)
  · exact (⟨by decide, xr_iloadn dX12_layBest_43 rfl⟩)
  · exact (fun x y h => xr_iadd dX12_layBest_44 x y)
  · exact (xr_iconst dX12_layBest_45 (by decide +kernel))
  · exact (xr_iast dX12_layBest_46)
  · exact (xr_iinc dX12_layBest_47 (by decide +kernel))
  · exact (xr_goto dX12_layBest_50 (by decide))
  · exact (⟨by decide, xr_aloadn dX12_layBest_53 rfl⟩)
  · exact (xr_getf dX12_layBest_54 (show vwCl[12]? = some (RX12, TX12, 69) from rfl) (by decide) xin_X12 xw_4)
  · exact (xr_iconst dX12_layBest_57 (by decide +kernel))
  · exact (⟨by decide, xr_iald dX12_layBest_58⟩)
  · exact (xr_iconst dX12_layBest_59 (by decide +kernel))
  · exact (fun x y h => xr_isub dX12_layBest_60 x y)
  · exact (⟨by decide, xr_istoren dX12_layBest_61 rfl⟩)
  · exact (⟨by decide, xr_iloadn dX12_layBest_62 rfl⟩)
  · exact (xr_iflt dX12_layBest_63 (by decide))
  · exact (⟨dX12_layBest_134, rfl⟩)
theorem xmo_31 : xMok xmt xm_31 := ⟨xw_133, xw_58, ⟨by decide, by decide, by decide +kernel⟩, by decide +kernel, rfl, xo_31⟩
theorem xo_32 : ∀ q ∈ xk_32, xok xmt xm_32 q.1 q.2 := by
  refine xcns ?_ <| xcns ?_ <| xcns ?_ <| xcns ?_ <| xcns ?_ <| xcns ?_ <| xcns ?_ <| xcns ?_ <| xcns ?_ <| xcns ?_ <| xcns ?_ <| xcns ?_ <| xcns ?_ <| xcns ?_ <| xcns ?_ <| xcns ?_ <| xcns ?_ <| xcns ?_ <| xnl
  · exact (xr_iconst dX12_layDues_0 (by decide +kernel))
  · exact (⟨by decide, xr_istoren dX12_layDues_1 rfl⟩)
  · exact (⟨by decide, xr_iloadn dX12_layDues_2 rfl⟩)
  · exact (xr_bipush dX12_layDues_3 (by decide +kernel))
  · exact (xr_icmpge dX12_layDues_5 (by decide))
  · exact (⟨by decide, xr_aloadn dX12_layDues_8 rfl⟩)
  · exact (⟨by decide, xr_iloadn dX12_layDues_9 rfl⟩)
  · exact (xr_iconst dX12_layDues_10 (by decide +kernel))
  · exact (fun x y h => xr_idiv dX12_layDues_11 x y (h (Or.inl rfl)))
  · exact (⟨by decide, xr_iloadn dX12_layDues_12 rfl⟩)
  · exact (xr_iconst dX12_layDues_13 (by decide +kernel))
  · exact (fun x y h => xr_irem dX12_layDues_14 x y (h (Or.inr rfl)))
  · exact (⟨rfl, _, rfl, ⟨344, dX12_layDues_15, xw_78, xw_76, xw_77⟩, _, rfl, rfl⟩)
  · exact (xr_ifne dX12_layDues_18 (by decide))
  · exact (xr_goto dX12_layDues_21 (by decide))
  · exact (xr_iinc dX12_layDues_76 (by decide +kernel))
  · exact (xr_goto dX12_layDues_79 (by decide))
  · exact (⟨dX12_layDues_82, rfl⟩)
theorem xmo_32 : xMok xmt xm_32 := ⟨xw_134, xw_58, ⟨by decide, by decide, by decide +kernel⟩, by decide +kernel, rfl, xo_32⟩
theorem xo_33 : ∀ q ∈ xk_33, xok xmt xm_33 q.1 q.2 := by
  refine xcns ?_ <| xcns ?_ <| xcns ?_ <| xcns ?_ <| xcns ?_ <| xcns ?_ <| xcns ?_ <| xcns ?_ <| xcns ?_ <| xcns ?_ <| xcns ?_ <| xcns ?_ <| xcns ?_ <| xcns ?_ <| xcns ?_ <| xcns ?_ <| xcns ?_ <| xcns ?_ <| xcns ?_ <| xcns ?_ <| xcns ?_ <| xcns ?_ <| xcns ?_ <| xcns ?_ <| xcns ?_ <| xcns ?_ <| xcns ?_ <| xcns ?_ <| xcns ?_ <| xcns ?_ <| xcns ?_ <| xcns ?_ <| xcns ?_ <| xcns ?_ <| xcns ?_ <| xcns ?_ <| xcns ?_ <| xcns ?_ <| xcns ?_ <| xcns ?_ <| xcns ?_ <| xcns ?_ <| xcns ?_ <| xcns ?_ <| xcns ?_ <| xcns ?_ <| xcns ?_ <| xnl
  · exact (⟨by decide, xr_aloadn dX12_named_0 rfl⟩)
  · exact (xr_iconst dX12_named_1 (by decide +kernel))
  · exact (⟨.int, false, 0, rfl, xr_putf dX12_named_2 (show vwCl[12]? = some (RX12, TX12, 69) from rfl) (by decide) xin_X12 tyX12_ok nmX12 xw_60 rfl (rfl : tyX12 0 = .int), fun h => (by cases h)⟩)
  · exact (⟨by decide, xr_iloadn dX12_named_5 rfl⟩)
  · exact (xr_table dX12_named_6 (by decide) (by decide) (by decide))
  · exact (⟨by decide, xr_aloadn dX12_named_36 rfl⟩)
  · exact (xr_getf dX12_named_37 (show vwCl[12]? = some (RX12, TX12, 69) from rfl) (by decide) xin_X12 xw_5)
  · exact (xr_iconst dX12_named_40 (by decide +kernel))
  · exact (⟨by decide, xr_aloadn dX12_named_41 rfl⟩)
  · exact (xr_getf dX12_named_42 (show vwCl[12]? = some (RX12, TX12, 69) from rfl) (by decide) xin_X12 xw_4)
  · exact (xr_iconst dX12_named_45 (by decide +kernel))
  · exact (⟨by decide, xr_iald dX12_named_46⟩)
  · exact (⟨by decide, xr_iloadn dX12_named_47 rfl⟩)
  · exact (⟨rfl, _, rfl, ⟨229, dX12_named_48, xw_135, xw_136⟩⟩)
  · exact (⟨dX12_named_51, .int, rfl, rfl, Or.inl rfl⟩)
  · exact (⟨by decide, xr_aloadn dX12_named_52 rfl⟩)
  · exact (xr_getf dX12_named_53 (show vwCl[12]? = some (RX12, TX12, 69) from rfl) (by decide) xin_X12 xw_8)
  · exact (xr_iconst dX12_named_56 (by decide +kernel))
  · exact (⟨by decide, xr_aloadn dX12_named_57 rfl⟩)
  · exact (xr_getf dX12_named_58 (show vwCl[12]? = some (RX12, TX12, 69) from rfl) (by decide) xin_X12 xw_4)
  · exact (xr_iconst dX12_named_61 (by decide +kernel))
  · exact (⟨by decide, xr_iald dX12_named_62⟩)
  · exact (⟨by decide, xr_iloadn dX12_named_63 rfl⟩)
  · exact (⟨rfl, _, rfl, ⟨229, dX12_named_64, xw_135, xw_136⟩⟩)
  · exact (⟨dX12_named_67, .int, rfl, rfl, Or.inl rfl⟩)
  · exact (⟨by decide, xr_aloadn dX12_named_68 rfl⟩)
  · exact (xr_getf dX12_named_69 (show vwCl[12]? = some (RX12, TX12, 69) from rfl) (by decide) xin_X12 xw_16)
  · exact (xr_iconst dX12_named_72 (by decide +kernel))
  · exact (⟨by decide, xr_aloadn dX12_named_73 rfl⟩)
  · exact (xr_getf dX12_named_74 (show vwCl[12]? = some (RX12, TX12, 69) from rfl) (by decide) xin_X12 xw_4)
  · exact (xr_iconst dX12_named_77 (by decide +kernel))
  · exact (⟨by decide, xr_iald dX12_named_78⟩)
  · exact (⟨by decide, xr_iloadn dX12_named_79 rfl⟩)
  · exact (⟨rfl, _, rfl, ⟨229, dX12_named_80, xw_135, xw_136⟩⟩)
  · exact (⟨dX12_named_83, .int, rfl, rfl, Or.inl rfl⟩)
  · exact (⟨by decide, xr_aloadn dX12_named_84 rfl⟩)
  · exact (xr_getf dX12_named_85 (show vwCl[12]? = some (RX12, TX12, 69) from rfl) (by decide) xin_X12 xw_20)
  · exact (xr_iconst dX12_named_88 (by decide +kernel))
  · exact (⟨by decide, xr_aloadn dX12_named_89 rfl⟩)
  · exact (xr_getf dX12_named_90 (show vwCl[12]? = some (RX12, TX12, 69) from rfl) (by decide) xin_X12 xw_4)
  · exact (xr_iconst dX12_named_93 (by decide +kernel))
  · exact (⟨by decide, xr_iald dX12_named_94⟩)
  · exact (⟨by decide, xr_iloadn dX12_named_95 rfl⟩)
  · exact (⟨rfl, _, rfl, ⟨229, dX12_named_96, xw_135, xw_136⟩⟩)
  · exact (⟨dX12_named_99, .int, rfl, rfl, Or.inl rfl⟩)
  · exact (xr_iconst dX12_named_100 (by decide +kernel))
  · exact (⟨dX12_named_101, .int, rfl, rfl, Or.inl rfl⟩)
theorem xmo_33 : xMok xmt xm_33 := ⟨xw_137, xw_58, ⟨by decide, by decide, by decide +kernel⟩, by decide +kernel, rfl, xo_33⟩
theorem xo_34 : ∀ q ∈ xk_34, xok xmt xm_34 q.1 q.2 := by
  refine xcns ?_ <| xcns ?_ <| xcns ?_ <| xcns ?_ <| xcns ?_ <| xcns ?_ <| xcns ?_ <| xcns ?_ <| xcns ?_ <| xnl
  · exact (⟨by decide, xr_aloadn dX12_odds_0 rfl⟩)
  · exact (xr_iconst dX12_odds_1 (by decide +kernel))
  · exact (⟨.int, false, 0, rfl, xr_putf dX12_odds_2 (show vwCl[12]? = some (RX12, TX12, 69) from rfl) (by decide) xin_X12 tyX12_ok nmX12 xw_60 rfl (rfl : tyX12 0 = .int), fun h => (by cases h)⟩)
  · exact (⟨by decide, xr_aloadn dX12_odds_5 rfl⟩)
  · exact (⟨by decide, xr_iloadn dX12_odds_6 rfl⟩)
  · exact (⟨rfl, _, rfl, ⟨335, dX12_odds_7, xw_90, xw_88, xw_89⟩, _, rfl, rfl⟩)
  · exact (xr_ifeq dX12_odds_10 (by decide))
  · exact (xr_iconst dX12_odds_22 (by decide +kernel))
  · exact (⟨dX12_odds_23, .int, rfl, rfl, Or.inl rfl⟩)
theorem xmo_34 : xMok xmt xm_34 := ⟨xw_138, xw_58, ⟨by decide, by decide, by decide +kernel⟩, by decide +kernel, rfl, xo_34⟩
theorem xo_35 : ∀ q ∈ xk_35, xok xmt xm_35 q.1 q.2 := by
  refine xcns ?_ <| xcns ?_ <| xcns ?_ <| xcns ?_ <| xcns ?_ <| xcns ?_ <| xcns ?_ <| xcns ?_ <| xcns ?_ <| xnl
  · exact (⟨by decide, xr_aloadn dX12_pay_0 rfl⟩)
  · exact (xr_iconst dX12_pay_1 (by decide +kernel))
  · exact (⟨.int, false, 0, rfl, xr_putf dX12_pay_2 (show vwCl[12]? = some (RX12, TX12, 69) from rfl) (by decide) xin_X12 tyX12_ok nmX12 xw_60 rfl (rfl : tyX12 0 = .int), fun h => (by cases h)⟩)
  · exact (⟨by decide, xr_aloadn dX12_pay_5 rfl⟩)
  · exact (⟨by decide, xr_iloadn dX12_pay_6 rfl⟩)
  · exact (⟨rfl, _, rfl, ⟨341, dX12_pay_7, xw_141, xw_139, xw_140⟩, _, rfl, rfl⟩)
  · exact (xr_ifne dX12_pay_10 (by decide))
  · exact (xr_iconst dX12_pay_13 (by decide +kernel))
  · exact (⟨dX12_pay_14, .int, rfl, rfl, Or.inl rfl⟩)
theorem xmo_35 : xMok xmt xm_35 := ⟨xw_142, xw_58, ⟨by decide, by decide, by decide +kernel⟩, by decide +kernel, rfl, xo_35⟩
theorem xo_36 : ∀ q ∈ xk_36, xok xmt xm_36 q.1 q.2 := by
  refine xcns ?_ <| xcns ?_ <| xcns ?_ <| xcns ?_ <| xcns ?_ <| xcns ?_ <| xcns ?_ <| xcns ?_ <| xcns ?_ <| xcns ?_ <| xnl
  · exact (⟨by decide, xr_aloadn dX12_pitch_0 rfl⟩)
  · exact (xr_iconst dX12_pitch_1 (by decide +kernel))
  · exact (⟨.int, false, 0, rfl, xr_putf dX12_pitch_2 (show vwCl[12]? = some (RX12, TX12, 69) from rfl) (by decide) xin_X12 tyX12_ok nmX12 xw_60 rfl (rfl : tyX12 0 = .int), fun h => (by cases h)⟩)
  · exact (⟨by decide, xr_aloadn dX12_pitch_5 rfl⟩)
  · exact (⟨by decide, xr_iloadn dX12_pitch_6 rfl⟩)
  · exact (⟨by decide, xr_iloadn dX12_pitch_7 rfl⟩)
  · exact (⟨rfl, _, rfl, ⟨344, dX12_pitch_8, xw_78, xw_76, xw_77⟩, _, rfl, rfl⟩)
  · exact (xr_ifeq dX12_pitch_11 (by decide))
  · exact (xr_iconst dX12_pitch_50 (by decide +kernel))
  · exact (⟨dX12_pitch_51, .int, rfl, rfl, Or.inl rfl⟩)
theorem xmo_36 : xMok xmt xm_36 := ⟨xw_143, xw_58, ⟨by decide, by decide, by decide +kernel⟩, by decide +kernel, rfl, xo_36⟩
theorem xo_37 : ∀ q ∈ xk_37, xok xmt xm_37 q.1 q.2 := by
  refine xcns ?_ <| xcns ?_ <| xcns ?_ <| xcns ?_ <| xcns ?_ <| xcns ?_ <| xcns ?_ <| xcns ?_ <| xnl
  · exact (⟨by decide, xr_aloadn dX12_reads_0 rfl⟩)
  · exact (xr_getf dX12_reads_1 (show vwCl[12]? = some (RX12, TX12, 69) from rfl) (by decide) xin_X12 xw_4)
  · exact (xr_bipush dX12_reads_4 (by decide +kernel))
  · exact (⟨by decide, xr_iloadn dX12_reads_6 rfl⟩)
  · exact (fun x y h => xr_iadd dX12_reads_7 x y)
  · exact (⟨by decide, xr_iloadn dX12_reads_8 rfl⟩)
  · exact (xr_iast dX12_reads_9)
  · exact (⟨dX12_reads_10, rfl⟩)
theorem xmo_37 : xMok xmt xm_37 := ⟨xw_144, xw_58, ⟨by decide, by decide, by decide +kernel⟩, by decide +kernel, rfl, xo_37⟩
theorem xo_38 : ∀ q ∈ xk_38, xok xmt xm_38 q.1 q.2 := by
  refine xcns ?_ <| xcns ?_ <| xcns ?_ <| xcns ?_ <| xcns ?_ <| xcns ?_ <| xcns ?_ <| xcns ?_ <| xcns ?_ <| xcns ?_ <| xnl
  · exact (⟨by decide, xr_aloadn dX12_redeem_0 rfl⟩)
  · exact (xr_iconst dX12_redeem_1 (by decide +kernel))
  · exact (⟨.int, false, 0, rfl, xr_putf dX12_redeem_2 (show vwCl[12]? = some (RX12, TX12, 69) from rfl) (by decide) xin_X12 tyX12_ok nmX12 xw_60 rfl (rfl : tyX12 0 = .int), fun h => (by cases h)⟩)
  · exact (⟨by decide, xr_aloadn dX12_redeem_5 rfl⟩)
  · exact (⟨by decide, xr_iloadn dX12_redeem_6 rfl⟩)
  · exact (⟨by decide, xr_iloadn dX12_redeem_7 rfl⟩)
  · exact (⟨rfl, _, rfl, ⟨344, dX12_redeem_8, xw_78, xw_76, xw_77⟩, _, rfl, rfl⟩)
  · exact (xr_ifeq dX12_redeem_11 (by decide))
  · exact (xr_iconst dX12_redeem_53 (by decide +kernel))
  · exact (⟨dX12_redeem_54, .int, rfl, rfl, Or.inl rfl⟩)
theorem xmo_38 : xMok xmt xm_38 := ⟨xw_145, xw_58, ⟨by decide, by decide, by decide +kernel⟩, by decide +kernel, rfl, xo_38⟩
theorem xo_39 : ∀ q ∈ xk_39, xok xmt xm_39 q.1 q.2 := by
  refine xcns ?_ <| xcns ?_ <| xcns ?_ <| xcns ?_ <| xcns ?_ <| xcns ?_ <| xcns ?_ <| xcns ?_ <| xcns ?_ <| xcns ?_ <| xnl
  · exact (⟨by decide, xr_aloadn dX12_round_0 rfl⟩)
  · exact (xr_iconst dX12_round_1 (by decide +kernel))
  · exact (⟨.int, false, 0, rfl, xr_putf dX12_round_2 (show vwCl[12]? = some (RX12, TX12, 69) from rfl) (by decide) xin_X12 tyX12_ok nmX12 xw_60 rfl (rfl : tyX12 0 = .int), fun h => (by cases h)⟩)
  · exact (⟨by decide, xr_aloadn dX12_round_5 rfl⟩)
  · exact (⟨by decide, xr_iloadn dX12_round_6 rfl⟩)
  · exact (⟨by decide, xr_iloadn dX12_round_7 rfl⟩)
  · exact (⟨rfl, _, rfl, ⟨344, dX12_round_8, xw_78, xw_76, xw_77⟩, _, rfl, rfl⟩)
  · exact (xr_ifeq dX12_round_11 (by decide))
  · exact (xr_iconst dX12_round_23 (by decide +kernel))
  · exact (⟨dX12_round_24, .int, rfl, rfl, Or.inl rfl⟩)
theorem xmo_39 : xMok xmt xm_39 := ⟨xw_146, xw_58, ⟨by decide, by decide, by decide +kernel⟩, by decide +kernel, rfl, xo_39⟩
theorem xo_40 : ∀ q ∈ xk_40, xok xmt xm_40 q.1 q.2 := by
  refine xcns ?_ <| xcns ?_ <| xcns ?_ <| xcns ?_ <| xcns ?_ <| xcns ?_ <| xcns ?_ <| xcns ?_ <| xcns ?_ <| xnl
  · exact (⟨by decide, xr_aloadn dX12_run_0 rfl⟩)
  · exact (xr_iconst dX12_run_1 (by decide +kernel))
  · exact (⟨.int, false, 0, rfl, xr_putf dX12_run_2 (show vwCl[12]? = some (RX12, TX12, 69) from rfl) (by decide) xin_X12 tyX12_ok nmX12 xw_60 rfl (rfl : tyX12 0 = .int), fun h => (by cases h)⟩)
  · exact (⟨by decide, xr_aloadn dX12_run_5 rfl⟩)
  · exact (⟨by decide, xr_iloadn dX12_run_6 rfl⟩)
  · exact (⟨rfl, _, rfl, ⟨341, dX12_run_7, xw_141, xw_139, xw_140⟩, _, rfl, rfl⟩)
  · exact (xr_ifeq dX12_run_10 (by decide))
  · exact (xr_iconst dX12_run_36 (by decide +kernel))
  · exact (⟨dX12_run_37, .int, rfl, rfl, Or.inl rfl⟩)
theorem xmo_40 : xMok xmt xm_40 := ⟨xw_147, xw_58, ⟨by decide, by decide, by decide +kernel⟩, by decide +kernel, rfl, xo_40⟩
theorem xo_41 : ∀ q ∈ xk_41, xok xmt xm_41 q.1 q.2 := by
  refine xcns ?_ <| xcns ?_ <| xcns ?_ <| xcns ?_ <| xcns ?_ <| xcns ?_ <| xcns ?_ <| xcns ?_ <| xcns ?_ <| xcns ?_ <| xcns ?_ <| xcns ?_ <| xcns ?_ <| xcns ?_ <| xcns ?_ <| xcns ?_ <| xcns ?_ <| xnl
  · exact (xr_iconst dX12_sells_0 (by decide +kernel))
  · exact (⟨by decide, xr_istoren dX12_sells_1 rfl⟩)
  · exact (xr_iconst dX12_sells_2 (by decide +kernel))
  · exact (⟨by decide, xr_istore dX12_sells_3⟩)
  · exact (⟨by decide, xr_iload dX12_sells_5⟩)
  · exact (⟨by decide, xr_aloadn dX12_sells_7 rfl⟩)
  · exact (xr_getf dX12_sells_8 (show vwCl[12]? = some (RX12, TX12, 69) from rfl) (by decide) xin_X12 xw_4)
  · exact (xr_iconst dX12_sells_11 (by decide +kernel))
  · exact (⟨by decide, xr_iald dX12_sells_12⟩)
  · exact (xr_icmpge dX12_sells_13 (by decide))
  · exact (xr_iconst dX12_sells_36 (by decide +kernel))
  · exact (⟨by decide, xr_istore dX12_sells_37⟩)
  · exact (⟨by decide, xr_iload dX12_sells_39⟩)
  · exact (⟨by decide, xr_iloadn dX12_sells_41 rfl⟩)
  · exact (xr_icmpgt dX12_sells_42 (by decide))
  · exact (⟨by decide, xr_iloadn dX12_sells_188 rfl⟩)
  · exact (⟨dX12_sells_189, .int, rfl, rfl, Or.inl rfl⟩)
theorem xmo_41 : xMok xmt xm_41 := ⟨xw_148, xw_58, ⟨by decide, by decide, by decide +kernel⟩, by decide +kernel, rfl, xo_41⟩
theorem xo_42 : ∀ q ∈ xk_42, xok xmt xm_42 q.1 q.2 := by
  refine xcns ?_ <| xcns ?_ <| xcns ?_ <| xcns ?_ <| xcns ?_ <| xcns ?_ <| xcns ?_ <| xcns ?_ <| xcns ?_ <| xcns ?_ <| xnl
  · exact (⟨by decide, xr_aloadn dX12_sings_0 rfl⟩)
  · exact (xr_iconst dX12_sings_1 (by decide +kernel))
  · exact (⟨.int, false, 0, rfl, xr_putf dX12_sings_2 (show vwCl[12]? = some (RX12, TX12, 69) from rfl) (by decide) xin_X12 tyX12_ok nmX12 xw_60 rfl (rfl : tyX12 0 = .int), fun h => (by cases h)⟩)
  · exact (⟨by decide, xr_aloadn dX12_sings_5 rfl⟩)
  · exact (⟨by decide, xr_iloadn dX12_sings_6 rfl⟩)
  · exact (⟨by decide, xr_iloadn dX12_sings_7 rfl⟩)
  · exact (⟨rfl, _, rfl, ⟨344, dX12_sings_8, xw_78, xw_76, xw_77⟩, _, rfl, rfl⟩)
  · exact (xr_ifne dX12_sings_11 (by decide))
  · exact (xr_iconst dX12_sings_14 (by decide +kernel))
  · exact (⟨dX12_sings_15, .int, rfl, rfl, Or.inl rfl⟩)
theorem xmo_42 : xMok xmt xm_42 := ⟨xw_149, xw_58, ⟨by decide, by decide, by decide +kernel⟩, by decide +kernel, rfl, xo_42⟩
theorem xo_43 : ∀ q ∈ xk_43, xok xmt xm_43 q.1 q.2 := by
  refine xcns ?_ <| xcns ?_ <| xcns ?_ <| xcns ?_ <| xcns ?_ <| xcns ?_ <| xcns ?_ <| xcns ?_ <| xcns ?_ <| xcns ?_ <| xcns ?_ <| xcns ?_ <| xcns ?_ <| xnl
  · exact (⟨by decide, xr_aloadn dX12_sold_0 rfl⟩)
  · exact (xr_iconst dX12_sold_1 (by decide +kernel))
  · exact (⟨.int, false, 0, rfl, xr_putf dX12_sold_2 (show vwCl[12]? = some (RX12, TX12, 69) from rfl) (by decide) xin_X12 tyX12_ok nmX12 xw_60 rfl (rfl : tyX12 0 = .int), fun h => (by cases h)⟩)
  · exact (⟨by decide, xr_aloadn dX12_sold_5 rfl⟩)
  · exact (⟨by decide, xr_iloadn dX12_sold_6 rfl⟩)
  · exact (⟨rfl, _, rfl, ⟨461, dX12_sold_7, xw_95, xw_93, xw_94⟩, _, rfl, rfl⟩)
  · exact (xr_ifeq dX12_sold_10 (by decide))
  · exact (⟨by decide, xr_aloadn dX12_sold_13 rfl⟩)
  · exact (⟨by decide, xr_iloadn dX12_sold_14 rfl⟩)
  · exact (⟨rfl, _, rfl, ⟨332, dX12_sold_15, xw_65, xw_63, xw_64⟩, _, rfl, rfl⟩)
  · exact (xr_ifeq dX12_sold_18 (by decide))
  · exact (xr_iconst dX12_sold_38 (by decide +kernel))
  · exact (⟨dX12_sold_39, .int, rfl, rfl, Or.inl rfl⟩)
theorem xmo_43 : xMok xmt xm_43 := ⟨xw_150, xw_58, ⟨by decide, by decide, by decide +kernel⟩, by decide +kernel, rfl, xo_43⟩
theorem xo_44 : ∀ q ∈ xk_44, xok xmt xm_44 q.1 q.2 := by
  refine xcns ?_ <| xcns ?_ <| xcns ?_ <| xcns ?_ <| xcns ?_ <| xcns ?_ <| xcns ?_ <| xcns ?_ <| xcns ?_ <| xcns ?_ <| xnl
  · exact (⟨by decide, xr_aloadn dX12_sounds_0 rfl⟩)
  · exact (xr_iconst dX12_sounds_1 (by decide +kernel))
  · exact (⟨.int, false, 0, rfl, xr_putf dX12_sounds_2 (show vwCl[12]? = some (RX12, TX12, 69) from rfl) (by decide) xin_X12 tyX12_ok nmX12 xw_60 rfl (rfl : tyX12 0 = .int), fun h => (by cases h)⟩)
  · exact (⟨by decide, xr_aloadn dX12_sounds_5 rfl⟩)
  · exact (⟨by decide, xr_iloadn dX12_sounds_6 rfl⟩)
  · exact (⟨by decide, xr_iloadn dX12_sounds_7 rfl⟩)
  · exact (⟨rfl, _, rfl, ⟨344, dX12_sounds_8, xw_78, xw_76, xw_77⟩, _, rfl, rfl⟩)
  · exact (xr_ifeq dX12_sounds_11 (by decide))
  · exact (xr_iconst dX12_sounds_35 (by decide +kernel))
  · exact (⟨dX12_sounds_36, .int, rfl, rfl, Or.inl rfl⟩)
theorem xmo_44 : xMok xmt xm_44 := ⟨xw_151, xw_58, ⟨by decide, by decide, by decide +kernel⟩, by decide +kernel, rfl, xo_44⟩
theorem xo_45 : ∀ q ∈ xk_45, xok xmt xm_45 q.1 q.2 := by
  refine xcns ?_ <| xcns ?_ <| xcns ?_ <| xcns ?_ <| xcns ?_ <| xcns ?_ <| xcns ?_ <| xcns ?_ <| xcns ?_ <| xcns ?_ <| xcns ?_ <| xnl
  · exact (⟨by decide, xr_aloadn dX12_strike_0 rfl⟩)
  · exact (xr_iconst dX12_strike_1 (by decide +kernel))
  · exact (⟨.int, false, 0, rfl, xr_putf dX12_strike_2 (show vwCl[12]? = some (RX12, TX12, 69) from rfl) (by decide) xin_X12 tyX12_ok nmX12 xw_60 rfl (rfl : tyX12 0 = .int), fun h => (by cases h)⟩)
  · exact (⟨by decide, xr_iloadn dX12_strike_5 rfl⟩)
  · exact (xr_iflt dX12_strike_6 (by decide))
  · exact (⟨by decide, xr_iloadn dX12_strike_9 rfl⟩)
  · exact (⟨by decide, xr_aloadn dX12_strike_10 rfl⟩)
  · exact (xr_getf dX12_strike_11 (show vwCl[12]? = some (RX12, TX12, 69) from rfl) (by decide) xin_X12 xw_81)
  · exact (xr_icmpge dX12_strike_14 (by decide))
  · exact (xr_iconst dX12_strike_26 (by decide +kernel))
  · exact (⟨dX12_strike_27, .int, rfl, rfl, Or.inl rfl⟩)
theorem xmo_45 : xMok xmt xm_45 := ⟨xw_152, xw_58, ⟨by decide, by decide, by decide +kernel⟩, by decide +kernel, rfl, xo_45⟩
theorem xo_46 : ∀ q ∈ xk_46, xok xmt xm_46 q.1 q.2 := by
  refine xcns ?_ <| xcns ?_ <| xcns ?_ <| xcns ?_ <| xcns ?_ <| xcns ?_ <| xcns ?_ <| xcns ?_ <| xcns ?_ <| xcns ?_ <| xcns ?_ <| xcns ?_ <| xcns ?_ <| xcns ?_ <| xnl
  · exact (xr_iconst dX12_strikes_0 (by decide +kernel))
  · exact (⟨by decide, xr_istoren dX12_strikes_1 rfl⟩)
  · exact (⟨by decide, xr_iloadn dX12_strikes_2 rfl⟩)
  · exact (⟨by decide, xr_aloadn dX12_strikes_3 rfl⟩)
  · exact (⟨rfl, _, rfl, ⟨467, dX12_strikes_4, xw_84, xw_82, xw_83⟩, _, rfl, rfl⟩)
  · exact (xr_icmpge dX12_strikes_7 (by decide))
  · exact (⟨by decide, xr_aloadn dX12_strikes_23 rfl⟩)
  · exact (⟨rfl, _, rfl, ⟨467, dX12_strikes_24, xw_84, xw_82, xw_83⟩, _, rfl, rfl⟩)
  · exact (xr_iconst dX12_strikes_27 (by decide +kernel))
  · exact (fun x y h => xr_isub dX12_strikes_28 x y)
  · exact (⟨by decide, xr_istoren dX12_strikes_29 rfl⟩)
  · exact (⟨by decide, xr_iloadn dX12_strikes_30 rfl⟩)
  · exact (xr_iflt dX12_strikes_31 (by decide))
  · exact (⟨dX12_strikes_71, rfl⟩)
theorem xmo_46 : xMok xmt xm_46 := ⟨xw_153, xw_58, ⟨by decide, by decide, by decide +kernel⟩, by decide +kernel, rfl, xo_46⟩
theorem xo_47 : ∀ q ∈ xk_47, xok xmt xm_47 q.1 q.2 := by
  refine xcns ?_ <| xcns ?_ <| xcns ?_ <| xcns ?_ <| xcns ?_ <| xcns ?_ <| xcns ?_ <| xcns ?_ <| xcns ?_ <| xcns ?_ <| xcns ?_ <| xcns ?_ <| xcns ?_ <| xcns ?_ <| xcns ?_ <| xcns ?_ <| xcns ?_ <| xcns ?_ <| xcns ?_ <| xcns ?_ <| xcns ?_ <| xcns ?_ <| xcns ?_ <| xcns ?_ <| xcns ?_ <| xcns ?_ <| xcns ?_ <| xcns ?_ <| xcns ?_ <| xcns ?_ <| xcns ?_ <| xcns ?_ <| xcns ?_ <| xcns ?_ <| xcns ?_ <| xcns ?_ <| xcns ?_ <| xcns ?_ <| xcns ?_ <| xcns ?_ <| xcns ?_ <| xcns ?_ <| xcns ?_ <| xcns ?_ <| xcns ?_ <| xcns ?_ <| xcns ?_ <| xcns ?_ <| xcns ?_ <| xcns ?_ <| xcns ?_ <| xcns ?_ <| xcns ?_ <| xcns ?_ <| xcns ?_ <| xcns ?_ <| xcns ?_ <| xcns ?_ <| xcns ?_ <| xnl
  · exact (⟨by decide, xr_aloadn dX12_sunday_0 rfl⟩)
  · exact (xr_iconst dX12_sunday_1 (by decide +kernel))
  · exact (⟨.int, false, 0, rfl, xr_putf dX12_sunday_2 (show vwCl[12]? = some (RX12, TX12, 69) from rfl) (by decide) xin_X12 tyX12_ok nmX12 xw_60 rfl (rfl : tyX12 0 = .int), fun h => (by cases h)⟩)
  · exact (xr_iconst dX12_sunday_5 (by decide +kernel))
  · exact (⟨by decide, xr_istoren dX12_sunday_6 rfl⟩)
  · exact (xr_iconst dX12_sunday_7 (by decide +kernel))
  · exact (⟨by decide, xr_istoren dX12_sunday_8 rfl⟩)
  · exact (⟨by decide, xr_iloadn dX12_sunday_9 rfl⟩)
  · exact (xr_bipush dX12_sunday_10 (by decide +kernel))
  · exact (xr_icmpge dX12_sunday_12 (by decide))
  · exact (⟨by decide, xr_aloadn dX12_sunday_15 rfl⟩)
  · exact (xr_getf dX12_sunday_16 (show vwCl[12]? = some (RX12, TX12, 69) from rfl) (by decide) xin_X12 xw_35)
  · exact (⟨by decide, xr_iloadn dX12_sunday_19 rfl⟩)
  · exact (⟨by decide, xr_iald dX12_sunday_20⟩)
  · exact (⟨by decide, xr_istoren dX12_sunday_21 rfl⟩)
  · exact (⟨by decide, xr_aloadn dX12_sunday_22 rfl⟩)
  · exact (xr_getf dX12_sunday_23 (show vwCl[12]? = some (RX12, TX12, 69) from rfl) (by decide) xin_X12 xw_35)
  · exact (⟨by decide, xr_iloadn dX12_sunday_26 rfl⟩)
  · exact (xr_iconst dX12_sunday_27 (by decide +kernel))
  · exact (xr_iast dX12_sunday_28)
  · exact (⟨by decide, xr_iloadn dX12_sunday_29 rfl⟩)
  · exact (xr_iconst dX12_sunday_30 (by decide +kernel))
  · exact (xr_icmpne dX12_sunday_31 (by decide))
  · exact (xr_goto dX12_sunday_34 (by decide))
  · exact (xr_iinc dX12_sunday_70 (by decide +kernel))
  · exact (xr_goto dX12_sunday_73 (by decide))
  · exact (⟨by decide, xr_aloadn dX12_sunday_76 rfl⟩)
  · exact (xr_getf dX12_sunday_77 (show vwCl[12]? = some (RX12, TX12, 69) from rfl) (by decide) xin_X12 xw_36)
  · exact (xr_iconst dX12_sunday_80 (by decide +kernel))
  · exact (xr_iconst dX12_sunday_81 (by decide +kernel))
  · exact (xr_iast dX12_sunday_82)
  · exact (⟨by decide, xr_aloadn dX12_sunday_83 rfl⟩)
  · exact (xr_getf dX12_sunday_84 (show vwCl[12]? = some (RX12, TX12, 69) from rfl) (by decide) xin_X12 xw_31)
  · exact (xr_iconst dX12_sunday_87 (by decide +kernel))
  · exact (⟨by decide, xr_iald dX12_sunday_88⟩)
  · exact (⟨by decide, xr_istoren dX12_sunday_89 rfl⟩)
  · exact (xr_iconst dX12_sunday_90 (by decide +kernel))
  · exact (⟨by decide, xr_istoren dX12_sunday_91 rfl⟩)
  · exact (⟨by decide, xr_iloadn dX12_sunday_92 rfl⟩)
  · exact (⟨by decide, xr_aloadn dX12_sunday_93 rfl⟩)
  · exact (xr_getf dX12_sunday_94 (show vwCl[12]? = some (RX12, TX12, 69) from rfl) (by decide) xin_X12 xw_4)
  · exact (xr_iconst dX12_sunday_97 (by decide +kernel))
  · exact (⟨by decide, xr_iald dX12_sunday_98⟩)
  · exact (xr_icmpge dX12_sunday_99 (by decide))
  · exact (⟨by decide, xr_aloadn dX12_sunday_144 rfl⟩)
  · exact (xr_getf dX12_sunday_145 (show vwCl[12]? = some (RX12, TX12, 69) from rfl) (by decide) xin_X12 xw_31)
  · exact (xr_iconst dX12_sunday_148 (by decide +kernel))
  · exact (⟨by decide, xr_iloadn dX12_sunday_149 rfl⟩)
  · exact (xr_iast dX12_sunday_150)
  · exact (⟨by decide, xr_aloadn dX12_sunday_151 rfl⟩)
  · exact (xr_getf dX12_sunday_152 (show vwCl[12]? = some (RX12, TX12, 69) from rfl) (by decide) xin_X12 xw_27)
  · exact (xr_iconst dX12_sunday_155 (by decide +kernel))
  · exact (fun v w h h2 => xr_dup2 dX12_sunday_156 v w h h2)
  · exact (⟨by decide, xr_iald dX12_sunday_157⟩)
  · exact (xr_iconst dX12_sunday_158 (by decide +kernel))
  · exact (fun x y h => xr_iadd dX12_sunday_159 x y)
  · exact (xr_iast dX12_sunday_160)
  · exact (⟨by decide, xr_iloadn dX12_sunday_161 rfl⟩)
  · exact (⟨dX12_sunday_162, .int, rfl, rfl, Or.inl rfl⟩)
theorem xmo_47 : xMok xmt xm_47 := ⟨xw_154, xw_58, ⟨by decide, by decide, by decide +kernel⟩, by decide +kernel, rfl, xo_47⟩
end
section
theorem xo_48 : ∀ q ∈ xk_48, xok xmt xm_48 q.1 q.2 := by
  refine xcns ?_ <| xcns ?_ <| xcns ?_ <| xcns ?_ <| xcns ?_ <| xcns ?_ <| xcns ?_ <| xcns ?_ <| xcns ?_ <| xnl
  · exact (⟨by decide, xr_aloadn dX12_tavern_0 rfl⟩)
  · exact (xr_iconst dX12_tavern_1 (by decide +kernel))
  · exact (⟨.int, false, 0, rfl, xr_putf dX12_tavern_2 (show vwCl[12]? = some (RX12, TX12, 69) from rfl) (by decide) xin_X12 tyX12_ok nmX12 xw_60 rfl (rfl : tyX12 0 = .int), fun h => (by cases h)⟩)
  · exact (⟨by decide, xr_aloadn dX12_tavern_5 rfl⟩)
  · exact (⟨by decide, xr_iloadn dX12_tavern_6 rfl⟩)
  · exact (⟨rfl, _, rfl, ⟨341, dX12_tavern_7, xw_141, xw_139, xw_140⟩, _, rfl, rfl⟩)
  · exact (xr_ifne dX12_tavern_10 (by decide))
  · exact (xr_iconst dX12_tavern_13 (by decide +kernel))
  · exact (⟨dX12_tavern_14, .int, rfl, rfl, Or.inl rfl⟩)
theorem xmo_48 : xMok xmt xm_48 := ⟨xw_155, xw_58, ⟨by decide, by decide, by decide +kernel⟩, by decide +kernel, rfl, xo_48⟩
theorem xo_49 : ∀ q ∈ xk_49, xok xmt xm_49 q.1 q.2 := by
  refine xcns ?_ <| xcns ?_ <| xcns ?_ <| xcns ?_ <| xcns ?_ <| xcns ?_ <| xcns ?_ <| xcns ?_ <| xcns ?_ <| xcns ?_ <| xcns ?_ <| xcns ?_ <| xcns ?_ <| xcns ?_ <| xcns ?_ <| xcns ?_ <| xcns ?_ <| xcns ?_ <| xcns ?_ <| xcns ?_ <| xcns ?_ <| xcns ?_ <| xcns ?_ <| xcns ?_ <| xcns ?_ <| xcns ?_ <| xcns ?_ <| xcns ?_ <| xcns ?_ <| xcns ?_ <| xcns ?_ <| xcns ?_ <| xcns ?_ <| xcns ?_ <| xcns ?_ <| xcns ?_ <| xcns ?_ <| xcns ?_ <| xcns ?_ <| xcns ?_ <| xcns ?_ <| xcns ?_ <| xcns ?_ <| xcns ?_ <| xcns ?_ <| xcns ?_ <| xcns ?_ <| xcns ?_ <| xcns ?_ <| xcns ?_ <| xcns ?_ <| xcns ?_ <| xcns ?_ <| xcns ?_ <| xcns ?_ <| xcns ?_ <| xcns ?_ <| xcns ?_ <| xcns ?_ <| xcns ?_ <| xcns ?_ <| xcns ?_ <| xcns ?_ <| xcns ?_ <| xcns ?_ <| xcns ?_ <| xcns ?_ <| xcns ?_ <| xcns ?_ <| xcns ?_ <| xcns ?_ <| xcns ?_ <| xcns ?_ <| xcns ?_ <| xcns ?_ <| xcns ?_ <| xcns ?_ <| xcns ?_ <| xcns ?_ <| xcns ?_ <| xcns ?_ <| xcns ?_ <| xcns ?_ <| xcns ?_ <| xcns ?_ <| xcns ?_ <| xcns ?_ <| xcns ?_ <| xcns ?_ <| xcns ?_ <| xcns ?_ <| xcns ?_ <| xcns ?_ <| xcns ?_ <| xcns ?_ <| xcns ?_ <| xcns ?_ <| xcns ?_ <| xcns ?_ <| xcns ?_ <| xcns ?_ <| xcns ?_ <| xcns ?_ <| xcns ?_ <| xcns ?_ <| xcns ?_ <| xcns ?_ <| xcns ?_ <| xcns ?_ <| xcns ?_ <| xcns ?_ <| xcns ?_ <| xcns ?_ <| xcns ?_ <| xcns ?_ <| xcns ?_ <| xcns ?_ <| xcns ?_ <| xcns ?_ <| xcns ?_ <| xcns ?_ <| xcns ?_ <| xcns ?_ <| xcns ?_ <| xcns ?_ <| xcns ?_ <| xcns ?_ <| xcns ?_ <| xcns ?_ <| xcns ?_ <| xcns ?_ <| xcns ?_ <| xcns ?_ <| xcns ?_ <| xcns ?_ <| xcns ?_ <| xcns ?_ <| xcns ?_ <| xcns ?_ <| xcns ?_ <| xcns ?_ <| xcns ?_ <| xcns ?_ <| xcns ?_ <| xcns ?_ <| xcns ?_ <| xcns ?_ <| xcns ?_ <| xcns ?_ <| xcns ?_ <| xcns ?_ <| xcns ?_ <| xcns ?_ <| xcns ?_ <| xcns ?_ <| xcns ?_ <| xcns ?_ <| xcns ?_ <| xcns ?_ <| xcns ?_ <| xcns ?_ <| xcns ?_ <| xcns ?_ <| xcns ?_ <| xcns ?_ <| xcns ?_ <| xcns ?_ <| xcns ?_ <| xcns ?_ <| xcns ?_ <| xcns ?_ <| xcns ?_ <| xcns ?_ <| xcns ?_ <| xcns ?_ <| xcns ?_ <| xcns ?_ <| xnl
  · exact (⟨by decide, xr_aloadn dX12_text_0 rfl⟩)
  · exact (xr_iconst dX12_text_1 (by decide +kernel))
  · exact (⟨.int, false, 0, rfl, xr_putf dX12_text_2 (show vwCl[12]? = some (RX12, TX12, 69) from rfl) (by decide) xin_X12 tyX12_ok nmX12 xw_60 rfl (rfl : tyX12 0 = .int), fun h => (by cases h)⟩)
  · exact (⟨by decide, xr_iloadn dX12_text_5 rfl⟩)
  · exact (xr_iflt dX12_text_6 (by decide))
  · exact (⟨by decide, xr_iloadn dX12_text_9 rfl⟩)
  · exact (⟨by decide, xr_aloadn dX12_text_10 rfl⟩)
  · exact (xr_getf dX12_text_11 (show vwCl[12]? = some (RX12, TX12, 69) from rfl) (by decide) xin_X12 xw_103)
  · exact (xr_icmple dX12_text_14 (by decide))
  · exact (xr_bipush dX12_text_17 (by decide +kernel))
  · exact (⟨dX12_text_19, .int, rfl, rfl, Or.inl rfl⟩)
  · exact (⟨by decide, xr_aloadn dX12_text_20 rfl⟩)
  · exact (⟨by decide, xr_iloadn dX12_text_21 rfl⟩)
  · exact (⟨.int, false, 0, rfl, xr_putf dX12_text_22 (show vwCl[12]? = some (RX12, TX12, 69) from rfl) (by decide) xin_X12 tyX12_ok nmX12 xw_115 rfl (rfl : tyX12 26 = .int), fun h => (by cases h)⟩)
  · exact (⟨by decide, xr_aloadn dX12_text_25 rfl⟩)
  · exact (xr_iconst dX12_text_26 (by decide +kernel))
  · exact (⟨.int, false, 0, rfl, xr_putf dX12_text_27 (show vwCl[12]? = some (RX12, TX12, 69) from rfl) (by decide) xin_X12 tyX12_ok nmX12 xw_103 rfl (rfl : tyX12 2 = .int), fun h => (by cases h)⟩)
  · exact (⟨by decide, xr_aloadn dX12_text_30 rfl⟩)
  · exact (xr_iconst dX12_text_31 (by decide +kernel))
  · exact (⟨.int, false, 0, rfl, xr_putf dX12_text_32 (show vwCl[12]? = some (RX12, TX12, 69) from rfl) (by decide) xin_X12 tyX12_ok nmX12 xw_114 rfl (rfl : tyX12 27 = .int), fun h => (by cases h)⟩)
  · exact (⟨by decide, xr_aloadn dX12_text_35 rfl⟩)
  · exact (xr_iconst dX12_text_36 (by decide +kernel))
  · exact (⟨.int, false, 0, rfl, xr_putf dX12_text_37 (show vwCl[12]? = some (RX12, TX12, 69) from rfl) (by decide) xin_X12 tyX12_ok nmX12 xw_156 rfl (rfl : tyX12 31 = .int), fun h => (by cases h)⟩)
  · exact (⟨by decide, xr_aloadn dX12_text_40 rfl⟩)
  · exact (xr_iconst dX12_text_41 (by decide +kernel))
  · exact (⟨.int, false, 0, rfl, xr_putf dX12_text_42 (show vwCl[12]? = some (RX12, TX12, 69) from rfl) (by decide) xin_X12 tyX12_ok nmX12 xw_157 rfl (rfl : tyX12 32 = .int), fun h => (by cases h)⟩)
  · exact (xr_iconst dX12_text_45 (by decide +kernel))
  · exact (⟨by decide, xr_istoren dX12_text_46 rfl⟩)
  · exact (⟨by decide, xr_iloadn dX12_text_47 rfl⟩)
  · exact (xr_bipush dX12_text_48 (by decide +kernel))
  · exact (xr_icmpge dX12_text_50 (by decide))
  · exact (⟨by decide, xr_aloadn dX12_text_53 rfl⟩)
  · exact (⟨by decide, xr_iloadn dX12_text_54 rfl⟩)
  · exact (xr_iconst dX12_text_55 (by decide +kernel))
  · exact (⟨rfl, _, rfl, ⟨254, dX12_text_56, xw_160, xw_158, xw_159⟩, _, rfl, rfl⟩)
  · exact (xr_iinc dX12_text_59 (by decide +kernel))
  · exact (xr_goto dX12_text_62 (by decide))
  · exact (xr_iconst dX12_text_65 (by decide +kernel))
  · exact (⟨by decide, xr_istoren dX12_text_66 rfl⟩)
  · exact (⟨by decide, xr_iloadn dX12_text_67 rfl⟩)
  · exact (xr_bipush dX12_text_68 (by decide +kernel))
  · exact (xr_icmpge dX12_text_70 (by decide))
  · exact (⟨by decide, xr_aloadn dX12_text_73 rfl⟩)
  · exact (xr_getf dX12_text_74 (show vwCl[12]? = some (RX12, TX12, 69) from rfl) (by decide) xin_X12 xw_22)
  · exact (⟨by decide, xr_iloadn dX12_text_77 rfl⟩)
  · exact (xr_iconst dX12_text_78 (by decide +kernel))
  · exact (xr_iast dX12_text_79)
  · exact (⟨by decide, xr_aloadn dX12_text_80 rfl⟩)
  · exact (xr_getf dX12_text_81 (show vwCl[12]? = some (RX12, TX12, 69) from rfl) (by decide) xin_X12 xw_23)
  · exact (⟨by decide, xr_iloadn dX12_text_84 rfl⟩)
  · exact (xr_iconst dX12_text_85 (by decide +kernel))
  · exact (xr_iast dX12_text_86)
  · exact (xr_iinc dX12_text_87 (by decide +kernel))
  · exact (xr_goto dX12_text_90 (by decide))
  · exact (⟨by decide, xr_aloadn dX12_text_93 rfl⟩)
  · exact (xr_iconst dX12_text_94 (by decide +kernel))
  · exact (⟨.int, false, 0, rfl, xr_putf dX12_text_95 (show vwCl[12]? = some (RX12, TX12, 69) from rfl) (by decide) xin_X12 tyX12_ok nmX12 xw_161 rfl (rfl : tyX12 24 = .int), fun h => (by cases h)⟩)
  · exact (⟨by decide, xr_aloadn dX12_text_98 rfl⟩)
  · exact (xr_iconst dX12_text_99 (by decide +kernel))
  · exact (⟨.int, false, 0, rfl, xr_putf dX12_text_100 (show vwCl[12]? = some (RX12, TX12, 69) from rfl) (by decide) xin_X12 tyX12_ok nmX12 xw_162 rfl (rfl : tyX12 25 = .int), fun h => (by cases h)⟩)
  · exact (⟨by decide, xr_aloadn dX12_text_103 rfl⟩)
  · exact (xr_iconst dX12_text_104 (by decide +kernel))
  · exact (⟨.int, false, 0, rfl, xr_putf dX12_text_105 (show vwCl[12]? = some (RX12, TX12, 69) from rfl) (by decide) xin_X12 tyX12_ok nmX12 xw_163 rfl (rfl : tyX12 35 = .int), fun h => (by cases h)⟩)
  · exact (⟨by decide, xr_aloadn dX12_text_108 rfl⟩)
  · exact (xr_iconst dX12_text_109 (by decide +kernel))
  · exact (⟨.int, false, 0, rfl, xr_putf dX12_text_110 (show vwCl[12]? = some (RX12, TX12, 69) from rfl) (by decide) xin_X12 tyX12_ok nmX12 xw_164 rfl (rfl : tyX12 36 = .int), fun h => (by cases h)⟩)
  · exact (⟨by decide, xr_aloadn dX12_text_113 rfl⟩)
  · exact (⟨rfl, _, rfl, ⟨223, dX12_text_114, xw_167, xw_165, xw_166⟩, _, rfl, rfl⟩)
  · exact (⟨by decide, xr_aloadn dX12_text_117 rfl⟩)
  · exact (xr_getf dX12_text_118 (show vwCl[12]? = some (RX12, TX12, 69) from rfl) (by decide) xin_X12 xw_156)
  · exact (xr_ifne dX12_text_121 (by decide))
  · exact (⟨by decide, xr_aloadn dX12_text_124 rfl⟩)
  · exact (xr_getf dX12_text_125 (show vwCl[12]? = some (RX12, TX12, 69) from rfl) (by decide) xin_X12 xw_168)
  · exact (xr_iconst dX12_text_128 (by decide +kernel))
  · exact (xr_icmpeq dX12_text_129 (by decide))
  · exact (⟨by decide, xr_aloadn dX12_text_139 rfl⟩)
  · exact (⟨by decide, xr_aloadn dX12_text_140 rfl⟩)
  · exact (xr_getf dX12_text_141 (show vwCl[12]? = some (RX12, TX12, 69) from rfl) (by decide) xin_X12 xw_156)
  · exact (⟨.int, false, 0, rfl, xr_putf dX12_text_144 (show vwCl[12]? = some (RX12, TX12, 69) from rfl) (by decide) xin_X12 tyX12_ok nmX12 xw_101 rfl (rfl : tyX12 33 = .int), fun h => (by cases h)⟩)
  · exact (⟨by decide, xr_aloadn dX12_text_147 rfl⟩)
  · exact (⟨by decide, xr_aloadn dX12_text_148 rfl⟩)
  · exact (xr_getf dX12_text_149 (show vwCl[12]? = some (RX12, TX12, 69) from rfl) (by decide) xin_X12 xw_157)
  · exact (⟨.int, false, 0, rfl, xr_putf dX12_text_152 (show vwCl[12]? = some (RX12, TX12, 69) from rfl) (by decide) xin_X12 tyX12_ok nmX12 xw_26 rfl (rfl : tyX12 34 = .int), fun h => (by cases h)⟩)
  · exact (⟨by decide, xr_aloadn dX12_text_155 rfl⟩)
  · exact (xr_getf dX12_text_156 (show vwCl[12]? = some (RX12, TX12, 69) from rfl) (by decide) xin_X12 xw_156)
  · exact (xr_ifeq dX12_text_159 (by decide))
  · exact (⟨by decide, xr_aloadn dX12_text_164 rfl⟩)
  · exact (xr_getf dX12_text_165 (show vwCl[12]? = some (RX12, TX12, 69) from rfl) (by decide) xin_X12 xw_4)
  · exact (⟨rfl, _, rfl, ⟨321, dX12_text_168, xw_169, xw_170⟩⟩)
  · exact (⟨by decide, xr_aloadn dX12_text_171 rfl⟩)
  · exact (xr_getf dX12_text_172 (show vwCl[12]? = some (RX12, TX12, 69) from rfl) (by decide) xin_X12 xw_5)
  · exact (⟨rfl, _, rfl, ⟨321, dX12_text_175, xw_169, xw_170⟩⟩)
  · exact (⟨by decide, xr_aloadn dX12_text_178 rfl⟩)
  · exact (xr_getf dX12_text_179 (show vwCl[12]? = some (RX12, TX12, 69) from rfl) (by decide) xin_X12 xw_6)
  · exact (⟨rfl, _, rfl, ⟨321, dX12_text_182, xw_169, xw_170⟩⟩)
  · exact (⟨by decide, xr_aloadn dX12_text_185 rfl⟩)
  · exact (xr_getf dX12_text_186 (show vwCl[12]? = some (RX12, TX12, 69) from rfl) (by decide) xin_X12 xw_7)
  · exact (⟨rfl, _, rfl, ⟨321, dX12_text_189, xw_169, xw_170⟩⟩)
  · exact (⟨by decide, xr_aloadn dX12_text_192 rfl⟩)
  · exact (xr_getf dX12_text_193 (show vwCl[12]? = some (RX12, TX12, 69) from rfl) (by decide) xin_X12 xw_8)
  · exact (⟨rfl, _, rfl, ⟨321, dX12_text_196, xw_169, xw_170⟩⟩)
  · exact (⟨by decide, xr_aloadn dX12_text_199 rfl⟩)
  · exact (xr_getf dX12_text_200 (show vwCl[12]? = some (RX12, TX12, 69) from rfl) (by decide) xin_X12 xw_9)
  · exact (⟨rfl, _, rfl, ⟨321, dX12_text_203, xw_169, xw_170⟩⟩)
  · exact (⟨by decide, xr_aloadn dX12_text_206 rfl⟩)
  · exact (xr_getf dX12_text_207 (show vwCl[12]? = some (RX12, TX12, 69) from rfl) (by decide) xin_X12 xw_10)
  · exact (⟨rfl, _, rfl, ⟨321, dX12_text_210, xw_169, xw_170⟩⟩)
  · exact (xr_iconst dX12_text_213 (by decide +kernel))
  · exact (⟨by decide, xr_istoren dX12_text_214 rfl⟩)
  · exact (⟨by decide, xr_iloadn dX12_text_215 rfl⟩)
  · exact (xr_bipush dX12_text_216 (by decide +kernel))
  · exact (xr_icmpge dX12_text_218 (by decide))
  · exact (⟨by decide, xr_aloadn dX12_text_221 rfl⟩)
  · exact (xr_getf dX12_text_222 (show vwCl[12]? = some (RX12, TX12, 69) from rfl) (by decide) xin_X12 xw_12)
  · exact (⟨by decide, xr_iloadn dX12_text_225 rfl⟩)
  · exact (⟨by decide, xr_aloadn dX12_text_226 rfl⟩)
  · exact (xr_getf dX12_text_227 (show vwCl[12]? = some (RX12, TX12, 69) from rfl) (by decide) xin_X12 xw_12)
  · exact (xr_bipush dX12_text_230 (by decide +kernel))
  · exact (⟨by decide, xr_iloadn dX12_text_232 rfl⟩)
  · exact (fun x y h => xr_iadd dX12_text_233 x y)
  · exact (⟨by decide, xr_zald dX12_text_234⟩)
  · exact (xr_zast dX12_text_235)
  · exact (xr_iinc dX12_text_236 (by decide +kernel))
  · exact (xr_goto dX12_text_239 (by decide))
  · exact (⟨by decide, xr_aloadn dX12_text_242 rfl⟩)
  · exact (xr_getf dX12_text_243 (show vwCl[12]? = some (RX12, TX12, 69) from rfl) (by decide) xin_X12 xw_13)
  · exact (⟨rfl, _, rfl, ⟨321, dX12_text_246, xw_169, xw_170⟩⟩)
  · exact (⟨by decide, xr_aloadn dX12_text_249 rfl⟩)
  · exact (xr_getf dX12_text_250 (show vwCl[12]? = some (RX12, TX12, 69) from rfl) (by decide) xin_X12 xw_14)
  · exact (⟨rfl, _, rfl, ⟨321, dX12_text_253, xw_169, xw_170⟩⟩)
  · exact (⟨by decide, xr_aloadn dX12_text_256 rfl⟩)
  · exact (xr_getf dX12_text_257 (show vwCl[12]? = some (RX12, TX12, 69) from rfl) (by decide) xin_X12 xw_15)
  · exact (⟨rfl, _, rfl, ⟨321, dX12_text_260, xw_169, xw_170⟩⟩)
  · exact (⟨by decide, xr_aloadn dX12_text_263 rfl⟩)
  · exact (xr_getf dX12_text_264 (show vwCl[12]? = some (RX12, TX12, 69) from rfl) (by decide) xin_X12 xw_16)
  · exact (⟨rfl, _, rfl, ⟨321, dX12_text_267, xw_169, xw_170⟩⟩)
  · exact (⟨by decide, xr_aloadn dX12_text_270 rfl⟩)
  · exact (xr_getf dX12_text_271 (show vwCl[12]? = some (RX12, TX12, 69) from rfl) (by decide) xin_X12 xw_17)
  · exact (⟨rfl, _, rfl, ⟨321, dX12_text_274, xw_169, xw_170⟩⟩)
  · exact (⟨by decide, xr_aloadn dX12_text_277 rfl⟩)
  · exact (xr_getf dX12_text_278 (show vwCl[12]? = some (RX12, TX12, 69) from rfl) (by decide) xin_X12 xw_18)
  · exact (⟨rfl, _, rfl, ⟨321, dX12_text_281, xw_169, xw_170⟩⟩)
  · exact (⟨by decide, xr_aloadn dX12_text_284 rfl⟩)
  · exact (xr_getf dX12_text_285 (show vwCl[12]? = some (RX12, TX12, 69) from rfl) (by decide) xin_X12 xw_19)
  · exact (⟨rfl, _, rfl, ⟨321, dX12_text_288, xw_169, xw_170⟩⟩)
  · exact (⟨by decide, xr_aloadn dX12_text_291 rfl⟩)
  · exact (xr_getf dX12_text_292 (show vwCl[12]? = some (RX12, TX12, 69) from rfl) (by decide) xin_X12 xw_20)
  · exact (⟨rfl, _, rfl, ⟨321, dX12_text_295, xw_169, xw_170⟩⟩)
  · exact (⟨by decide, xr_aloadn dX12_text_298 rfl⟩)
  · exact (xr_getf dX12_text_299 (show vwCl[12]? = some (RX12, TX12, 69) from rfl) (by decide) xin_X12 xw_21)
  · exact (⟨rfl, _, rfl, ⟨321, dX12_text_302, xw_169, xw_170⟩⟩)
  · exact (⟨by decide, xr_aloadn dX12_text_305 rfl⟩)
  · exact (xr_getf dX12_text_306 (show vwCl[12]? = some (RX12, TX12, 69) from rfl) (by decide) xin_X12 xw_22)
  · exact (⟨rfl, _, rfl, ⟨321, dX12_text_309, xw_169, xw_170⟩⟩)
  · exact (⟨by decide, xr_aloadn dX12_text_312 rfl⟩)
  · exact (xr_getf dX12_text_313 (show vwCl[12]? = some (RX12, TX12, 69) from rfl) (by decide) xin_X12 xw_23)
  · exact (⟨rfl, _, rfl, ⟨321, dX12_text_316, xw_169, xw_170⟩⟩)
  · exact (⟨by decide, xr_aloadn dX12_text_319 rfl⟩)
  · exact (xr_getf dX12_text_320 (show vwCl[12]? = some (RX12, TX12, 69) from rfl) (by decide) xin_X12 xw_24)
  · exact (⟨rfl, _, rfl, ⟨321, dX12_text_323, xw_169, xw_170⟩⟩)
  · exact (⟨by decide, xr_aloadn dX12_text_326 rfl⟩)
  · exact (xr_getf dX12_text_327 (show vwCl[12]? = some (RX12, TX12, 69) from rfl) (by decide) xin_X12 xw_25)
  · exact (⟨rfl, _, rfl, ⟨321, dX12_text_330, xw_169, xw_170⟩⟩)
  · exact (⟨by decide, xr_aloadn dX12_text_333 rfl⟩)
  · exact (xr_iconst dX12_text_334 (by decide +kernel))
  · exact (⟨.int, false, 0, rfl, xr_putf dX12_text_335 (show vwCl[12]? = some (RX12, TX12, 69) from rfl) (by decide) xin_X12 tyX12_ok nmX12 xw_81 rfl (rfl : tyX12 61 = .int), fun h => (by cases h)⟩)
  · exact (⟨by decide, xr_aloadn dX12_text_338 rfl⟩)
  · exact (xr_iconst dX12_text_339 (by decide +kernel))
  · exact (⟨.int, false, 0, rfl, xr_putf dX12_text_340 (show vwCl[12]? = some (RX12, TX12, 69) from rfl) (by decide) xin_X12 tyX12_ok nmX12 xw_48 rfl (rfl : tyX12 62 = .int), fun h => (by cases h)⟩)
  · exact (⟨by decide, xr_aloadn dX12_text_343 rfl⟩)
  · exact (xr_iconst dX12_text_344 (by decide +kernel))
  · exact (⟨.boolean, false, 0, rfl, xr_putf dX12_text_345 (show vwCl[12]? = some (RX12, TX12, 69) from rfl) (by decide) xin_X12 tyX12_ok nmX12 xw_61 rfl (rfl : tyX12 49 = .boolean), fun h => (by cases h)⟩)
  · exact (⟨by decide, xr_aloadn dX12_text_348 rfl⟩)
  · exact (⟨rfl, _, rfl, ⟨160, dX12_text_349, xw_56, xw_54, xw_55⟩, _, rfl, rfl⟩)
  · exact (⟨by decide, xr_aloadn dX12_text_352 rfl⟩)
  · exact (xr_getf dX12_text_353 (show vwCl[12]? = some (RX12, TX12, 69) from rfl) (by decide) xin_X12 xw_162)
  · exact (⟨dX12_text_356, .int, rfl, rfl, Or.inl rfl⟩)
theorem xmo_49 : xMok xmt xm_49 := ⟨xw_171, xw_58, ⟨by decide, by decide, by decide +kernel⟩, by decide +kernel, rfl, xo_49⟩
theorem xo_50 : ∀ q ∈ xk_50, xok xmt xm_50 q.1 q.2 := by
  refine xcns ?_ <| xcns ?_ <| xcns ?_ <| xcns ?_ <| xcns ?_ <| xcns ?_ <| xcns ?_ <| xcns ?_ <| xcns ?_ <| xcns ?_ <| xcns ?_ <| xcns ?_ <| xcns ?_ <| xcns ?_ <| xcns ?_ <| xcns ?_ <| xcns ?_ <| xnl
  · exact (⟨by decide, xr_aloadn dX12_thieves_0 rfl⟩)
  · exact (xr_iconst dX12_thieves_1 (by decide +kernel))
  · exact (⟨.int, false, 0, rfl, xr_putf dX12_thieves_2 (show vwCl[12]? = some (RX12, TX12, 69) from rfl) (by decide) xin_X12 tyX12_ok nmX12 xw_60 rfl (rfl : tyX12 0 = .int), fun h => (by cases h)⟩)
  · exact (⟨by decide, xr_aloadn dX12_thieves_5 rfl⟩)
  · exact (⟨rfl, _, rfl, ⟨473, dX12_thieves_6, xw_108, xw_106, xw_107⟩, _, rfl, rfl⟩)
  · exact (xr_iconst dX12_thieves_9 (by decide +kernel))
  · exact (⟨by decide, xr_istoren dX12_thieves_10 rfl⟩)
  · exact (xr_iconst dX12_thieves_11 (by decide +kernel))
  · exact (⟨by decide, xr_istoren dX12_thieves_12 rfl⟩)
  · exact (⟨by decide, xr_iloadn dX12_thieves_13 rfl⟩)
  · exact (⟨by decide, xr_aloadn dX12_thieves_14 rfl⟩)
  · exact (xr_getf dX12_thieves_15 (show vwCl[12]? = some (RX12, TX12, 69) from rfl) (by decide) xin_X12 xw_4)
  · exact (xr_iconst dX12_thieves_18 (by decide +kernel))
  · exact (⟨by decide, xr_iald dX12_thieves_19⟩)
  · exact (xr_icmpge dX12_thieves_20 (by decide))
  · exact (⟨by decide, xr_iloadn dX12_thieves_47 rfl⟩)
  · exact (⟨dX12_thieves_48, .int, rfl, rfl, Or.inl rfl⟩)
theorem xmo_50 : xMok xmt xm_50 := ⟨xw_172, xw_58, ⟨by decide, by decide, by decide +kernel⟩, by decide +kernel, rfl, xo_50⟩
theorem xo_51 : ∀ q ∈ xk_51, xok xmt xm_51 q.1 q.2 := by
  refine xcns ?_ <| xcns ?_ <| xcns ?_ <| xnl
  · exact (⟨by decide, xr_aloadn dX12_thrown_0 rfl⟩)
  · exact (xr_getf dX12_thrown_1 (show vwCl[12]? = some (RX12, TX12, 69) from rfl) (by decide) xin_X12 xw_60)
  · exact (⟨dX12_thrown_4, .int, rfl, rfl, Or.inl rfl⟩)
theorem xmo_51 : xMok xmt xm_51 := ⟨xw_173, xw_58, ⟨by decide, by decide, by decide +kernel⟩, by decide +kernel, rfl, xo_51⟩
theorem xo_52 : ∀ q ∈ xk_52, xok xmt xm_52 q.1 q.2 := by
  refine xcns ?_ <| xcns ?_ <| xcns ?_ <| xcns ?_ <| xcns ?_ <| xcns ?_ <| xcns ?_ <| xcns ?_ <| xcns ?_ <| xcns ?_ <| xcns ?_ <| xcns ?_ <| xcns ?_ <| xcns ?_ <| xcns ?_ <| xcns ?_ <| xcns ?_ <| xcns ?_ <| xcns ?_ <| xcns ?_ <| xcns ?_ <| xcns ?_ <| xcns ?_ <| xnl
  · exact (⟨by decide, xr_aloadn dX12_token_0 rfl⟩)
  · exact (⟨rfl, _, rfl, ⟨175, dX12_token_1, xw_176, xw_174, xw_175⟩, _, rfl, rfl⟩)
  · exact (xr_bipush dX12_token_4 (by decide +kernel))
  · exact (xr_icmpeq dX12_token_6 (by decide))
  · exact (⟨by decide, xr_aloadn dX12_token_9 rfl⟩)
  · exact (⟨rfl, _, rfl, ⟨175, dX12_token_10, xw_176, xw_174, xw_175⟩, _, rfl, rfl⟩)
  · exact (xr_bipush dX12_token_13 (by decide +kernel))
  · exact (xr_icmpne dX12_token_15 (by decide))
  · exact (⟨by decide, xr_aloadn dX12_token_31 rfl⟩)
  · exact (⟨by decide, xr_aloadn dX12_token_32 rfl⟩)
  · exact (xr_getf dX12_token_33 (show vwCl[12]? = some (RX12, TX12, 69) from rfl) (by decide) xin_X12 xw_114)
  · exact (⟨.int, false, 0, rfl, xr_putf dX12_token_36 (show vwCl[12]? = some (RX12, TX12, 69) from rfl) (by decide) xin_X12 tyX12_ok nmX12 xw_177 rfl (rfl : tyX12 28 = .int), fun h => (by cases h)⟩)
  · exact (⟨by decide, xr_aloadn dX12_token_39 rfl⟩)
  · exact (⟨rfl, _, rfl, ⟨175, dX12_token_40, xw_176, xw_174, xw_175⟩, _, rfl, rfl⟩)
  · exact (⟨by decide, xr_istoren dX12_token_43 rfl⟩)
  · exact (⟨by decide, xr_iloadn dX12_token_44 rfl⟩)
  · exact (xr_iconst dX12_token_45 (by decide +kernel))
  · exact (xr_icmpne dX12_token_46 (by decide))
  · exact (⟨by decide, xr_aloadn dX12_token_49 rfl⟩)
  · exact (xr_iconst dX12_token_50 (by decide +kernel))
  · exact (⟨.int, false, 0, rfl, xr_putf dX12_token_51 (show vwCl[12]? = some (RX12, TX12, 69) from rfl) (by decide) xin_X12 tyX12_ok nmX12 xw_168 rfl (rfl : tyX12 29 = .int), fun h => (by cases h)⟩)
  · exact (xr_goto dX12_token_54 (by decide))
  · exact (⟨dX12_token_225, rfl⟩)
theorem xmo_52 : xMok xmt xm_52 := ⟨xw_178, xw_58, ⟨by decide, by decide, by decide +kernel⟩, by decide +kernel, rfl, xo_52⟩
theorem xo_53 : ∀ q ∈ xk_53, xok xmt xm_53 q.1 q.2 := by
  refine xcns ?_ <| xcns ?_ <| xcns ?_ <| xcns ?_ <| xcns ?_ <| xcns ?_ <| xcns ?_ <| xcns ?_ <| xcns ?_ <| xcns ?_ <| xnl
  · exact (⟨by decide, xr_aloadn dX12_undo_0 rfl⟩)
  · exact (xr_iconst dX12_undo_1 (by decide +kernel))
  · exact (⟨.int, false, 0, rfl, xr_putf dX12_undo_2 (show vwCl[12]? = some (RX12, TX12, 69) from rfl) (by decide) xin_X12 tyX12_ok nmX12 xw_60 rfl (rfl : tyX12 0 = .int), fun h => (by cases h)⟩)
  · exact (⟨by decide, xr_aloadn dX12_undo_5 rfl⟩)
  · exact (xr_getf dX12_undo_6 (show vwCl[12]? = some (RX12, TX12, 69) from rfl) (by decide) xin_X12 xw_36)
  · exact (xr_iconst dX12_undo_9 (by decide +kernel))
  · exact (⟨by decide, xr_iald dX12_undo_10⟩)
  · exact (xr_ifne dX12_undo_11 (by decide))
  · exact (xr_iconst dX12_undo_14 (by decide +kernel))
  · exact (⟨dX12_undo_15, .int, rfl, rfl, Or.inl rfl⟩)
theorem xmo_53 : xMok xmt xm_53 := ⟨xw_179, xw_58, ⟨by decide, by decide, by decide +kernel⟩, by decide +kernel, rfl, xo_53⟩
theorem xo_54 : ∀ q ∈ xk_54, xok xmt xm_54 q.1 q.2 := by
  refine xcns ?_ <| xcns ?_ <| xcns ?_ <| xcns ?_ <| xcns ?_ <| xcns ?_ <| xcns ?_ <| xcns ?_ <| xcns ?_ <| xnl
  · exact (⟨by decide, xr_aloadn dX12_verse_0 rfl⟩)
  · exact (xr_iconst dX12_verse_1 (by decide +kernel))
  · exact (⟨.int, false, 0, rfl, xr_putf dX12_verse_2 (show vwCl[12]? = some (RX12, TX12, 69) from rfl) (by decide) xin_X12 tyX12_ok nmX12 xw_60 rfl (rfl : tyX12 0 = .int), fun h => (by cases h)⟩)
  · exact (⟨by decide, xr_aloadn dX12_verse_5 rfl⟩)
  · exact (⟨by decide, xr_iloadn dX12_verse_6 rfl⟩)
  · exact (⟨rfl, _, rfl, ⟨332, dX12_verse_7, xw_65, xw_63, xw_64⟩, _, rfl, rfl⟩)
  · exact (xr_ifne dX12_verse_10 (by decide))
  · exact (xr_iconst dX12_verse_13 (by decide +kernel))
  · exact (⟨dX12_verse_14, .int, rfl, rfl, Or.inl rfl⟩)
theorem xmo_54 : xMok xmt xm_54 := ⟨xw_180, xw_58, ⟨by decide, by decide, by decide +kernel⟩, by decide +kernel, rfl, xo_54⟩
theorem xo_55 : ∀ q ∈ xk_55, xok xmt xm_55 q.1 q.2 := by
  refine xcns ?_ <| xcns ?_ <| xcns ?_ <| xcns ?_ <| xcns ?_ <| xcns ?_ <| xcns ?_ <| xcns ?_ <| xcns ?_ <| xnl
  · exact (⟨by decide, xr_aloadn dX12_whole_0 rfl⟩)
  · exact (xr_iconst dX12_whole_1 (by decide +kernel))
  · exact (⟨.int, false, 0, rfl, xr_putf dX12_whole_2 (show vwCl[12]? = some (RX12, TX12, 69) from rfl) (by decide) xin_X12 tyX12_ok nmX12 xw_60 rfl (rfl : tyX12 0 = .int), fun h => (by cases h)⟩)
  · exact (⟨by decide, xr_aloadn dX12_whole_5 rfl⟩)
  · exact (⟨by decide, xr_iloadn dX12_whole_6 rfl⟩)
  · exact (⟨rfl, _, rfl, ⟨335, dX12_whole_7, xw_90, xw_88, xw_89⟩, _, rfl, rfl⟩)
  · exact (xr_ifeq dX12_whole_10 (by decide))
  · exact (xr_ldc2 dX12_whole_32 xw_181)
  · exact (⟨dX12_whole_35, rfl⟩)
theorem xmo_55 : xMok xmt xm_55 := ⟨xw_182, xw_58, ⟨by decide, by decide, by decide +kernel⟩, by decide +kernel, rfl, xo_55⟩
theorem xo_56 : ∀ q ∈ xk_56, xok xmt xm_56 q.1 q.2 := by
  refine xcns ?_ <| xcns ?_ <| xcns ?_ <| xcns ?_ <| xcns ?_ <| xcns ?_ <| xcns ?_ <| xcns ?_ <| xcns ?_ <| xcns ?_ <| xcns ?_ <| xcns ?_ <| xcns ?_ <| xcns ?_ <| xcns ?_ <| xcns ?_ <| xcns ?_ <| xcns ?_ <| xcns ?_ <| xcns ?_ <| xcns ?_ <| xcns ?_ <| xcns ?_ <| xcns ?_ <| xcns ?_ <| xcns ?_ <| xcns ?_ <| xcns ?_ <| xcns ?_ <| xcns ?_ <| xcns ?_ <| xcns ?_ <| xcns ?_ <| xcns ?_ <| xcns ?_ <| xcns ?_ <| xcns ?_ <| xcns ?_ <| xcns ?_ <| xcns ?_ <| xcns ?_ <| xcns ?_ <| xnl
  · exact (⟨by decide, xr_iloadn dJ6_bitCount_0f7a4_0 rfl⟩)
  · exact (⟨by decide, xr_iloadn dJ6_bitCount_0f7a4_1 rfl⟩)
  · exact (xr_iconst dJ6_bitCount_0f7a4_2 (by decide +kernel))
  · exact (fun x y h => xr_iushr dJ6_bitCount_0f7a4_3 x y)
  · exact (xr_ldcw dJ6_bitCount_0f7a4_4 xw_183)
  · exact (fun x y h => xr_iand dJ6_bitCount_0f7a4_7 x y)
  · exact (fun x y h => xr_isub dJ6_bitCount_0f7a4_8 x y)
  · exact (⟨by decide, xr_istoren dJ6_bitCount_0f7a4_9 rfl⟩)
  · exact (⟨by decide, xr_iloadn dJ6_bitCount_0f7a4_10 rfl⟩)
  · exact (xr_ldcw dJ6_bitCount_0f7a4_11 xw_184)
  · exact (fun x y h => xr_iand dJ6_bitCount_0f7a4_14 x y)
  · exact (⟨by decide, xr_iloadn dJ6_bitCount_0f7a4_15 rfl⟩)
  · exact (xr_iconst dJ6_bitCount_0f7a4_16 (by decide +kernel))
  · exact (fun x y h => xr_iushr dJ6_bitCount_0f7a4_17 x y)
  · exact (xr_ldcw dJ6_bitCount_0f7a4_18 xw_184)
  · exact (fun x y h => xr_iand dJ6_bitCount_0f7a4_21 x y)
  · exact (fun x y h => xr_iadd dJ6_bitCount_0f7a4_22 x y)
  · exact (⟨by decide, xr_istoren dJ6_bitCount_0f7a4_23 rfl⟩)
  · exact (⟨by decide, xr_iloadn dJ6_bitCount_0f7a4_24 rfl⟩)
  · exact (⟨by decide, xr_iloadn dJ6_bitCount_0f7a4_25 rfl⟩)
  · exact (xr_iconst dJ6_bitCount_0f7a4_26 (by decide +kernel))
  · exact (fun x y h => xr_iushr dJ6_bitCount_0f7a4_27 x y)
  · exact (fun x y h => xr_iadd dJ6_bitCount_0f7a4_28 x y)
  · exact (xr_ldcw dJ6_bitCount_0f7a4_29 xw_185)
  · exact (fun x y h => xr_iand dJ6_bitCount_0f7a4_32 x y)
  · exact (⟨by decide, xr_istoren dJ6_bitCount_0f7a4_33 rfl⟩)
  · exact (⟨by decide, xr_iloadn dJ6_bitCount_0f7a4_34 rfl⟩)
  · exact (⟨by decide, xr_iloadn dJ6_bitCount_0f7a4_35 rfl⟩)
  · exact (xr_bipush dJ6_bitCount_0f7a4_36 (by decide +kernel))
  · exact (fun x y h => xr_iushr dJ6_bitCount_0f7a4_38 x y)
  · exact (fun x y h => xr_iadd dJ6_bitCount_0f7a4_39 x y)
  · exact (⟨by decide, xr_istoren dJ6_bitCount_0f7a4_40 rfl⟩)
  · exact (⟨by decide, xr_iloadn dJ6_bitCount_0f7a4_41 rfl⟩)
  · exact (⟨by decide, xr_iloadn dJ6_bitCount_0f7a4_42 rfl⟩)
  · exact (xr_bipush dJ6_bitCount_0f7a4_43 (by decide +kernel))
  · exact (fun x y h => xr_iushr dJ6_bitCount_0f7a4_45 x y)
  · exact (fun x y h => xr_iadd dJ6_bitCount_0f7a4_46 x y)
  · exact (⟨by decide, xr_istoren dJ6_bitCount_0f7a4_47 rfl⟩)
  · exact (⟨by decide, xr_iloadn dJ6_bitCount_0f7a4_48 rfl⟩)
  · exact (xr_bipush dJ6_bitCount_0f7a4_49 (by decide +kernel))
  · exact (fun x y h => xr_iand dJ6_bitCount_0f7a4_51 x y)
  · exact (⟨dJ6_bitCount_0f7a4_52, .int, rfl, rfl, Or.inl rfl⟩)
theorem xmo_56 : xMok xmt xm_56 := ⟨xw_186, xw_187, ⟨by decide, by decide, by decide +kernel⟩, by decide +kernel, rfl, xo_56⟩
theorem xo_57 : ∀ q ∈ xk_57, xok xmt xm_57 q.1 q.2 := by
  refine xcns ?_ <| xcns ?_ <| xcns ?_ <| xcns ?_ <| xcns ?_ <| xcns ?_ <| xnl
  · exact (⟨by decide, xr_iloadn dJ9_min_7cf53_0 rfl⟩)
  · exact (⟨by decide, xr_iloadn dJ9_min_7cf53_1 rfl⟩)
  · exact (xr_icmpgt dJ9_min_7cf53_2 (by decide))
  · exact (⟨by decide, xr_iloadn dJ9_min_7cf53_5 rfl⟩)
  · exact (xr_goto dJ9_min_7cf53_6 (by decide))
  · exact (⟨dJ9_min_7cf53_10, .int, rfl, rfl, Or.inl rfl⟩)
theorem xmo_57 : xMok xmt xm_57 := ⟨xw_188, xw_189, ⟨by decide, by decide, by decide +kernel⟩, by decide +kernel, rfl, xo_57⟩
end
section
theorem xmt_all : ∀ M ∈ xmt, xMok xmt M := xcns xmo_0 <| xcns xmo_1 <| xcns xmo_2 <| xcns xmo_3 <| xcns xmo_4 <| xcns xmo_5 <| xcns xmo_6 <| xcns xmo_7 <| xcns xmo_8 <| xcns xmo_9 <| xcns xmo_10 <| xcns xmo_11 <| xcns xmo_12 <| xcns xmo_13 <| xcns xmo_14 <| xcns xmo_15 <| xcns xmo_16 <| xcns xmo_17 <| xcns xmo_18 <| xcns xmo_19 <| xcns xmo_20 <| xcns xmo_21 <| xcns xmo_22 <| xcns xmo_23 <| xcns xmo_24 <| xcns xmo_25 <| xcns xmo_26 <| xcns xmo_27 <| xcns xmo_28 <| xcns xmo_29 <| xcns xmo_30 <| xcns xmo_31 <| xcns xmo_32 <| xcns xmo_33 <| xcns xmo_34 <| xcns xmo_35 <| xcns xmo_36 <| xcns xmo_37 <| xcns xmo_38 <| xcns xmo_39 <| xcns xmo_40 <| xcns xmo_41 <| xcns xmo_42 <| xcns xmo_43 <| xcns xmo_44 <| xcns xmo_45 <| xcns xmo_46 <| xcns xmo_47 <| xcns xmo_48 <| xcns xmo_49 <| xcns xmo_50 <| xcns xmo_51 <| xcns xmo_52 <| xcns xmo_53 <| xcns xmo_54 <| xcns xmo_55 <| xcns xmo_56 <| xcns xmo_57 <| xnl
theorem xmt_ok : ∀ (mi : Nat) (M : xM), xmt[mi]? = some M → xMok xmt M := fun _ M h => xmt_all M (List.mem_of_getElem? h)
end
