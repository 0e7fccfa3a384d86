section
-- ===== PART A: goes FIRST, ahead of the names: the tables' words, and 'selects' of the private methods out of them =====
/-- a private method of a class that the tables say can be made, by its rows of tables_1 -/
def lw_okq (q : MethodName × Nat) : Prop := (q.1.cls ≠ "java/lang/invoke/MethodHandle" ∧ q.1.cls ≠ "java/lang/invoke/VarHandle") ∧ Cond.instantiable q.1.cls q.2 ∈ tables_1 ∧ Cond.privateMethod q.1 ∈ tables_1 ∧ Cond.instanceMethod q.1 ∈ tables_1
theorem lw_p0 : lw_okq (⟨"RansomHymn$Tokens", "packWords", "(Ljava/lang/String;I)V"⟩, 9) := ⟨⟨by decide +kernel, by decide +kernel⟩, List.mem_of_getElem? (i := 218) (by decide +kernel), List.mem_of_getElem? (i := 225) (by decide +kernel), List.mem_of_getElem? (i := 226) (by decide +kernel)⟩
theorem lw_p1 : lw_okq (⟨"RansomHymn", "tapeNumber", "(I)V"⟩, 15) := ⟨⟨by decide +kernel, by decide +kernel⟩, List.mem_of_getElem? (i := 29) (by decide +kernel), List.mem_of_getElem? (i := 607) (by decide +kernel), List.mem_of_getElem? (i := 608) (by decide +kernel)⟩
theorem lw_p2 : lw_okq (⟨"RansomHymn$Tokens", "readWord", "()V"⟩, 9) := ⟨⟨by decide +kernel, by decide +kernel⟩, List.mem_of_getElem? (i := 218) (by decide +kernel), List.mem_of_getElem? (i := 642) (by decide +kernel), List.mem_of_getElem? (i := 643) (by decide +kernel)⟩
theorem lw_p3 : lw_okq (⟨"RansomHymn$Tokens", "readNumber", "()V"⟩, 9) := ⟨⟨by decide +kernel, by decide +kernel⟩, List.mem_of_getElem? (i := 218) (by decide +kernel), List.mem_of_getElem? (i := 649) (by decide +kernel), List.mem_of_getElem? (i := 650) (by decide +kernel)⟩
theorem lw_p4 : lw_okq (⟨"RansomHymn$Tokens", "readSign", "()V"⟩, 9) := ⟨⟨by decide +kernel, by decide +kernel⟩, List.mem_of_getElem? (i := 218) (by decide +kernel), List.mem_of_getElem? (i := 654) (by decide +kernel), List.mem_of_getElem? (i := 655) (by decide +kernel)⟩
theorem lw_p5 : lw_okq (⟨"RansomHymn$Teller", "readTavern", "()V"⟩, 4) := ⟨⟨by decide +kernel, by decide +kernel⟩, List.mem_of_getElem? (i := 216) (by decide +kernel), List.mem_of_getElem? (i := 661) (by decide +kernel), List.mem_of_getElem? (i := 662) (by decide +kernel)⟩
theorem lw_p6 : lw_okq (⟨"RansomHymn$Teller", "begin", "(LRansomHymn$Roll;)I"⟩, 4) := ⟨⟨by decide +kernel, by decide +kernel⟩, List.mem_of_getElem? (i := 216) (by decide +kernel), List.mem_of_getElem? (i := 665) (by decide +kernel), List.mem_of_getElem? (i := 666) (by decide +kernel)⟩
theorem lw_p7 : lw_okq (⟨"RansomHymn$Teller", "number", "(II)I"⟩, 4) := ⟨⟨by decide +kernel, by decide +kernel⟩, List.mem_of_getElem? (i := 216) (by decide +kernel), List.mem_of_getElem? (i := 687) (by decide +kernel), List.mem_of_getElem? (i := 688) (by decide +kernel)⟩
theorem lw_p8 : lw_okq (⟨"RansomHymn$Teller", "readVoice", "()V"⟩, 4) := ⟨⟨by decide +kernel, by decide +kernel⟩, List.mem_of_getElem? (i := 216) (by decide +kernel), List.mem_of_getElem? (i := 691) (by decide +kernel), List.mem_of_getElem? (i := 692) (by decide +kernel)⟩
theorem lw_p9 : lw_okq (⟨"RansomHymn$Teller", "skips", "(I)Z"⟩, 4) := ⟨⟨by decide +kernel, by decide +kernel⟩, List.mem_of_getElem? (i := 216) (by decide +kernel), List.mem_of_getElem? (i := 695) (by decide +kernel), List.mem_of_getElem? (i := 696) (by decide +kernel)⟩
theorem lw_p10 : lw_okq (⟨"RansomHymn$Teller", "toldTavern", "()I"⟩, 4) := ⟨⟨by decide +kernel, by decide +kernel⟩, List.mem_of_getElem? (i := 216) (by decide +kernel), List.mem_of_getElem? (i := 699) (by decide +kernel), List.mem_of_getElem? (i := 700) (by decide +kernel)⟩
theorem lw_p11 : lw_okq (⟨"RansomHymn$Teller", "readVerse", "()V"⟩, 4) := ⟨⟨by decide +kernel, by decide +kernel⟩, List.mem_of_getElem? (i := 216) (by decide +kernel), List.mem_of_getElem? (i := 703) (by decide +kernel), List.mem_of_getElem? (i := 704) (by decide +kernel)⟩
theorem lw_p12 : lw_okq (⟨"RansomHymn$Teller", "readPart", "(I)V"⟩, 4) := ⟨⟨by decide +kernel, by decide +kernel⟩, List.mem_of_getElem? (i := 216) (by decide +kernel), List.mem_of_getElem? (i := 710) (by decide +kernel), List.mem_of_getElem? (i := 711) (by decide +kernel)⟩
theorem lw_p13 : lw_okq (⟨"RansomHymn$Teller", "readBaker", "()V"⟩, 4) := ⟨⟨by decide +kernel, by decide +kernel⟩, List.mem_of_getElem? (i := 216) (by decide +kernel), List.mem_of_getElem? (i := 714) (by decide +kernel), List.mem_of_getElem? (i := 715) (by decide +kernel)⟩
theorem lw_p14 : lw_okq (⟨"RansomHymn$Formulas", "readValue", "(LRansomHymn$Tokens;)Z"⟩, 10) := ⟨⟨by decide +kernel, by decide +kernel⟩, List.mem_of_getElem? (i := 64) (by decide +kernel), List.mem_of_getElem? (i := 722) (by decide +kernel), List.mem_of_getElem? (i := 723) (by decide +kernel)⟩
theorem lw_p15 : lw_okq (⟨"RansomHymn$Formulas", "hold", "(I)Z"⟩, 10) := ⟨⟨by decide +kernel, by decide +kernel⟩, List.mem_of_getElem? (i := 64) (by decide +kernel), List.mem_of_getElem? (i := 726) (by decide +kernel), List.mem_of_getElem? (i := 727) (by decide +kernel)⟩
def lw_privs_1 : List (MethodName × Nat) := [(⟨"RansomHymn$Tokens", "packWords", "(Ljava/lang/String;I)V"⟩, 9), (⟨"RansomHymn", "tapeNumber", "(I)V"⟩, 15), (⟨"RansomHymn$Tokens", "readWord", "()V"⟩, 9), (⟨"RansomHymn$Tokens", "readNumber", "()V"⟩, 9), (⟨"RansomHymn$Tokens", "readSign", "()V"⟩, 9), (⟨"RansomHymn$Teller", "readTavern", "()V"⟩, 4), (⟨"RansomHymn$Teller", "begin", "(LRansomHymn$Roll;)I"⟩, 4), (⟨"RansomHymn$Teller", "number", "(II)I"⟩, 4), (⟨"RansomHymn$Teller", "readVoice", "()V"⟩, 4), (⟨"RansomHymn$Teller", "skips", "(I)Z"⟩, 4), (⟨"RansomHymn$Teller", "toldTavern", "()I"⟩, 4), (⟨"RansomHymn$Teller", "readVerse", "()V"⟩, 4), (⟨"RansomHymn$Teller", "readPart", "(I)V"⟩, 4), (⟨"RansomHymn$Teller", "readBaker", "()V"⟩, 4), (⟨"RansomHymn$Formulas", "readValue", "(LRansomHymn$Tokens;)Z"⟩, 10), (⟨"RansomHymn$Formulas", "hold", "(I)Z"⟩, 10)]
theorem lw_r1 : ∀ q ∈ lw_privs_1, lw_okq q := List.forall_mem_cons.mpr ⟨lw_p0, List.forall_mem_cons.mpr ⟨lw_p1, List.forall_mem_cons.mpr ⟨lw_p2, List.forall_mem_cons.mpr ⟨lw_p3, List.forall_mem_cons.mpr ⟨lw_p4, List.forall_mem_cons.mpr ⟨lw_p5, List.forall_mem_cons.mpr ⟨lw_p6, List.forall_mem_cons.mpr ⟨lw_p7, List.forall_mem_cons.mpr ⟨lw_p8, List.forall_mem_cons.mpr ⟨lw_p9, List.forall_mem_cons.mpr ⟨lw_p10, List.forall_mem_cons.mpr ⟨lw_p11, List.forall_mem_cons.mpr ⟨lw_p12, List.forall_mem_cons.mpr ⟨lw_p13, List.forall_mem_cons.mpr ⟨lw_p14, List.forall_mem_cons.mpr ⟨lw_p15, fun _ h => absurd h List.not_mem_nil⟩⟩⟩⟩⟩⟩⟩⟩⟩⟩⟩⟩⟩⟩⟩⟩
theorem lw_p16 : lw_okq (⟨"RansomHymn$Formulas", "topLevel", "()I"⟩, 10) := ⟨⟨by decide +kernel, by decide +kernel⟩, List.mem_of_getElem? (i := 64) (by decide +kernel), List.mem_of_getElem? (i := 731) (by decide +kernel), List.mem_of_getElem? (i := 732) (by decide +kernel)⟩
theorem lw_p17 : lw_okq (⟨"RansomHymn$Formulas", "isRoom", "(LRansomHymn$Tokens;)Z"⟩, 10) := ⟨⟨by decide +kernel, by decide +kernel⟩, List.mem_of_getElem? (i := 64) (by decide +kernel), List.mem_of_getElem? (i := 738) (by decide +kernel), List.mem_of_getElem? (i := 739) (by decide +kernel)⟩
theorem lw_p18 : lw_okq (⟨"RansomHymn$Formulas", "put", "(II)Z"⟩, 10) := ⟨⟨by decide +kernel, by decide +kernel⟩, List.mem_of_getElem? (i := 64) (by decide +kernel), List.mem_of_getElem? (i := 742) (by decide +kernel), List.mem_of_getElem? (i := 743) (by decide +kernel)⟩
theorem lw_p19 : lw_okq (⟨"RansomHymn$Formulas", "readSign", "(LRansomHymn$Tokens;)Z"⟩, 10) := ⟨⟨by decide +kernel, by decide +kernel⟩, List.mem_of_getElem? (i := 64) (by decide +kernel), List.mem_of_getElem? (i := 746) (by decide +kernel), List.mem_of_getElem? (i := 747) (by decide +kernel)⟩
theorem lw_p20 : lw_okq (⟨"RansomHymn$Formulas", "settle", "(I)V"⟩, 10) := ⟨⟨by decide +kernel, by decide +kernel⟩, List.mem_of_getElem? (i := 64) (by decide +kernel), List.mem_of_getElem? (i := 750) (by decide +kernel), List.mem_of_getElem? (i := 751) (by decide +kernel)⟩
theorem lw_p21 : lw_okq (⟨"RansomHymn$Teller", "loneNumber", "(ZI)I"⟩, 4) := ⟨⟨by decide +kernel, by decide +kernel⟩, List.mem_of_getElem? (i := 216) (by decide +kernel), List.mem_of_getElem? (i := 755) (by decide +kernel), List.mem_of_getElem? (i := 756) (by decide +kernel)⟩
theorem lw_p22 : lw_okq (⟨"RansomHymn$Teller", "readLaw", "()V"⟩, 4) := ⟨⟨by decide +kernel, by decide +kernel⟩, List.mem_of_getElem? (i := 216) (by decide +kernel), List.mem_of_getElem? (i := 760) (by decide +kernel), List.mem_of_getElem? (i := 761) (by decide +kernel)⟩
theorem lw_p23 : lw_okq (⟨"RansomHymn", "claimsOn", "(I)I"⟩, 15) := ⟨⟨by decide +kernel, by decide +kernel⟩, List.mem_of_getElem? (i := 29) (by decide +kernel), List.mem_of_getElem? (i := 800) (by decide +kernel), List.mem_of_getElem? (i := 801) (by decide +kernel)⟩
theorem lw_p24 : lw_okq (⟨"RansomHymn$Laws", "setOwner", "(III)V"⟩, 6) := ⟨⟨by decide +kernel, by decide +kernel⟩, List.mem_of_getElem? (i := 406) (by decide +kernel), List.mem_of_getElem? (i := 850) (by decide +kernel), List.mem_of_getElem? (i := 851) (by decide +kernel)⟩
theorem lw_p25 : lw_okq (⟨"RansomHymn$Laws", "setMusic", "(IIII)V"⟩, 6) := ⟨⟨by decide +kernel, by decide +kernel⟩, List.mem_of_getElem? (i := 406) (by decide +kernel), List.mem_of_getElem? (i := 865) (by decide +kernel), List.mem_of_getElem? (i := 866) (by decide +kernel)⟩
theorem lw_p26 : lw_okq (⟨"RansomHymn$Laws", "reckon", "(III)I"⟩, 6) := ⟨⟨by decide +kernel, by decide +kernel⟩, List.mem_of_getElem? (i := 406) (by decide +kernel), List.mem_of_getElem? (i := 869) (by decide +kernel), List.mem_of_getElem? (i := 870) (by decide +kernel)⟩
theorem lw_p27 : lw_okq (⟨"RansomHymn$Laws", "apply", "(II)V"⟩, 6) := ⟨⟨by decide +kernel, by decide +kernel⟩, List.mem_of_getElem? (i := 406) (by decide +kernel), List.mem_of_getElem? (i := 874) (by decide +kernel), List.mem_of_getElem? (i := 875) (by decide +kernel)⟩
theorem lw_p28 : lw_okq (⟨"RansomHymn$Laws", "push", "(J)V"⟩, 6) := ⟨⟨by decide +kernel, by decide +kernel⟩, List.mem_of_getElem? (i := 406) (by decide +kernel), List.mem_of_getElem? (i := 878) (by decide +kernel), List.mem_of_getElem? (i := 879) (by decide +kernel)⟩
theorem lw_p29 : lw_okq (⟨"RansomHymn$Laws", "pop", "()J"⟩, 6) := ⟨⟨by decide +kernel, by decide +kernel⟩, List.mem_of_getElem? (i := 406) (by decide +kernel), List.mem_of_getElem? (i := 884) (by decide +kernel), List.mem_of_getElem? (i := 885) (by decide +kernel)⟩
theorem lw_p30 : lw_okq (⟨"RansomHymn$Laws", "scale", "(IJJ)J"⟩, 6) := ⟨⟨by decide +kernel, by decide +kernel⟩, List.mem_of_getElem? (i := 406) (by decide +kernel), List.mem_of_getElem? (i := 888) (by decide +kernel), List.mem_of_getElem? (i := 889) (by decide +kernel)⟩
theorem lw_p31 : lw_okq (⟨"RansomHymn", "singsIn", "(II)Z"⟩, 15) := ⟨⟨by decide +kernel, by decide +kernel⟩, List.mem_of_getElem? (i := 29) (by decide +kernel), List.mem_of_getElem? (i := 933) (by decide +kernel), List.mem_of_getElem? (i := 934) (by decide +kernel)⟩
def lw_privs_2 : List (MethodName × Nat) := [(⟨"RansomHymn$Formulas", "topLevel", "()I"⟩, 10), (⟨"RansomHymn$Formulas", "isRoom", "(LRansomHymn$Tokens;)Z"⟩, 10), (⟨"RansomHymn$Formulas", "put", "(II)Z"⟩, 10), (⟨"RansomHymn$Formulas", "readSign", "(LRansomHymn$Tokens;)Z"⟩, 10), (⟨"RansomHymn$Formulas", "settle", "(I)V"⟩, 10), (⟨"RansomHymn$Teller", "loneNumber", "(ZI)I"⟩, 4), (⟨"RansomHymn$Teller", "readLaw", "()V"⟩, 4), (⟨"RansomHymn", "claimsOn", "(I)I"⟩, 15), (⟨"RansomHymn$Laws", "setOwner", "(III)V"⟩, 6), (⟨"RansomHymn$Laws", "setMusic", "(IIII)V"⟩, 6), (⟨"RansomHymn$Laws", "reckon", "(III)I"⟩, 6), (⟨"RansomHymn$Laws", "apply", "(II)V"⟩, 6), (⟨"RansomHymn$Laws", "push", "(J)V"⟩, 6), (⟨"RansomHymn$Laws", "pop", "()J"⟩, 6), (⟨"RansomHymn$Laws", "scale", "(IJJ)J"⟩, 6), (⟨"RansomHymn", "singsIn", "(II)Z"⟩, 15)]
theorem lw_r2 : ∀ q ∈ lw_privs_2, lw_okq q := List.forall_mem_cons.mpr ⟨lw_p16, List.forall_mem_cons.mpr ⟨lw_p17, List.forall_mem_cons.mpr ⟨lw_p18, List.forall_mem_cons.mpr ⟨lw_p19, List.forall_mem_cons.mpr ⟨lw_p20, List.forall_mem_cons.mpr ⟨lw_p21, List.forall_mem_cons.mpr ⟨lw_p22, List.forall_mem_cons.mpr ⟨lw_p23, List.forall_mem_cons.mpr ⟨lw_p24, List.forall_mem_cons.mpr ⟨lw_p25, List.forall_mem_cons.mpr ⟨lw_p26, List.forall_mem_cons.mpr ⟨lw_p27, List.forall_mem_cons.mpr ⟨lw_p28, List.forall_mem_cons.mpr ⟨lw_p29, List.forall_mem_cons.mpr ⟨lw_p30, List.forall_mem_cons.mpr ⟨lw_p31, fun _ h => absurd h List.not_mem_nil⟩⟩⟩⟩⟩⟩⟩⟩⟩⟩⟩⟩⟩⟩⟩⟩
theorem lw_p32 : lw_okq (⟨"RansomHymn", "singPart", "(I)I"⟩, 15) := ⟨⟨by decide +kernel, by decide +kernel⟩, List.mem_of_getElem? (i := 29) (by decide +kernel), List.mem_of_getElem? (i := 961) (by decide +kernel), List.mem_of_getElem? (i := 962) (by decide +kernel)⟩
theorem lw_p33 : lw_okq (⟨"RansomHymn", "crackBoys", "()V"⟩, 15) := ⟨⟨by decide +kernel, by decide +kernel⟩, List.mem_of_getElem? (i := 29) (by decide +kernel), List.mem_of_getElem? (i := 967) (by decide +kernel), List.mem_of_getElem? (i := 968) (by decide +kernel)⟩
theorem lw_p34 : lw_okq (⟨"RansomHymn$Choice", "weighPart", "(II)V"⟩, 11) := ⟨⟨by decide +kernel, by decide +kernel⟩, List.mem_of_getElem? (i := 432) (by decide +kernel), List.mem_of_getElem? (i := 993) (by decide +kernel), List.mem_of_getElem? (i := 994) (by decide +kernel)⟩
theorem lw_p35 : lw_okq (⟨"RansomHymn$Choice", "weighRows", "(I)V"⟩, 11) := ⟨⟨by decide +kernel, by decide +kernel⟩, List.mem_of_getElem? (i := 432) (by decide +kernel), List.mem_of_getElem? (i := 1001) (by decide +kernel), List.mem_of_getElem? (i := 1002) (by decide +kernel)⟩
theorem lw_p36 : lw_okq (⟨"RansomHymn$Choice", "rowsOf", "(I)I"⟩, 11) := ⟨⟨by decide +kernel, by decide +kernel⟩, List.mem_of_getElem? (i := 432) (by decide +kernel), List.mem_of_getElem? (i := 1005) (by decide +kernel), List.mem_of_getElem? (i := 1006) (by decide +kernel)⟩
theorem lw_p37 : lw_okq (⟨"RansomHymn$Choice", "fits", "(II)Z"⟩, 11) := ⟨⟨by decide +kernel, by decide +kernel⟩, List.mem_of_getElem? (i := 432) (by decide +kernel), List.mem_of_getElem? (i := 1009) (by decide +kernel), List.mem_of_getElem? (i := 1010) (by decide +kernel)⟩
theorem lw_p38 : lw_okq (⟨"RansomHymn$Choice", "joinRest", "(I)V"⟩, 11) := ⟨⟨by decide +kernel, by decide +kernel⟩, List.mem_of_getElem? (i := 432) (by decide +kernel), List.mem_of_getElem? (i := 1013) (by decide +kernel), List.mem_of_getElem? (i := 1014) (by decide +kernel)⟩
theorem lw_p39 : lw_okq (⟨"RansomHymn$Choice", "isBest", "(II)Z"⟩, 11) := ⟨⟨by decide +kernel, by decide +kernel⟩, List.mem_of_getElem? (i := 432) (by decide +kernel), List.mem_of_getElem? (i := 1035) (by decide +kernel), List.mem_of_getElem? (i := 1036) (by decide +kernel)⟩
theorem lw_p40 : lw_okq (⟨"RansomHymn$Sale", "sellVerse", "(I)V"⟩, 6) := ⟨⟨by decide +kernel, by decide +kernel⟩, List.mem_of_getElem? (i := 476) (by decide +kernel), List.mem_of_getElem? (i := 1052) (by decide +kernel), List.mem_of_getElem? (i := 1053) (by decide +kernel)⟩
theorem lw_p41 : lw_okq (⟨"RansomHymn", "knownCount", "()I"⟩, 15) := ⟨⟨by decide +kernel, by decide +kernel⟩, List.mem_of_getElem? (i := 29) (by decide +kernel), List.mem_of_getElem? (i := 1082) (by decide +kernel), List.mem_of_getElem? (i := 1083) (by decide +kernel)⟩
theorem lw_p42 : lw_okq (⟨"RansomHymn", "reachOf", "(I)J"⟩, 15) := ⟨⟨by decide +kernel, by decide +kernel⟩, List.mem_of_getElem? (i := 29) (by decide +kernel), List.mem_of_getElem? (i := 1109) (by decide +kernel), List.mem_of_getElem? (i := 1110) (by decide +kernel)⟩
theorem lw_p43 : lw_okq (⟨"RansomHymn", "isRound", "(IIII)Z"⟩, 15) := ⟨⟨by decide +kernel, by decide +kernel⟩, List.mem_of_getElem? (i := 29) (by decide +kernel), List.mem_of_getElem? (i := 1117) (by decide +kernel), List.mem_of_getElem? (i := 1118) (by decide +kernel)⟩
theorem lw_p44 : lw_okq (⟨"RansomHymn$Canon", "fill", "(IIJ)V"⟩, 10) := ⟨⟨by decide +kernel, by decide +kernel⟩, List.mem_of_getElem? (i := 504) (by decide +kernel), List.mem_of_getElem? (i := 1127) (by decide +kernel), List.mem_of_getElem? (i := 1128) (by decide +kernel)⟩
theorem lw_p45 : lw_okq (⟨"RansomHymn", "shareOf", "(II)I"⟩, 15) := ⟨⟨by decide +kernel, by decide +kernel⟩, List.mem_of_getElem? (i := 29) (by decide +kernel), List.mem_of_getElem? (i := 1146) (by decide +kernel), List.mem_of_getElem? (i := 1147) (by decide +kernel)⟩
theorem lw_p46 : lw_okq (⟨"java/lang/Throwable", "fillInStackTrace", "(I)Ljava/lang/Throwable;"⟩, 6) := ⟨⟨by decide +kernel, by decide +kernel⟩, List.mem_of_getElem? (i := 1226) (by decide +kernel), List.mem_of_getElem? (i := 1224) (by decide +kernel), List.mem_of_getElem? (i := 1225) (by decide +kernel)⟩
theorem lw_p47 : lw_okq (⟨"RansomHymnModel", "begins", "()V"⟩, 69) := ⟨⟨by decide +kernel, by decide +kernel⟩, List.mem_of_getElem? (i := 1271) (by decide +kernel), List.mem_of_getElem? (i := 1277) (by decide +kernel), List.mem_of_getElem? (i := 1278) (by decide +kernel)⟩
def lw_privs_3 : List (MethodName × Nat) := [(⟨"RansomHymn", "singPart", "(I)I"⟩, 15), (⟨"RansomHymn", "crackBoys", "()V"⟩, 15), (⟨"RansomHymn$Choice", "weighPart", "(II)V"⟩, 11), (⟨"RansomHymn$Choice", "weighRows", "(I)V"⟩, 11), (⟨"RansomHymn$Choice", "rowsOf", "(I)I"⟩, 11), (⟨"RansomHymn$Choice", "fits", "(II)Z"⟩, 11), (⟨"RansomHymn$Choice", "joinRest", "(I)V"⟩, 11), (⟨"RansomHymn$Choice", "isBest", "(II)Z"⟩, 11), (⟨"RansomHymn$Sale", "sellVerse", "(I)V"⟩, 6), (⟨"RansomHymn", "knownCount", "()I"⟩, 15), (⟨"RansomHymn", "reachOf", "(I)J"⟩, 15), (⟨"RansomHymn", "isRound", "(IIII)Z"⟩, 15), (⟨"RansomHymn$Canon", "fill", "(IIJ)V"⟩, 10), (⟨"RansomHymn", "shareOf", "(II)I"⟩, 15), (⟨"java/lang/Throwable", "fillInStackTrace", "(I)Ljava/lang/Throwable;"⟩, 6), (⟨"RansomHymnModel", "begins", "()V"⟩, 69)]
theorem lw_r3 : ∀ q ∈ lw_privs_3, lw_okq q := List.forall_mem_cons.mpr ⟨lw_p32, List.forall_mem_cons.mpr ⟨lw_p33, List.forall_mem_cons.mpr ⟨lw_p34, List.forall_mem_cons.mpr ⟨lw_p35, List.forall_mem_cons.mpr ⟨lw_p36, List.forall_mem_cons.mpr ⟨lw_p37, List.forall_mem_cons.mpr ⟨lw_p38, List.forall_mem_cons.mpr ⟨lw_p39, List.forall_mem_cons.mpr ⟨lw_p40, List.forall_mem_cons.mpr ⟨lw_p41, List.forall_mem_cons.mpr ⟨lw_p42, List.forall_mem_cons.mpr ⟨lw_p43, List.forall_mem_cons.mpr ⟨lw_p44, List.forall_mem_cons.mpr ⟨lw_p45, List.forall_mem_cons.mpr ⟨lw_p46, List.forall_mem_cons.mpr ⟨lw_p47, fun _ h => absurd h List.not_mem_nil⟩⟩⟩⟩⟩⟩⟩⟩⟩⟩⟩⟩⟩⟩⟩⟩
theorem lw_p48 : lw_okq (⟨"RansomHymnModel", "reads", "(II)V"⟩, 69) := ⟨⟨by decide +kernel, by decide +kernel⟩, List.mem_of_getElem? (i := 1271) (by decide +kernel), List.mem_of_getElem? (i := 1502) (by decide +kernel), List.mem_of_getElem? (i := 1503) (by decide +kernel)⟩
theorem lw_p49 : lw_okq (⟨"RansomHymnModel", "token", "()V"⟩, 69) := ⟨⟨by decide +kernel, by decide +kernel⟩, List.mem_of_getElem? (i := 1271) (by decide +kernel), List.mem_of_getElem? (i := 1506) (by decide +kernel), List.mem_of_getElem? (i := 1507) (by decide +kernel)⟩
theorem lw_p50 : lw_okq (⟨"RansomHymnModel", "here", "()I"⟩, 69) := ⟨⟨by decide +kernel, by decide +kernel⟩, List.mem_of_getElem? (i := 1271) (by decide +kernel), List.mem_of_getElem? (i := 1510) (by decide +kernel), List.mem_of_getElem? (i := 1511) (by decide +kernel)⟩
theorem lw_p51 : lw_okq (⟨"RansomHymnModel", "word", "()I"⟩, 69) := ⟨⟨by decide +kernel, by decide +kernel⟩, List.mem_of_getElem? (i := 1271) (by decide +kernel), List.mem_of_getElem? (i := 1517) (by decide +kernel), List.mem_of_getElem? (i := 1518) (by decide +kernel)⟩
theorem lw_p52 : lw_okq (⟨"RansomHymnModel", "name", "()V"⟩, 69) := ⟨⟨by decide +kernel, by decide +kernel⟩, List.mem_of_getElem? (i := 1271) (by decide +kernel), List.mem_of_getElem? (i := 1524) (by decide +kernel), List.mem_of_getElem? (i := 1525) (by decide +kernel)⟩
theorem lw_p53 : lw_okq (⟨"RansomHymnModel", "sign", "(I)V"⟩, 69) := ⟨⟨by decide +kernel, by decide +kernel⟩, List.mem_of_getElem? (i := 1271) (by decide +kernel), List.mem_of_getElem? (i := 1532) (by decide +kernel), List.mem_of_getElem? (i := 1533) (by decide +kernel)⟩
theorem lw_p54 : lw_okq (⟨"RansomHymnModel", "line", "()V"⟩, 69) := ⟨⟨by decide +kernel, by decide +kernel⟩, List.mem_of_getElem? (i := 1271) (by decide +kernel), List.mem_of_getElem? (i := 1536) (by decide +kernel), List.mem_of_getElem? (i := 1537) (by decide +kernel)⟩
theorem lw_p55 : lw_okq (⟨"RansomHymnModel", "wrong", "(I)V"⟩, 69) := ⟨⟨by decide +kernel, by decide +kernel⟩, List.mem_of_getElem? (i := 1271) (by decide +kernel), List.mem_of_getElem? (i := 1540) (by decide +kernel), List.mem_of_getElem? (i := 1541) (by decide +kernel)⟩
theorem lw_p56 : lw_okq (⟨"RansomHymnModel", "isFull", "(I)Z"⟩, 69) := ⟨⟨by decide +kernel, by decide +kernel⟩, List.mem_of_getElem? (i := 1271) (by decide +kernel), List.mem_of_getElem? (i := 1544) (by decide +kernel), List.mem_of_getElem? (i := 1545) (by decide +kernel)⟩
theorem lw_p57 : lw_okq (⟨"RansomHymnModel", "fresher", "(I)I"⟩, 69) := ⟨⟨by decide +kernel, by decide +kernel⟩, List.mem_of_getElem? (i := 1271) (by decide +kernel), List.mem_of_getElem? (i := 1548) (by decide +kernel), List.mem_of_getElem? (i := 1549) (by decide +kernel)⟩
theorem lw_p58 : lw_okq (⟨"RansomHymnModel", "fresh", "([III)I"⟩, 69) := ⟨⟨by decide +kernel, by decide +kernel⟩, List.mem_of_getElem? (i := 1271) (by decide +kernel), List.mem_of_getElem? (i := 1552) (by decide +kernel), List.mem_of_getElem? (i := 1553) (by decide +kernel)⟩
theorem lw_p59 : lw_okq (⟨"RansomHymnModel", "numeral", "(II)I"⟩, 69) := ⟨⟨by decide +kernel, by decide +kernel⟩, List.mem_of_getElem? (i := 1271) (by decide +kernel), List.mem_of_getElem? (i := 1559) (by decide +kernel), List.mem_of_getElem? (i := 1560) (by decide +kernel)⟩
theorem lw_p60 : lw_okq (⟨"RansomHymnModel", "voiceLine", "(I)V"⟩, 69) := ⟨⟨by decide +kernel, by decide +kernel⟩, List.mem_of_getElem? (i := 1271) (by decide +kernel), List.mem_of_getElem? (i := 1563) (by decide +kernel), List.mem_of_getElem? (i := 1564) (by decide +kernel)⟩
theorem lw_p61 : lw_okq (⟨"RansomHymnModel", "isWord", "(I)Z"⟩, 69) := ⟨⟨by decide +kernel, by decide +kernel⟩, List.mem_of_getElem? (i := 1271) (by decide +kernel), List.mem_of_getElem? (i := 1567) (by decide +kernel), List.mem_of_getElem? (i := 1568) (by decide +kernel)⟩
theorem lw_p62 : lw_okq (⟨"RansomHymnModel", "tavernAhead", "()I"⟩, 69) := ⟨⟨by decide +kernel, by decide +kernel⟩, List.mem_of_getElem? (i := 1271) (by decide +kernel), List.mem_of_getElem? (i := 1571) (by decide +kernel), List.mem_of_getElem? (i := 1572) (by decide +kernel)⟩
theorem lw_p63 : lw_okq (⟨"RansomHymnModel", "goOn", "()V"⟩, 69) := ⟨⟨by decide +kernel, by decide +kernel⟩, List.mem_of_getElem? (i := 1271) (by decide +kernel), List.mem_of_getElem? (i := 1575) (by decide +kernel), List.mem_of_getElem? (i := 1576) (by decide +kernel)⟩
def lw_privs_4 : List (MethodName × Nat) := [(⟨"RansomHymnModel", "reads", "(II)V"⟩, 69), (⟨"RansomHymnModel", "token", "()V"⟩, 69), (⟨"RansomHymnModel", "here", "()I"⟩, 69), (⟨"RansomHymnModel", "word", "()I"⟩, 69), (⟨"RansomHymnModel", "name", "()V"⟩, 69), (⟨"RansomHymnModel", "sign", "(I)V"⟩, 69), (⟨"RansomHymnModel", "line", "()V"⟩, 69), (⟨"RansomHymnModel", "wrong", "(I)V"⟩, 69), (⟨"RansomHymnModel", "isFull", "(I)Z"⟩, 69), (⟨"RansomHymnModel", "fresher", "(I)I"⟩, 69), (⟨"RansomHymnModel", "fresh", "([III)I"⟩, 69), (⟨"RansomHymnModel", "numeral", "(II)I"⟩, 69), (⟨"RansomHymnModel", "voiceLine", "(I)V"⟩, 69), (⟨"RansomHymnModel", "isWord", "(I)Z"⟩, 69), (⟨"RansomHymnModel", "tavernAhead", "()I"⟩, 69), (⟨"RansomHymnModel", "goOn", "()V"⟩, 69)]
theorem lw_r4 : ∀ q ∈ lw_privs_4, lw_okq q := List.forall_mem_cons.mpr ⟨lw_p48, List.forall_mem_cons.mpr ⟨lw_p49, List.forall_mem_cons.mpr ⟨lw_p50, List.forall_mem_cons.mpr ⟨lw_p51, List.forall_mem_cons.mpr ⟨lw_p52, List.forall_mem_cons.mpr ⟨lw_p53, List.forall_mem_cons.mpr ⟨lw_p54, List.forall_mem_cons.mpr ⟨lw_p55, List.forall_mem_cons.mpr ⟨lw_p56, List.forall_mem_cons.mpr ⟨lw_p57, List.forall_mem_cons.mpr ⟨lw_p58, List.forall_mem_cons.mpr ⟨lw_p59, List.forall_mem_cons.mpr ⟨lw_p60, List.forall_mem_cons.mpr ⟨lw_p61, List.forall_mem_cons.mpr ⟨lw_p62, List.forall_mem_cons.mpr ⟨lw_p63, fun _ h => absurd h List.not_mem_nil⟩⟩⟩⟩⟩⟩⟩⟩⟩⟩⟩⟩⟩⟩⟩⟩
theorem lw_p64 : lw_okq (⟨"RansomHymnModel", "verseLine", "(I)V"⟩, 69) := ⟨⟨by decide +kernel, by decide +kernel⟩, List.mem_of_getElem? (i := 1271) (by decide +kernel), List.mem_of_getElem? (i := 1579) (by decide +kernel), List.mem_of_getElem? (i := 1580) (by decide +kernel)⟩
theorem lw_p65 : lw_okq (⟨"RansomHymnModel", "partLine", "(I)V"⟩, 69) := ⟨⟨by decide +kernel, by decide +kernel⟩, List.mem_of_getElem? (i := 1271) (by decide +kernel), List.mem_of_getElem? (i := 1583) (by decide +kernel), List.mem_of_getElem? (i := 1584) (by decide +kernel)⟩
theorem lw_p66 : lw_okq (⟨"RansomHymnModel", "sumOf", "(I)V"⟩, 69) := ⟨⟨by decide +kernel, by decide +kernel⟩, List.mem_of_getElem? (i := 1271) (by decide +kernel), List.mem_of_getElem? (i := 1587) (by decide +kernel), List.mem_of_getElem? (i := 1588) (by decide +kernel)⟩
theorem lw_p67 : lw_okq (⟨"RansomHymnModel", "expression", "()V"⟩, 69) := ⟨⟨by decide +kernel, by decide +kernel⟩, List.mem_of_getElem? (i := 1271) (by decide +kernel), List.mem_of_getElem? (i := 1591) (by decide +kernel), List.mem_of_getElem? (i := 1592) (by decide +kernel)⟩
theorem lw_p68 : lw_okq (⟨"RansomHymnModel", "conjunction", "()V"⟩, 69) := ⟨⟨by decide +kernel, by decide +kernel⟩, List.mem_of_getElem? (i := 1271) (by decide +kernel), List.mem_of_getElem? (i := 1595) (by decide +kernel), List.mem_of_getElem? (i := 1596) (by decide +kernel)⟩
theorem lw_p69 : lw_okq (⟨"RansomHymnModel", "negation", "()V"⟩, 69) := ⟨⟨by decide +kernel, by decide +kernel⟩, List.mem_of_getElem? (i := 1271) (by decide +kernel), List.mem_of_getElem? (i := 1599) (by decide +kernel), List.mem_of_getElem? (i := 1600) (by decide +kernel)⟩
theorem lw_p70 : lw_okq (⟨"RansomHymnModel", "knot", "()V"⟩, 69) := ⟨⟨by decide +kernel, by decide +kernel⟩, List.mem_of_getElem? (i := 1271) (by decide +kernel), List.mem_of_getElem? (i := 1603) (by decide +kernel), List.mem_of_getElem? (i := 1604) (by decide +kernel)⟩
theorem lw_p71 : lw_okq (⟨"RansomHymnModel", "puts", "(II)V"⟩, 69) := ⟨⟨by decide +kernel, by decide +kernel⟩, List.mem_of_getElem? (i := 1271) (by decide +kernel), List.mem_of_getElem? (i := 1607) (by decide +kernel), List.mem_of_getElem? (i := 1608) (by decide +kernel)⟩
theorem lw_p72 : lw_okq (⟨"RansomHymnModel", "sum", "()V"⟩, 69) := ⟨⟨by decide +kernel, by decide +kernel⟩, List.mem_of_getElem? (i := 1271) (by decide +kernel), List.mem_of_getElem? (i := 1611) (by decide +kernel), List.mem_of_getElem? (i := 1612) (by decide +kernel)⟩
theorem lw_p73 : lw_okq (⟨"RansomHymnModel", "product", "()V"⟩, 69) := ⟨⟨by decide +kernel, by decide +kernel⟩, List.mem_of_getElem? (i := 1271) (by decide +kernel), List.mem_of_getElem? (i := 1615) (by decide +kernel), List.mem_of_getElem? (i := 1616) (by decide +kernel)⟩
theorem lw_p74 : lw_okq (⟨"RansomHymnModel", "primary", "()V"⟩, 69) := ⟨⟨by decide +kernel, by decide +kernel⟩, List.mem_of_getElem? (i := 1271) (by decide +kernel), List.mem_of_getElem? (i := 1619) (by decide +kernel), List.mem_of_getElem? (i := 1620) (by decide +kernel)⟩
theorem lw_p75 : lw_okq (⟨"RansomHymnModel", "isSign", "(I)Z"⟩, 69) := ⟨⟨by decide +kernel, by decide +kernel⟩, List.mem_of_getElem? (i := 1271) (by decide +kernel), List.mem_of_getElem? (i := 1623) (by decide +kernel), List.mem_of_getElem? (i := 1624) (by decide +kernel)⟩
theorem lw_p76 : lw_okq (⟨"RansomHymnModel", "lawLine", "()V"⟩, 69) := ⟨⟨by decide +kernel, by decide +kernel⟩, List.mem_of_getElem? (i := 1271) (by decide +kernel), List.mem_of_getElem? (i := 1627) (by decide +kernel), List.mem_of_getElem? (i := 1628) (by decide +kernel)⟩
theorem lw_p77 : lw_okq (⟨"RansomHymnModel", "isVoice", "(I)Z"⟩, 69) := ⟨⟨by decide +kernel, by decide +kernel⟩, List.mem_of_getElem? (i := 1271) (by decide +kernel), List.mem_of_getElem? (i := 1646) (by decide +kernel), List.mem_of_getElem? (i := 1647) (by decide +kernel)⟩
theorem lw_p78 : lw_okq (⟨"RansomHymnModel", "isCracked", "(I)Z"⟩, 69) := ⟨⟨by decide +kernel, by decide +kernel⟩, List.mem_of_getElem? (i := 1271) (by decide +kernel), List.mem_of_getElem? (i := 1650) (by decide +kernel), List.mem_of_getElem? (i := 1651) (by decide +kernel)⟩
theorem lw_p79 : lw_okq (⟨"RansomHymnModel", "isTavern", "(I)Z"⟩, 69) := ⟨⟨by decide +kernel, by decide +kernel⟩, List.mem_of_getElem? (i := 1271) (by decide +kernel), List.mem_of_getElem? (i := 1658) (by decide +kernel), List.mem_of_getElem? (i := 1659) (by decide +kernel)⟩
def lw_privs_5 : List (MethodName × Nat) := [(⟨"RansomHymnModel", "verseLine", "(I)V"⟩, 69), (⟨"RansomHymnModel", "partLine", "(I)V"⟩, 69), (⟨"RansomHymnModel", "sumOf", "(I)V"⟩, 69), (⟨"RansomHymnModel", "expression", "()V"⟩, 69), (⟨"RansomHymnModel", "conjunction", "()V"⟩, 69), (⟨"RansomHymnModel", "negation", "()V"⟩, 69), (⟨"RansomHymnModel", "knot", "()V"⟩, 69), (⟨"RansomHymnModel", "puts", "(II)V"⟩, 69), (⟨"RansomHymnModel", "sum", "()V"⟩, 69), (⟨"RansomHymnModel", "product", "()V"⟩, 69), (⟨"RansomHymnModel", "primary", "()V"⟩, 69), (⟨"RansomHymnModel", "isSign", "(I)Z"⟩, 69), (⟨"RansomHymnModel", "lawLine", "()V"⟩, 69), (⟨"RansomHymnModel", "isVoice", "(I)Z"⟩, 69), (⟨"RansomHymnModel", "isCracked", "(I)Z"⟩, 69), (⟨"RansomHymnModel", "isTavern", "(I)Z"⟩, 69)]
theorem lw_r5 : ∀ q ∈ lw_privs_5, lw_okq q := List.forall_mem_cons.mpr ⟨lw_p64, List.forall_mem_cons.mpr ⟨lw_p65, List.forall_mem_cons.mpr ⟨lw_p66, List.forall_mem_cons.mpr ⟨lw_p67, List.forall_mem_cons.mpr ⟨lw_p68, List.forall_mem_cons.mpr ⟨lw_p69, List.forall_mem_cons.mpr ⟨lw_p70, List.forall_mem_cons.mpr ⟨lw_p71, List.forall_mem_cons.mpr ⟨lw_p72, List.forall_mem_cons.mpr ⟨lw_p73, List.forall_mem_cons.mpr ⟨lw_p74, List.forall_mem_cons.mpr ⟨lw_p75, List.forall_mem_cons.mpr ⟨lw_p76, List.forall_mem_cons.mpr ⟨lw_p77, List.forall_mem_cons.mpr ⟨lw_p78, List.forall_mem_cons.mpr ⟨lw_p79, fun _ h => absurd h List.not_mem_nil⟩⟩⟩⟩⟩⟩⟩⟩⟩⟩⟩⟩⟩⟩⟩⟩
theorem lw_p80 : lw_okq (⟨"RansomHymnModel", "isVerse", "(I)Z"⟩, 69) := ⟨⟨by decide +kernel, by decide +kernel⟩, List.mem_of_getElem? (i := 1271) (by decide +kernel), List.mem_of_getElem? (i := 1666) (by decide +kernel), List.mem_of_getElem? (i := 1667) (by decide +kernel)⟩
theorem lw_p81 : lw_okq (⟨"RansomHymnModel", "isPart", "(II)Z"⟩, 69) := ⟨⟨by decide +kernel, by decide +kernel⟩, List.mem_of_getElem? (i := 1271) (by decide +kernel), List.mem_of_getElem? (i := 1670) (by decide +kernel), List.mem_of_getElem? (i := 1671) (by decide +kernel)⟩
theorem lw_p82 : lw_okq (⟨"RansomHymnModel", "dueOf", "(II)I"⟩, 69) := ⟨⟨by decide +kernel, by decide +kernel⟩, List.mem_of_getElem? (i := 1271) (by decide +kernel), List.mem_of_getElem? (i := 1682) (by decide +kernel), List.mem_of_getElem? (i := 1683) (by decide +kernel)⟩
theorem lw_p83 : lw_okq (⟨"RansomHymnModel", "calls", "(I)V"⟩, 69) := ⟨⟨by decide +kernel, by decide +kernel⟩, List.mem_of_getElem? (i := 1271) (by decide +kernel), List.mem_of_getElem? (i := 1686) (by decide +kernel), List.mem_of_getElem? (i := 1687) (by decide +kernel)⟩
theorem lw_p84 : lw_okq (⟨"RansomHymnModel", "soundsOf", "(II)I"⟩, 69) := ⟨⟨by decide +kernel, by decide +kernel⟩, List.mem_of_getElem? (i := 1271) (by decide +kernel), List.mem_of_getElem? (i := 1690) (by decide +kernel), List.mem_of_getElem? (i := 1691) (by decide +kernel)⟩
theorem lw_p85 : lw_okq (⟨"RansomHymnModel", "isSounded", "(III)Z"⟩, 69) := ⟨⟨by decide +kernel, by decide +kernel⟩, List.mem_of_getElem? (i := 1271) (by decide +kernel), List.mem_of_getElem? (i := 1694) (by decide +kernel), List.mem_of_getElem? (i := 1695) (by decide +kernel)⟩
theorem lw_p86 : lw_okq (⟨"RansomHymnModel", "reaches", "(II)Z"⟩, 69) := ⟨⟨by decide +kernel, by decide +kernel⟩, List.mem_of_getElem? (i := 1271) (by decide +kernel), List.mem_of_getElem? (i := 1698) (by decide +kernel), List.mem_of_getElem? (i := 1699) (by decide +kernel)⟩
theorem lw_p87 : lw_okq (⟨"RansomHymnModel", "restsOf", "(I)I"⟩, 69) := ⟨⟨by decide +kernel, by decide +kernel⟩, List.mem_of_getElem? (i := 1271) (by decide +kernel), List.mem_of_getElem? (i := 1702) (by decide +kernel), List.mem_of_getElem? (i := 1703) (by decide +kernel)⟩
theorem lw_p88 : lw_okq (⟨"RansomHymnModel", "highOf", "(I)I"⟩, 69) := ⟨⟨by decide +kernel, by decide +kernel⟩, List.mem_of_getElem? (i := 1271) (by decide +kernel), List.mem_of_getElem? (i := 1706) (by decide +kernel), List.mem_of_getElem? (i := 1707) (by decide +kernel)⟩
theorem lw_p89 : lw_okq (⟨"RansomHymnModel", "within", "(III)I"⟩, 69) := ⟨⟨by decide +kernel, by decide +kernel⟩, List.mem_of_getElem? (i := 1271) (by decide +kernel), List.mem_of_getElem? (i := 1711) (by decide +kernel), List.mem_of_getElem? (i := 1712) (by decide +kernel)⟩
theorem lw_p90 : lw_okq (⟨"RansomHymnModel", "goes", "(I)Z"⟩, 69) := ⟨⟨by decide +kernel, by decide +kernel⟩, List.mem_of_getElem? (i := 1271) (by decide +kernel), List.mem_of_getElem? (i := 1715) (by decide +kernel), List.mem_of_getElem? (i := 1716) (by decide +kernel)⟩
theorem lw_p91 : lw_okq (⟨"RansomHymnModel", "works", "(I)Z"⟩, 69) := ⟨⟨by decide +kernel, by decide +kernel⟩, List.mem_of_getElem? (i := 1271) (by decide +kernel), List.mem_of_getElem? (i := 1719) (by decide +kernel), List.mem_of_getElem? (i := 1720) (by decide +kernel)⟩
theorem lw_p92 : lw_okq (⟨"RansomHymnModel", "bidOf", "(III)I"⟩, 69) := ⟨⟨by decide +kernel, by decide +kernel⟩, List.mem_of_getElem? (i := 1271) (by decide +kernel), List.mem_of_getElem? (i := 1739) (by decide +kernel), List.mem_of_getElem? (i := 1740) (by decide +kernel)⟩
theorem lw_p93 : lw_okq (⟨"RansomHymnModel", "crackOf", "(II)I"⟩, 69) := ⟨⟨by decide +kernel, by decide +kernel⟩, List.mem_of_getElem? (i := 1271) (by decide +kernel), List.mem_of_getElem? (i := 1748) (by decide +kernel), List.mem_of_getElem? (i := 1749) (by decide +kernel)⟩
theorem lw_p94 : lw_okq (⟨"RansomHymnModel", "singsIn", "(II)Z"⟩, 69) := ⟨⟨by decide +kernel, by decide +kernel⟩, List.mem_of_getElem? (i := 1271) (by decide +kernel), List.mem_of_getElem? (i := 1756) (by decide +kernel), List.mem_of_getElem? (i := 1757) (by decide +kernel)⟩
theorem lw_p95 : lw_okq (⟨"RansomHymnModel", "draw", "()I"⟩, 69) := ⟨⟨by decide +kernel, by decide +kernel⟩, List.mem_of_getElem? (i := 1271) (by decide +kernel), List.mem_of_getElem? (i := 1776) (by decide +kernel), List.mem_of_getElem? (i := 1777) (by decide +kernel)⟩
def lw_privs_6 : List (MethodName × Nat) := [(⟨"RansomHymnModel", "isVerse", "(I)Z"⟩, 69), (⟨"RansomHymnModel", "isPart", "(II)Z"⟩, 69), (⟨"RansomHymnModel", "dueOf", "(II)I"⟩, 69), (⟨"RansomHymnModel", "calls", "(I)V"⟩, 69), (⟨"RansomHymnModel", "soundsOf", "(II)I"⟩, 69), (⟨"RansomHymnModel", "isSounded", "(III)Z"⟩, 69), (⟨"RansomHymnModel", "reaches", "(II)Z"⟩, 69), (⟨"RansomHymnModel", "restsOf", "(I)I"⟩, 69), (⟨"RansomHymnModel", "highOf", "(I)I"⟩, 69), (⟨"RansomHymnModel", "within", "(III)I"⟩, 69), (⟨"RansomHymnModel", "goes", "(I)Z"⟩, 69), (⟨"RansomHymnModel", "works", "(I)Z"⟩, 69), (⟨"RansomHymnModel", "bidOf", "(III)I"⟩, 69), (⟨"RansomHymnModel", "crackOf", "(II)I"⟩, 69), (⟨"RansomHymnModel", "singsIn", "(II)Z"⟩, 69), (⟨"RansomHymnModel", "draw", "()I"⟩, 69)]
theorem lw_r6 : ∀ q ∈ lw_privs_6, lw_okq q := List.forall_mem_cons.mpr ⟨lw_p80, List.forall_mem_cons.mpr ⟨lw_p81, List.forall_mem_cons.mpr ⟨lw_p82, List.forall_mem_cons.mpr ⟨lw_p83, List.forall_mem_cons.mpr ⟨lw_p84, List.forall_mem_cons.mpr ⟨lw_p85, List.forall_mem_cons.mpr ⟨lw_p86, List.forall_mem_cons.mpr ⟨lw_p87, List.forall_mem_cons.mpr ⟨lw_p88, List.forall_mem_cons.mpr ⟨lw_p89, List.forall_mem_cons.mpr ⟨lw_p90, List.forall_mem_cons.mpr ⟨lw_p91, List.forall_mem_cons.mpr ⟨lw_p92, List.forall_mem_cons.mpr ⟨lw_p93, List.forall_mem_cons.mpr ⟨lw_p94, List.forall_mem_cons.mpr ⟨lw_p95, fun _ h => absurd h List.not_mem_nil⟩⟩⟩⟩⟩⟩⟩⟩⟩⟩⟩⟩⟩⟩⟩⟩
theorem lw_p96 : lw_okq (⟨"RansomHymnModel", "layBest", "(I)V"⟩, 69) := ⟨⟨by decide +kernel, by decide +kernel⟩, List.mem_of_getElem? (i := 1271) (by decide +kernel), List.mem_of_getElem? (i := 1789) (by decide +kernel), List.mem_of_getElem? (i := 1790) (by decide +kernel)⟩
theorem lw_p97 : lw_okq (⟨"RansomHymnModel", "layDues", "()V"⟩, 69) := ⟨⟨by decide +kernel, by decide +kernel⟩, List.mem_of_getElem? (i := 1271) (by decide +kernel), List.mem_of_getElem? (i := 1793) (by decide +kernel), List.mem_of_getElem? (i := 1794) (by decide +kernel)⟩
theorem lw_p98 : lw_okq (⟨"RansomHymnModel", "starts", "()V"⟩, 69) := ⟨⟨by decide +kernel, by decide +kernel⟩, List.mem_of_getElem? (i := 1271) (by decide +kernel), List.mem_of_getElem? (i := 1797) (by decide +kernel), List.mem_of_getElem? (i := 1798) (by decide +kernel)⟩
theorem lw_p99 : lw_okq (⟨"RansomHymnModel", "mayBe", "(I)Z"⟩, 69) := ⟨⟨by decide +kernel, by decide +kernel⟩, List.mem_of_getElem? (i := 1271) (by decide +kernel), List.mem_of_getElem? (i := 1801) (by decide +kernel), List.mem_of_getElem? (i := 1802) (by decide +kernel)⟩
theorem lw_p100 : lw_okq (⟨"RansomHymnModel", "costOf", "(I)I"⟩, 69) := ⟨⟨by decide +kernel, by decide +kernel⟩, List.mem_of_getElem? (i := 1271) (by decide +kernel), List.mem_of_getElem? (i := 1805) (by decide +kernel), List.mem_of_getElem? (i := 1806) (by decide +kernel)⟩
theorem lw_p101 : lw_okq (⟨"RansomHymnModel", "gainOf", "(I)I"⟩, 69) := ⟨⟨by decide +kernel, by decide +kernel⟩, List.mem_of_getElem? (i := 1271) (by decide +kernel), List.mem_of_getElem? (i := 1809) (by decide +kernel), List.mem_of_getElem? (i := 1810) (by decide +kernel)⟩
theorem lw_p102 : lw_okq (⟨"RansomHymnModel", "tries", "(IIII)V"⟩, 69) := ⟨⟨by decide +kernel, by decide +kernel⟩, List.mem_of_getElem? (i := 1271) (by decide +kernel), List.mem_of_getElem? (i := 1813) (by decide +kernel), List.mem_of_getElem? (i := 1814) (by decide +kernel)⟩
theorem lw_p103 : lw_okq (⟨"RansomHymnModel", "goesNext", "(I)Z"⟩, 69) := ⟨⟨by decide +kernel, by decide +kernel⟩, List.mem_of_getElem? (i := 1271) (by decide +kernel), List.mem_of_getElem? (i := 1817) (by decide +kernel), List.mem_of_getElem? (i := 1818) (by decide +kernel)⟩
theorem lw_p104 : lw_okq (⟨"RansomHymnModel", "isBest", "(II)Z"⟩, 69) := ⟨⟨by decide +kernel, by decide +kernel⟩, List.mem_of_getElem? (i := 1271) (by decide +kernel), List.mem_of_getElem? (i := 1825) (by decide +kernel), List.mem_of_getElem? (i := 1826) (by decide +kernel)⟩
theorem lw_p105 : lw_okq (⟨"RansomHymnModel", "areVerses", "(I)Z"⟩, 69) := ⟨⟨by decide +kernel, by decide +kernel⟩, List.mem_of_getElem? (i := 1271) (by decide +kernel), List.mem_of_getElem? (i := 1833) (by decide +kernel), List.mem_of_getElem? (i := 1834) (by decide +kernel)⟩
theorem lw_p106 : lw_okq (⟨"RansomHymnModel", "sells", "(II)I"⟩, 69) := ⟨⟨by decide +kernel, by decide +kernel⟩, List.mem_of_getElem? (i := 1271) (by decide +kernel), List.mem_of_getElem? (i := 1837) (by decide +kernel), List.mem_of_getElem? (i := 1838) (by decide +kernel)⟩
theorem lw_p107 : lw_okq (⟨"RansomHymnModel", "strikes", "()V"⟩, 69) := ⟨⟨by decide +kernel, by decide +kernel⟩, List.mem_of_getElem? (i := 1271) (by decide +kernel), List.mem_of_getElem? (i := 1861) (by decide +kernel), List.mem_of_getElem? (i := 1862) (by decide +kernel)⟩
theorem lw_p108 : lw_okq (⟨"RansomHymnModel", "knownMany", "()I"⟩, 69) := ⟨⟨by decide +kernel, by decide +kernel⟩, List.mem_of_getElem? (i := 1271) (by decide +kernel), List.mem_of_getElem? (i := 1865) (by decide +kernel), List.mem_of_getElem? (i := 1866) (by decide +kernel)⟩
theorem lw_p109 : lw_okq (⟨"RansomHymnModel", "isThief", "(I)Z"⟩, 69) := ⟨⟨by decide +kernel, by decide +kernel⟩, List.mem_of_getElem? (i := 1271) (by decide +kernel), List.mem_of_getElem? (i := 1869) (by decide +kernel), List.mem_of_getElem? (i := 1870) (by decide +kernel)⟩
theorem lw_p110 : lw_okq (⟨"RansomHymnModel", "isHummed", "(I)Z"⟩, 69) := ⟨⟨by decide +kernel, by decide +kernel⟩, List.mem_of_getElem? (i := 1271) (by decide +kernel), List.mem_of_getElem? (i := 1873) (by decide +kernel), List.mem_of_getElem? (i := 1874) (by decide +kernel)⟩
theorem lw_p111 : lw_okq (⟨"RansomHymnModel", "isGang", "(I)Z"⟩, 69) := ⟨⟨by decide +kernel, by decide +kernel⟩, List.mem_of_getElem? (i := 1271) (by decide +kernel), List.mem_of_getElem? (i := 1892) (by decide +kernel), List.mem_of_getElem? (i := 1893) (by decide +kernel)⟩
def lw_privs_7 : List (MethodName × Nat) := [(⟨"RansomHymnModel", "layBest", "(I)V"⟩, 69), (⟨"RansomHymnModel", "layDues", "()V"⟩, 69), (⟨"RansomHymnModel", "starts", "()V"⟩, 69), (⟨"RansomHymnModel", "mayBe", "(I)Z"⟩, 69), (⟨"RansomHymnModel", "costOf", "(I)I"⟩, 69), (⟨"RansomHymnModel", "gainOf", "(I)I"⟩, 69), (⟨"RansomHymnModel", "tries", "(IIII)V"⟩, 69), (⟨"RansomHymnModel", "goesNext", "(I)Z"⟩, 69), (⟨"RansomHymnModel", "isBest", "(II)Z"⟩, 69), (⟨"RansomHymnModel", "areVerses", "(I)Z"⟩, 69), (⟨"RansomHymnModel", "sells", "(II)I"⟩, 69), (⟨"RansomHymnModel", "strikes", "()V"⟩, 69), (⟨"RansomHymnModel", "knownMany", "()I"⟩, 69), (⟨"RansomHymnModel", "isThief", "(I)Z"⟩, 69), (⟨"RansomHymnModel", "isHummed", "(I)Z"⟩, 69), (⟨"RansomHymnModel", "isGang", "(I)Z"⟩, 69)]
theorem lw_r7 : ∀ q ∈ lw_privs_7, lw_okq q := List.forall_mem_cons.mpr ⟨lw_p96, List.forall_mem_cons.mpr ⟨lw_p97, List.forall_mem_cons.mpr ⟨lw_p98, List.forall_mem_cons.mpr ⟨lw_p99, List.forall_mem_cons.mpr ⟨lw_p100, List.forall_mem_cons.mpr ⟨lw_p101, List.forall_mem_cons.mpr ⟨lw_p102, List.forall_mem_cons.mpr ⟨lw_p103, List.forall_mem_cons.mpr ⟨lw_p104, List.forall_mem_cons.mpr ⟨lw_p105, List.forall_mem_cons.mpr ⟨lw_p106, List.forall_mem_cons.mpr ⟨lw_p107, List.forall_mem_cons.mpr ⟨lw_p108, List.forall_mem_cons.mpr ⟨lw_p109, List.forall_mem_cons.mpr ⟨lw_p110, List.forall_mem_cons.mpr ⟨lw_p111, fun _ h => absurd h List.not_mem_nil⟩⟩⟩⟩⟩⟩⟩⟩⟩⟩⟩⟩⟩⟩⟩⟩
theorem lw_p112 : lw_okq (⟨"RansomHymnModel", "rows", "(IIIII)V"⟩, 69) := ⟨⟨by decide +kernel, by decide +kernel⟩, List.mem_of_getElem? (i := 1271) (by decide +kernel), List.mem_of_getElem? (i := 1903) (by decide +kernel), List.mem_of_getElem? (i := 1904) (by decide +kernel)⟩
theorem lw_p113 : lw_okq (⟨"RansomHymnModel", "hasOf", "(II)I"⟩, 69) := ⟨⟨by decide +kernel, by decide +kernel⟩, List.mem_of_getElem? (i := 1271) (by decide +kernel), List.mem_of_getElem? (i := 1915) (by decide +kernel), List.mem_of_getElem? (i := 1916) (by decide +kernel)⟩
theorem lw_p114 : lw_okq (⟨"RansomHymnModel", "copies", "(II)V"⟩, 69) := ⟨⟨by decide +kernel, by decide +kernel⟩, List.mem_of_getElem? (i := 1271) (by decide +kernel), List.mem_of_getElem? (i := 1933) (by decide +kernel), List.mem_of_getElem? (i := 1934) (by decide +kernel)⟩
def lw_privs_8 : List (MethodName × Nat) := [(⟨"RansomHymnModel", "rows", "(IIIII)V"⟩, 69), (⟨"RansomHymnModel", "hasOf", "(II)I"⟩, 69), (⟨"RansomHymnModel", "copies", "(II)V"⟩, 69)]
theorem lw_r8 : ∀ q ∈ lw_privs_8, lw_okq q := List.forall_mem_cons.mpr ⟨lw_p112, List.forall_mem_cons.mpr ⟨lw_p113, List.forall_mem_cons.mpr ⟨lw_p114, fun _ h => absurd h List.not_mem_nil⟩⟩⟩
def lw_privs : List (MethodName × Nat) := lw_privs_1 ++ (lw_privs_2 ++ (lw_privs_3 ++ (lw_privs_4 ++ (lw_privs_5 ++ (lw_privs_6 ++ (lw_privs_7 ++ (lw_privs_8)))))))
def lw_tbl : List Cond := k2_sels lw_privs ++ tables_1
theorem lw_privs_ok : ∀ q ∈ lw_privs, lw_okq q := by
  show ∀ q ∈ lw_privs_1 ++ (lw_privs_2 ++ (lw_privs_3 ++ (lw_privs_4 ++ (lw_privs_5 ++ (lw_privs_6 ++ (lw_privs_7 ++ (lw_privs_8))))))), lw_okq q
  exact List.forall_mem_append.mpr ⟨lw_r1, List.forall_mem_append.mpr ⟨lw_r2, List.forall_mem_append.mpr ⟨lw_r3, List.forall_mem_append.mpr ⟨lw_r4, List.forall_mem_append.mpr ⟨lw_r5, List.forall_mem_append.mpr ⟨lw_r6, List.forall_mem_append.mpr ⟨lw_r7, lw_r8⟩⟩⟩⟩⟩⟩⟩
end
section
/-! ===== BEGIN words of one list among another's, by their places ===== -/
theorem goodIn_r {big : List Cond} (ws : List Cond) (ps : List Nat) (hp : ws = ps.filterMap (fun i => big[i]?)) (h : ws.all goodWord = true) : GoodIn big ws := by
  intro w hw
  have h1 := List.all_eq_true.mp h w hw
  rw [hp] at hw
  obtain ⟨i, -, hi⟩ := List.mem_filterMap.mp hw
  have hm : w ∈ big := by first | exact List.mem_of_getElem? hi | exact List.getElem?_mem hi
  exact ⟨hm, good_of_word h1⟩
theorem goodIn_app {big a b : List Cond} (ha : GoodIn big a) (hb : GoodIn big b) : GoodIn big (a ++ b) := fun w h => (List.mem_append.mp h).elim (ha w) (hb w)
theorem goodIn_ca {big a b : List Cond} {c : Cond} (ha : GoodIn big (c :: a)) (hb : GoodIn big b) : GoodIn big (c :: (a ++ b)) := fun w h => (List.mem_cons.mp h).elim (fun e => ha w (List.mem_cons.mpr (Or.inl e))) (fun h => (List.mem_append.mp h).elim (fun h => ha w (List.mem_cons.mpr (Or.inr h))) (hb w))
theorem goodIn_sub {big ws : List Cond} (hm : ∀ w ∈ ws, w ∈ big) (h : ws.all goodWord = true) : GoodIn big ws := fun w hw => ⟨hm w hw, good_of_word (List.all_eq_true.mp h w hw)⟩
/-! ===== END ===== -/

/-! ===== BEGIN exceptions that leave a method, and their catching by the caller (launches without stack traces) ===== -/
section VXA
/-! The laws vx_back, vx_callV, vx_callS, vx_callSW, vx_throw0, vx_throwS follow proofs of the library, with one case more: JvmDerived/Free/Laws.lean (Back.of_free), Shelf42/LK1.lean (callV, callS), Shelf/KitTraced.lean (throwNew0V, throwNewS). -/
/-- where a method has thrown q: the class by its name, the cell, what was written, the world -/
def vx_T (XC : String → State → State → Prop) (st : State) (q : Addr) (t : State) (mc ms : Nat) (free : Addr → Prop) : Prop :=
  ∃ (E : String) (ce : Cell) (L : List Loc), XC E st t ∧ t.heap[q]? = some ce ∧ ce.vm = .none ∧ st.vm.findClass E = some ce.cls ∧ st.WarmedH t.vm ∧ st.sameButNew ({ t with vm := st.vm } : State) L mc ms ∧ ∀ z ∈ L, free z.base
def vx_Q (Qc : Array Value → State → Outcome → State → Prop) (XC : String → State → State → Prop) (mc ms : Nat) (free : Addr → Prop) : Array Value → State → Outcome → State → Prop := fun a st o t =>
  (Qc a st o t ∧ ∃ L, FrameEnd st o t L mc ms ∧ ∀ q ∈ L, free q.base) ∨ ∃ q, o = .threw q ∧ vx_T XC st q t mc ms free
/-- a callee that returns or throws -/
def vx_Met (l : Launch) (y : MethodName) (ws : List Cond) (rm : Room) (Pc : Array Value → State → Prop) (Qc : Array Value → State → Outcome → State → Prop) (XC : String → State → State → Prop) (mc ms : Nat) (free : Addr → Prop) : Prop :=
  MetFree l y (headSpec ws rm) Pc (fun _ _ _ _ _ => True) (vx_Q Qc XC mc ms free)
def vx_Post (XC : String → State → State → Prop) (mc ms : Nat) (free : Addr → Prop) : Pt → Array Value → Addr → Pt → Prop := fun A a q B =>
  ∃ (g : JFrame) (mk : MethodId) (t : State) (L : List Loc) (E : String) (ce : Cell), B.U.heap = t.heap ∧ B.U.vm = t.vm ∧ XC E (A.U.calling g mk a) t ∧ t.heap[q]? = some ce ∧ ce.vm = .none ∧ A.U.vm.findClass E = some ce.cls ∧ B.locs = A.locs ++ L ∧ (∀ z ∈ L, free z.base) ∧ B.cells = A.cells + mc ∧ B.slots = A.slots + ms
def vx_Back (l : Launch) (R : Room) (p : Program) (e : Env) (below : List Frame) (s : State) (sargs : Array Value) (y : MethodName) (len W9 : Nat)
    (Pre : Pt → Array Value → Prop) (Post : Pt → Array Value → Option Value → Pt → Prop) (PostX : Pt → Array Value → Addr → Pt → Prop) : Prop :=
  ∀ (m : MethodId) (meth : Method) (c : Code) (A : Pt) (g : JFrame) (ig : Instr) (mk : MethodId) (a : Array Value),
    Stand p l e R s m sargs below meth c A.U A.locs A.cells A.slots → g.method = m → g.locals.size = c.maxLocals → decode c.code g.pc = .ok (ig, len) →
    2 * g.monitorRoom + (g.stack.map fun v => v.category).sum ≤ W9 → A.U.methodNamed? y = some mk → Pre A a →
    (∃ (v : Option Value) (B : Pt), Stand p l e R s m sargs below meth c B.U B.locs B.cells B.slots ∧ Post A a v B ∧
      Steps p.tables e below (doInvoke e (A.U.setTop g) [] mk a).1 (B.U.setTop { g with pc := g.pc + len, stack := v.toList ++ g.stack })) ∨
    (∃ (q : Addr) (B : Pt), Stand p l e R s m sargs below meth c B.U B.locs B.cells B.slots ∧ PostX A a q B ∧
      Steps p.tables e below (doInvoke e (A.U.setTop g) [] mk a).1 ((B.U.setTop g).pushFrame (.throwing q)))
section Payer
variable {l : Launch} {R : Room} {p : Program} {e : Env} {below : List Frame} {s : State} {sargs : Array Value} {y : MethodName} {len W9 : Nat}
theorem vx_back {ws : List Cond} {rm : Room} {Pc : Array Value → State → Prop} {Qc : Array Value → State → Outcome → State → Prop} {XC : String → State → State → Prop} {mc ms : Nat} {free : Addr → Prop} {bytes : ByteArray} {maxL : Nat} {ret : Option FieldType}
    (hM : vx_Met l y ws rm Pc Qc XC mc ms free) (hblind : FrameBlind Pc) (hrc : rm.cells = mc) (hrs : rm.slots = ms)
    (hframes : rm.frames + 1 ≤ R.frames) (hlocals : W9 + (maxL + 11) + rm.locals ≤ R.locals)
    (hws : ∀ w ∈ ws, ∀ a' U, s.WarmedH U.vm → w.before a' U = true) (hcode : Cond.code y bytes maxL ret ∈ ws) (hinit : ∀ a' U, s.WarmedH U.vm → (Cond.initialized y.cls).before a' U = true) :
    vx_Back l R p e below s sargs y len W9 (PreOf R mc ms Pc) (PostOf Qc mc ms free) (vx_Post XC mc ms free) := by
  intro m meth c A g ig mk a X hg hsize hdg hW hn hp
  have h1 : (headSpec ws rm).pre.before a A.U = true := atoms_intro fun w hw => hws w hw _ _ X.warmed
  have h2 : (Cond.code y bytes maxL ret).before a A.U = true := hws _ hcode _ _ X.warmed
  have h3 : (Cond.initialized y.cls).before a A.U = true := hinit _ _ X.warmed
  have h4 : A.cells + (headSpec ws rm).room.cells ≤ R.cells := by rw [show (headSpec ws rm).room.cells = mc from hrc]; exact hp.1
  have h5 : A.slots + (headSpec ws rm).room.slots ≤ R.slots := by rw [show (headSpec ws rm).room.slots = ms from hrs]; exact hp.2.1
  have hPc : Pc a (A.U.calling g mk a) := hblind _ _ _ _ hp.2.2
  obtain ⟨U, Ls, c0, s0⟩ := A
  dsimp only [Pt.U, Pt.locs, Pt.cells, Pt.slots] at h1 h2 h3 h4 h5 X hn hPc ⊢
  obtain ⟨methY, cY, hmY, hcY, -, hlY, -, -, -, -⟩ := Cond.code_spec hn h2
  obtain ⟨kY, hkY, -⟩ := className_of_methodNamed hn
  have hinitY : kY.init = .initialized := Cond.initialized_spec (findClass_of_methodNamed hn) hkY h3
  have h : At U g.method c below := by rw [hg]; exact X.here
  have hlocals9 : W9 + (maxL + 11) + (headSpec ws rm).room.locals ≤ R.locals := hlocals
  have happ : (headSpec ws rm).appliesLoose y e.platform (U.calling g mk a) = true :=
    Spec.appliesLoose_calling (g := g) h hdg hn hkY hinitY
      (X.room_calling (g := g) (R' := (headSpec ws rm).room) hsize hmY hcY hframes (by rw [hlY]; omega) h4 h5) h1
  obtain ⟨mid, hmid⟩ := h.above
  have hfr : (U.setTop g).frames = (.java g :: mid) ++ below := by rw [State.frames_setTop' g h.top, hmid]; rfl
  obtain ⟨o, s₂, hsteps, -, hend, hq⟩ := Steps.callFree hM p X.admits X.cas X.clock (acts := []) hfr happ hPc trivial
  have hq' : vx_Q Qc XC mc ms free a (U.calling g mk a) o s₂ := hq
  rw [State.frames_setTop' g h.top] at hend
  obtain ⟨g₀, hg0⟩ := Option.isSome_iff_exists.mp h.top
  obtain ⟨r, hr⟩ := State.topJava?_eq_some.mp hg0
  have hr' : (({ U with heap := s₂.heap, slotsUsed := s₂.slotsUsed } : State).setVm s₂.vm).frames = .java g₀ :: r := hr
  rcases hq' with ⟨hqc, L, hfe, hL⟩ | ⟨q, rfl, E, ce, L, hx, hce, hcv, hcl, hW₂, hsm, hL⟩
  · obtain ⟨⟨v, rfl⟩, hW₂, e2, q2, q3, q4, q5, q6⟩ := id hfe
    have e3 : s₂ = ({ (U.calling g mk a).setFrames s₂.frames with heap := s₂.heap, slotsUsed := s₂.slotsUsed } : State).setVm s₂.vm := by
      have : s₂ = ({ s₂ with vm := (U.calling g mk a).vm } : State).setVm s₂.vm := rfl
      rw [e2] at this
      exact this
    obtain ⟨c₂, i₂, len₂, hc₂, hd₂, hf₂⟩ := hend
    have hW' : U.WarmedH s₂.vm := hW₂
    have hcc : c₂ = c := by
      have h1 : s₂.code? g.method = U.code? g.method := by
        rw [State.code?_eq, State.code?_eq, hW'.alike.method?]
      exact Option.some.inj (hc₂.symm.trans (h1.trans h.code))
    subst hcc
    have hlen : len₂ = len := by rw [hdg] at hd₂; cases hd₂; rfl
    subst hlen
    have hs₂ : s₂ = (({ U with heap := s₂.heap, slotsUsed := s₂.slotsUsed } : State).setVm s₂.vm).setTop { g with pc := g.pc + len₂, stack := v.toList ++ g.stack } := by
      refine e3.trans ?_
      rw [hf₂, State.calling_eq h.top, State.setFrames_setFrames, State.setTop_of_frames _ hr', hr]
      rfl
    have hsame : U.sameButNew ({ U with heap := s₂.heap, slotsUsed := s₂.slotsUsed } : State) L mc ms := by
      refine ⟨?_, q2, q3, q4, q5, q6⟩
      obtain ⟨t, ht, -⟩ := State.frames_cons hr
      show ({ U with heap := s₂.heap, slotsUsed := s₂.slotsUsed } : State) = { U.setFrames U.frames with heap := s₂.heap, slotsUsed := s₂.slotsUsed }
      rw [State.setFrames_self ht]
    subst hg
    refine Or.inl ⟨v, ⟨(({ U with heap := s₂.heap, slotsUsed := s₂.slotsUsed } : State).setVm s₂.vm), Ls ++ L, c0 + mc, s0 + ms⟩,
      ⟨X.admits, X.cas, X.clock, X.frames, X.room, X.hears, X.method, X.code, (X.here.setHeapUsed s₂.heap s₂.slotsUsed).setVm hW'.alike, X.tail, State.WarmedH.trans X.warmed hW', X.limits, X.bytes, X.same.trans (hsame.setVm s.vm)⟩,
      ⟨g, mk, s₂, L, rfl, rfl, hqc, rfl, hL, rfl, rfl⟩, ?_⟩
    show Steps p.tables e below _ ((({ U with heap := s₂.heap, slotsUsed := s₂.slotsUsed } : State).setVm s₂.vm).setTop { g with pc := g.pc + len₂, stack := v.toList ++ g.stack })
    rw [← hs₂]
    exact hsteps
  · obtain ⟨e2, q2, q3, q4, q5, q6⟩ := id hsm
    have e3 : s₂ = ({ (U.calling g mk a).setFrames s₂.frames with heap := s₂.heap, slotsUsed := s₂.slotsUsed } : State).setVm s₂.vm := by
      have : s₂ = ({ s₂ with vm := (U.calling g mk a).vm } : State).setVm s₂.vm := rfl
      rw [e2] at this
      exact this
    have hf₂ : s₂.frames = .throwing q :: .java g :: U.frames.tail := hend
    have hW' : U.WarmedH s₂.vm := hW₂
    have hs₂ : s₂ = ((({ U with heap := s₂.heap, slotsUsed := s₂.slotsUsed } : State).setVm s₂.vm).setTop g).pushFrame (.throwing q) := by
      refine e3.trans ?_
      rw [hf₂, State.calling_eq h.top, State.setFrames_setFrames, State.pushFrame, State.frames_setTop _ hr', State.setTop_of_frames _ hr', State.setFrames_setFrames, hr]
      rfl
    have hsame : U.sameButNew ({ U with heap := s₂.heap, slotsUsed := s₂.slotsUsed } : State) L mc ms := by
      refine ⟨?_, q2, q3, q4, q5, q6⟩
      obtain ⟨t, ht, -⟩ := State.frames_cons hr
      show ({ U with heap := s₂.heap, slotsUsed := s₂.slotsUsed } : State) = { U.setFrames U.frames with heap := s₂.heap, slotsUsed := s₂.slotsUsed }
      rw [State.setFrames_self ht]
    subst hg
    refine Or.inr ⟨q, ⟨(({ U with heap := s₂.heap, slotsUsed := s₂.slotsUsed } : State).setVm s₂.vm), Ls ++ L, c0 + mc, s0 + ms⟩,
      ⟨X.admits, X.cas, X.clock, X.frames, X.room, X.hears, X.method, X.code, (X.here.setHeapUsed s₂.heap s₂.slotsUsed).setVm hW'.alike, X.tail, State.WarmedH.trans X.warmed hW', X.limits, X.bytes, X.same.trans (hsame.setVm s.vm)⟩,
      ⟨g, mk, s₂, L, E, ce, rfl, rfl, hx, hce, hcv, hcl, rfl, hL, rfl, rfl⟩, ?_⟩
    show Steps p.tables e below _ (((({ U with heap := s₂.heap, slotsUsed := s₂.slotsUsed } : State).setVm s₂.vm).setTop g).pushFrame (.throwing q))
    rw [← hs₂]
    exact hsteps
end Payer
section Calls
variable {p : Program} {l : Launch} {e : Env} {R : Room} {s : State} {m : MethodId} {args : Array Value} {below : List Frame} {meth : Method} {c : Code} {T : State} {locs : List Loc} {cells slots : Nat}
theorem vx_callV (X : Stand p l e R s m args below meth c T locs cells slots) (hexec : p.tables.exec = Jvm.exec) {own C : String} {index : Nat} {y : MethodName} {bytes : ByteArray} {maxL : Nat} {ret : Option FieldType}
    (hown : s.vm.findClass own = some m.cls) (hlink : (Cond.methodLink own index y).before args s = true) (hinst : (Cond.instanceMethod y).before args s = true) (hsel : (Cond.selects C y y).before args s = true)
    (hcode : (Cond.code y bytes maxL ret).before args s = true) (hy : y.cls ≠ "java/lang/invoke/MethodHandle" ∧ y.cls ≠ "java/lang/invoke/VarHandle")
    {W9 : Nat} {Pre : Pt → Array Value → Prop} {Post : Pt → Array Value → Option Value → Pt → Prop} {PostX : Pt → Array Value → Addr → Pt → Prop} (hK : vx_Back l R p e below s args y 3 W9 Pre Post PostX)
    {b : Addr} {cellB : Cell} (hcell : T.heap[b]? = some cellB) (hobj : cellB.vm.isStatics = false) (hcls : s.vm.findClass C = some cellB.cls)
    {g : JFrame} (hg : g.method = m) (hsize : g.locals.size = c.maxLocals) {argsL rest : List Value} (hlen : ∀ sig, parseMethodDescriptor y.desc = some sig → argsL.length = sig.parameters.length)
    (hstack : g.stack = argsL.reverse ++ .ref b :: rest) (hW : 2 * g.monitorRoom + (rest.map fun v => v.category).sum ≤ W9) (hdg : decode c.code g.pc = .ok (.invokevirtual index, 3))
    (hpre : ∀ vm₁, s.WarmedH vm₁ → Pre ⟨T.setVm vm₁, locs, cells, slots⟩ (Value.ref b :: argsL).toArray) :
    (∃ (v : Option Value) (vm₁ : Vm) (B : Pt), s.WarmedH vm₁ ∧ Stand p l e R s m args below meth c B.U B.locs B.cells B.slots ∧ Post ⟨T.setVm vm₁, locs, cells, slots⟩ (Value.ref b :: argsL).toArray v B ∧
      ∀ target, Steps p.tables e below (B.U.setTop { g with pc := g.pc + 3, stack := v.toList ++ rest }) target → Steps p.tables e below (T.setTop g) target) ∨
    (∃ (q : Addr) (vm₁ : Vm) (B : Pt), s.WarmedH vm₁ ∧ Stand p l e R s m args below meth c B.U B.locs B.cells B.slots ∧ PostX ⟨T.setVm vm₁, locs, cells, slots⟩ (Value.ref b :: argsL).toArray q B ∧
      Steps p.tables e below (T.setTop g) ((B.U.setTop { g with stack := rest }).pushFrame (.throwing q))) := by
  obtain ⟨mk, methM, hnamed, hmethM, hstM, habM⟩ := Cond.instanceMethod_spec hinst
  obtain ⟨methM', cM, hmethM', -, -, -, -, -, -, hsigM⟩ := Cond.code_spec hnamed hcode
  cases hmethM.symm.trans hmethM'
  obtain ⟨c2, r2, m2, q1, q2, q3, q4, kP, hkP, hkPi⟩ := Cond.selects_spec hsel
  cases hcls.symm.trans q1
  cases (State.methodFound?_of_named hnamed hy).symm.trans q2
  cases hnamed.symm.trans q3
  have hselP : selectMethod e.platform s.vm cellB.cls mk = .method mk := by rw [Launch.admits_selectMethod X.admits]; exact q4
  obtain ⟨vm₁, X₁, hstep₁⟩ := X.invokevirtual hexec hown hlink hnamed hmethM hstM hkP hkPi hy (a := b) (cell := cellB) hcell
    (fun z h => by rw [h] at hobj; cases hobj) hselP hmethM habM hkP hkPi (g := g) hg (argsL := argsL) (rest := rest) (hlen _ hsigM) hstack hdg
  rcases hK m meth c ⟨T.setVm vm₁, locs, cells, slots⟩ { g with stack := rest } (.invokevirtual index) mk (Value.ref b :: argsL).toArray X₁ hg hsize hdg hW (X₁.named hnamed) (hpre vm₁ X₁.warmed) with ⟨v, B, X', hpost, hsteps⟩ | ⟨q, B, X', hpost, hsteps⟩
  · exact Or.inl ⟨v, vm₁, B, X₁.warmed, X', hpost, fun target h => hstep₁ _ fun acts => by rw [doInvoke_state]; exact hsteps.trans h⟩
  · exact Or.inr ⟨q, vm₁, B, X₁.warmed, X', hpost, hstep₁ _ fun acts => by rw [doInvoke_state]; exact hsteps⟩
theorem vx_callS (X : Stand p l e R s m args below meth c T locs cells slots) (hexec : p.tables.exec = Jvm.exec) {own : String} {index : Nat} {y : MethodName} {bytes : ByteArray} {maxL : Nat} {ret : Option FieldType}
    (hown : s.vm.findClass own = some m.cls) (hlink : (Cond.methodLink own index y).before args s = true) (hstat : (Cond.static y).before args s = true) (hinit : (Cond.initialized y.cls).before args s = true)
    (hcode : (Cond.code y bytes maxL ret).before args s = true) (hy : y.cls ≠ "java/lang/invoke/MethodHandle" ∧ y.cls ≠ "java/lang/invoke/VarHandle")
    {W9 : Nat} {Pre : Pt → Array Value → Prop} {Post : Pt → Array Value → Option Value → Pt → Prop} {PostX : Pt → Array Value → Addr → Pt → Prop} (hK : vx_Back l R p e below s args y 3 W9 Pre Post PostX)
    {g : JFrame} (hg : g.method = m) (hsize : g.locals.size = c.maxLocals) {argsL rest : List Value} (hlen : ∀ sig, parseMethodDescriptor y.desc = some sig → argsL.length = sig.parameters.length)
    (hstack : g.stack = argsL.reverse ++ rest) (hW : 2 * g.monitorRoom + (rest.map fun v => v.category).sum ≤ W9) (hdg : decode c.code g.pc = .ok (.invokestatic index, 3))
    (hpre : ∀ vm₁, s.WarmedH vm₁ → Pre ⟨T.setVm vm₁, locs, cells, slots⟩ argsL.toArray) :
    (∃ (v : Option Value) (vm₁ : Vm) (B : Pt), s.WarmedH vm₁ ∧ Stand p l e R s m args below meth c B.U B.locs B.cells B.slots ∧ Post ⟨T.setVm vm₁, locs, cells, slots⟩ argsL.toArray v B ∧
      ∀ target, Steps p.tables e below (B.U.setTop { g with pc := g.pc + 3, stack := v.toList ++ rest }) target → Steps p.tables e below (T.setTop g) target) ∨
    (∃ (q : Addr) (vm₁ : Vm) (B : Pt), s.WarmedH vm₁ ∧ Stand p l e R s m args below meth c B.U B.locs B.cells B.slots ∧ PostX ⟨T.setVm vm₁, locs, cells, slots⟩ argsL.toArray q B ∧
      Steps p.tables e below (T.setTop g) ((B.U.setTop { g with stack := rest }).pushFrame (.throwing q))) := by
  obtain ⟨mk, hnamed⟩ := Cond.code_named hcode
  obtain ⟨methM, cM, hmethM, -, -, -, -, -, -, hsigM⟩ := Cond.code_spec hnamed hcode
  have hstatic : methM.isStatic = true := Cond.static_spec hnamed hmethM hstat
  obtain ⟨kP, hkP, -⟩ := className_of_methodNamed hnamed
  have hinitP : kP.init = .initialized := Cond.initialized_spec (findClass_of_methodNamed hnamed) hkP hinit
  obtain ⟨vm₁, X₁, hstep₁⟩ := X.invokestatic hexec hown hlink hnamed hmethM hstatic hkP hinitP hy (g := g) hg (argsL := argsL) (rest := rest) (hlen _ hsigM) hstack hdg
  rcases hK m meth c ⟨T.setVm vm₁, locs, cells, slots⟩ { g with stack := rest } (.invokestatic index) mk argsL.toArray X₁ hg hsize hdg hW (X₁.named hnamed) (hpre vm₁ X₁.warmed) with ⟨v, B, X', hpost, hsteps⟩ | ⟨q, B, X', hpost, hsteps⟩
  · exact Or.inl ⟨v, vm₁, B, X₁.warmed, X', hpost, fun target h => hstep₁ _ fun acts => by rw [doInvoke_state]; exact hsteps.trans h⟩
  · exact Or.inr ⟨q, vm₁, B, X₁.warmed, X', hpost, hstep₁ _ fun acts => by rw [doInvoke_state]; exact hsteps⟩
end Calls
theorem vx_cls {s : State} {T : State} {vm₁ : Vm} {E : String} {k : ClassId} (hW : s.WarmedH vm₁) (h : (T.setVm vm₁).vm.findClass E = some k) : s.vm.findClass E = some k := by
  have h1 : vm₁.findClass E = some k := h
  rw [hW.alike.findClass] at h1
  exact h1
/-- the method's frame g, with q thrown over it -/
def vx_W (p : Program) (l : Launch) (e : Env) (R : Room) (s : State) (m : MethodId) (args : Array Value) (below : List Frame) (meth : Method) (c : Code) (H : Heap) (locs : List Loc) (cells slots : Nat) (Q : State → Prop) (g : JFrame) (q : Addr) : Prop :=
  ∀ T : State, T.heap = H → Stand p l e R s m args below meth c T locs cells slots → ∃ t, Steps p.tables e below ((T.setTop g).pushFrame (.throwing q)) t ∧ Q t
def vx_Run (p : Program) (l : Launch) (e : Env) (R : Room) (s : State) (m : MethodId) (args : Array Value) (below : List Frame) (meth : Method) (c : Code) (H : Heap) (locs : List Loc) (cells slots mc ms : Nat) (g : JFrame) (rest : List Value) (Qa : State → Outcome → State → Prop) (XC : String → State → State → Prop) (free : Addr → Prop) : Prop :=
  ∀ T : State, T.heap = H → Stand p l e R s m args below meth c T locs cells slots →
    (∃ (v : Option Value) (st₀ t T' : State) (L : List Loc), st₀.heap = H ∧ Stand p l e R s m args below meth c T' (locs ++ L) (cells + mc) (slots + ms) ∧ (∀ q ∈ L, free q.base) ∧ T'.heap = t.heap ∧ T'.vm = t.vm ∧ Qa st₀ (.returned v) t ∧
      Goes p e below T g T' { g with pc := g.pc + 3, stack := v.toList ++ rest }) ∨
    (∃ (q : Addr) (st₀ t T' : State) (L : List Loc) (E : String) (ce : Cell), st₀.heap = H ∧ Stand p l e R s m args below meth c T' (locs ++ L) (cells + mc) (slots + ms) ∧ (∀ z ∈ L, free z.base) ∧ T'.heap = t.heap ∧ T'.vm = t.vm ∧ XC E st₀ t ∧ t.heap[q]? = some ce ∧ ce.vm = .none ∧ s.vm.findClass E = some ce.cls ∧
      Steps p.tables e below (T.setTop g) ((T'.setTop { g with stack := rest }).pushFrame (.throwing q)))
def vx_X {S : Type} (px : S → Prop) (B : String → S → State → Prop) (A : Nat → Prop) : String → State → State → Prop := fun E st t => ∃ u : S, px u ∧ B E u t ∧ va_F A st t
section Runs
variable {p : Program} {l : Launch} {e : Env} {R : Room} {s : State} {m : MethodId} {args : Array Value} {below : List Frame} {meth : Method} {c : Code} {H : Heap} {locs : List Loc} {cells slots : Nat}
variable {y : MethodName} {bytes cc : ByteArray} {maxL nL mc ms n index : Nat} {ret : Option FieldType} {ws : List Cond} {rm : Room} {Pc : Array Value → State → Prop} {Qc : Array Value → State → Outcome → State → Prop} {XC : String → State → State → Prop} {free : Addr → Prop} {Ts : List Cond} {own C : String} {b : Addr} {As rest : List Value} {g : JFrame}
theorem vx_callBack (cb : CallB R s args own index y bytes maxL ret ws rm mc ms n) (hM : vx_Met l y ws rm Pc Qc XC mc ms free) (hbl : FrameBlind Pc) : vx_Back l R p e below s args y 3 8 (PreOf R mc ms Pc) (PostOf Qc mc ms free) (vx_Post XC mc ms free) := by
  obtain ⟨hrc, hrs, hfr, hlo, hws, hcw, -, hini, -⟩ := cb
  exact vx_back (bytes := bytes) (maxL := maxL) (ret := ret) hM hbl hrc hrs hfr hlo hws hcw (fun a' U hW => word_at hW (Or.inl (by first | rfl | simp [Cond.onTables, Cond.keeps, Cond.steady])) hini)
theorem vx_runV (S : CallFix p m c cc nL s args Ts own) (hM : vx_Met l y ws rm Pc Qc XC mc ms free) (cw : CallW R s args own C index y bytes maxL ret ws rm mc ms n) (hp : PreV s H C b Pc As)
    (hg : g.method = m) (hn : As.length = n) (hsize : g.locals.size = nL) (hstack : g.stack = As.reverse ++ .ref b :: rest) (hW : 2 * g.monitorRoom + (rest.map fun v => v.category).sum ≤ 8) (hdg : decode cc g.pc = .ok (.invokevirtual index, 3)) (hf : cells + mc ≤ R.cells ∧ slots + ms ≤ R.slots) :
    vx_Run p l e R s m args below meth c H locs cells slots mc ms g rest (Qc (Value.ref b :: As).toArray) XC free := by
  have hK : vx_Back l R p e below s args y 3 8 (PreOf R mc ms Pc) (PostOf Qc mc ms free) (vx_Post XC mc ms free) := vx_callBack cw.1 hM hp.1
  obtain ⟨⟨-, -, -, -, -, -, hcode, -, hy, hlen, hl⟩, hin, hse⟩ := cw
  obtain ⟨hx, hb, hml, ho, -⟩ := S
  obtain ⟨-, ⟨cellB, hcB, hoB, hclB⟩, hPc⟩ := hp
  intro T hT X
  rcases vx_callV X hx (C := C) (bytes := bytes) (maxL := maxL) (ret := ret) ho hl hin hse hcode hy hK (by rw [hT]; exact hcB) hoB hclB hg (hsize.trans hml.symm) (argsL := As) (rest := rest) (fun sig h => hn.trans (hlen sig h)) hstack hW (by rw [hb]; exact hdg)
    (fun vm₁ hW₁ => ⟨hf.1, hf.2, hPc (T.setVm vm₁) hT hW₁⟩) with ⟨v, vm₁, ⟨U', l2, c2, s2⟩, hW₁, X', ⟨g', mk, t, L, e1, e2, hq, h1, hL, h2, h3⟩, st⟩ | ⟨q, vm₁, ⟨U', l2, c2, s2⟩, hW₁, X', ⟨g', mk, t, L, E, ce, e1, e2, hq, hce, hcv, hcl, h1, hL, h2, h3⟩, st⟩
  · dsimp only [Pt.U, Pt.locs, Pt.cells, Pt.slots] at X' e1 e2 h1 h2 h3 st
    subst h1; subst h2; subst h3
    exact Or.inl ⟨v, (T.setVm vm₁).calling g' mk (Value.ref b :: As).toArray, t, U', L, hT, X', hL, e1, e2, hq, st⟩
  · dsimp only [Pt.U, Pt.locs, Pt.cells, Pt.slots] at X' e1 e2 h1 h2 h3 st hcl
    subst h1; subst h2; subst h3
    exact Or.inr ⟨q, (T.setVm vm₁).calling g' mk (Value.ref b :: As).toArray, t, U', L, E, ce, hT, X', hL, e1, e2, hq, hce, hcv, vx_cls hW₁ hcl, st⟩
theorem vx_runS (S : CallFix p m c cc nL s args Ts own) (hM : vx_Met l y ws rm Pc Qc XC mc ms free) (cw : CallB R s args own index y bytes maxL ret ws rm mc ms n ∧ (Cond.static y).before args s = true) (hp : PreS s H Pc As)
    (hg : g.method = m) (hn : As.length = n) (hsize : g.locals.size = nL) (hstack : g.stack = As.reverse ++ rest) (hW : 2 * g.monitorRoom + (rest.map fun v => v.category).sum ≤ 8) (hdg : decode cc g.pc = .ok (.invokestatic index, 3)) (hf : cells + mc ≤ R.cells ∧ slots + ms ≤ R.slots) :
    vx_Run p l e R s m args below meth c H locs cells slots mc ms g rest (Qc As.toArray) XC free := by
  have hK : vx_Back l R p e below s args y 3 8 (PreOf R mc ms Pc) (PostOf Qc mc ms free) (vx_Post XC mc ms free) := vx_callBack cw.1 hM hp.1
  obtain ⟨⟨-, -, -, -, -, -, hcode, hini, hy, hlen, hl⟩, hstt⟩ := cw
  obtain ⟨hx, hb, hml, ho, -⟩ := S
  intro T hT X
  rcases vx_callS X hx (bytes := bytes) (maxL := maxL) (ret := ret) ho hl hstt hini hcode hy hK hg (hsize.trans hml.symm) (argsL := As) (rest := rest) (fun sig h => hn.trans (hlen sig h)) hstack hW (by rw [hb]; exact hdg)
    (fun vm₁ hW₁ => ⟨hf.1, hf.2, hp.2 (T.setVm vm₁) hT hW₁⟩) with ⟨v, vm₁, ⟨U', l2, c2, s2⟩, hW₁, X', ⟨g', mk, t, L, e1, e2, hq, h1, hL, h2, h3⟩, st⟩ | ⟨q, vm₁, ⟨U', l2, c2, s2⟩, hW₁, X', ⟨g', mk, t, L, E, ce, e1, e2, hq, hce, hcv, hcl, h1, hL, h2, h3⟩, st⟩
  · dsimp only [Pt.U, Pt.locs, Pt.cells, Pt.slots] at X' e1 e2 h1 h2 h3 st
    subst h1; subst h2; subst h3
    exact Or.inl ⟨v, (T.setVm vm₁).calling g' mk As.toArray, t, U', L, hT, X', hL, e1, e2, hq, st⟩
  · dsimp only [Pt.U, Pt.locs, Pt.cells, Pt.slots] at X' e1 e2 h1 h2 h3 st hcl
    subst h1; subst h2; subst h3
    exact Or.inr ⟨q, (T.setVm vm₁).calling g' mk As.toArray, t, U', L, E, ce, hT, X', hL, e1, e2, hq, hce, hcv, vx_cls hW₁ hcl, st⟩
end Runs
section Rows
variable {p : Program} {l : Launch} {e : Env} {R : Room} {s : State} {m : MethodId} {args : Array Value} {below : List Frame} {meth : Method} {c : Code} {H : Heap} {locs : List Loc} {cells slots : Nat} {Q : State → Prop}
variable {mc ms : Nat} {free : Addr → Prop} {A0 A1 : Nat → Prop} {H0 : Heap} {a : Array Value} {pc : Nat} {ls : Array Slot} {st0 rest : List Value}
theorem vx_keep {st₀ t T' : State} {L : List Loc} (h0 : st₀.heap = H) (e1 : T'.heap = t.heap) (hS : va_S A0 H0 H locs) (hA : ∀ q, q < H.size → A1 q → A0 q) (hf : ∀ q, free q → A0 q) (hL : ∀ q ∈ L, free q.base) (hF : va_F A1 st₀ t) :
    H.size ≤ T'.heap.size ∧ (∀ q : Nat, q < H.size → ¬ A1 q → T'.heap[q]? = H[q]?) ∧ va_S A0 H0 T'.heap (locs ++ L) := by
  obtain ⟨hz, hk⟩ := hF
  rw [h0] at hz hk
  exact ⟨by rw [e1]; exact hz, fun q h1 h2 => by rw [e1]; exact hk q h1 h2,
    ⟨Nat.le_trans hS.1 (by rw [e1]; exact hz), fun q h1 h2 => by rw [e1, hk q (Nat.lt_of_lt_of_le h1 hS.1) (fun z => h2 (hA q (Nat.lt_of_lt_of_le h1 hS.1) z))]; exact hS.2.1 q h1 h2, fun q hq => by
      rcases List.mem_append.mp hq with h | h
      · exact hS.2.2 q h
      · exact hf _ (hL q h)⟩⟩
theorem vx_calli {S SX : Type} {post : Int32 → S → Prop} {px : SX → Prop} {B : S → State → Prop} {BX : String → SX → State → Prop} {AX : Nat → Prop} (hr : vx_Run p l e R s m args below meth c H locs cells slots mc ms (F0 m pc ls st0) rest (va_Qi post B A1 a) (vx_X px BX AX) free) (hS : va_S A0 H0 H locs) (hA : ∀ q, q < H.size → A1 q → A0 q) (hf : ∀ q, free q → A0 q) (hAX : ∀ q, q < H.size → AX q → A0 q)
    (kx : ∀ (E : String) (ce : Cell) (q9 : Addr) (u : SX) (t : State) (H1 : Heap) (locs1 : List Loc), t.heap = H1 → s.vm.Alike t.vm → px u → BX E u t → H.size ≤ H1.size → (∀ q : Nat, q < H.size → ¬ AX q → H1[q]? = H[q]?) → va_S A0 H0 H1 locs1 → H1[q9]? = some ce → ce.vm = .none → s.vm.findClass E = some ce.cls → vx_W p l e R s m args below meth c H1 locs1 (cells + mc) (slots + ms) Q (F0 m pc ls rest) q9)
    (kk : ∀ (r : Int32) (u : S) (t : State) (H1 : Heap) (locs1 : List Loc), t.heap = H1 → s.vm.Alike t.vm → post r u → B u t → H.size ≤ H1.size → (∀ q : Nat, q < H.size → ¬ A1 q → H1[q]? = H[q]?) → va_S A0 H0 H1 locs1 → W p l e R s m args below meth c H1 locs1 (cells + mc) (slots + ms) Q (F0 m (pc + 3) ls (.int r :: rest))) : W p l e R s m args below meth c H locs cells slots Q (F0 m pc ls st0) := by
  intro T hT X
  rcases hr T hT X with ⟨v, st₀, t, T', L, h0, X', hL, e1, e2, ⟨⟨r, u, hv, hp, hb⟩, hF⟩, st⟩ | ⟨q, st₀, t, T', L, E, ce, h0, X', hL, e1, e2, ⟨u, hp, hb, hF⟩, hce, hcv, hcl, st⟩
  · cases hv
    obtain ⟨k1, k2, k3⟩ := vx_keep h0 e1 hS hA hf hL hF
    obtain ⟨t2, a1, b1⟩ := kk r u t T'.heap (locs ++ L) e1.symm (by rw [← e2]; exact X'.warmed.alike) hp hb k1 k2 k3 T' rfl X'
    exact ⟨t2, st t2 a1, b1⟩
  · obtain ⟨k1, k2, k3⟩ := vx_keep h0 e1 hS hAX hf hL hF
    obtain ⟨t2, a1, b1⟩ := kx E ce q u t T'.heap (locs ++ L) e1.symm (by rw [← e2]; exact X'.warmed.alike) hp hb k1 k2 k3 (by rw [e1]; exact hce) hcv hcl T' rfl X'
    exact ⟨t2, st.trans a1, b1⟩
theorem vx_calll {S SX : Type} {post : Int64 → S → Prop} {px : SX → Prop} {B : S → State → Prop} {BX : String → SX → State → Prop} {AX : Nat → Prop} (hr : vx_Run p l e R s m args below meth c H locs cells slots mc ms (F0 m pc ls st0) rest (va_Ql post B A1 a) (vx_X px BX AX) free) (hS : va_S A0 H0 H locs) (hA : ∀ q, q < H.size → A1 q → A0 q) (hf : ∀ q, free q → A0 q) (hAX : ∀ q, q < H.size → AX q → A0 q)
    (kx : ∀ (E : String) (ce : Cell) (q9 : Addr) (u : SX) (t : State) (H1 : Heap) (locs1 : List Loc), t.heap = H1 → s.vm.Alike t.vm → px u → BX E u t → H.size ≤ H1.size → (∀ q : Nat, q < H.size → ¬ AX q → H1[q]? = H[q]?) → va_S A0 H0 H1 locs1 → H1[q9]? = some ce → ce.vm = .none → s.vm.findClass E = some ce.cls → vx_W p l e R s m args below meth c H1 locs1 (cells + mc) (slots + ms) Q (F0 m pc ls rest) q9)
    (kk : ∀ (r : Int64) (u : S) (t : State) (H1 : Heap) (locs1 : List Loc), t.heap = H1 → s.vm.Alike t.vm → post r u → B u t → H.size ≤ H1.size → (∀ q : Nat, q < H.size → ¬ A1 q → H1[q]? = H[q]?) → va_S A0 H0 H1 locs1 → W p l e R s m args below meth c H1 locs1 (cells + mc) (slots + ms) Q (F0 m (pc + 3) ls (.long r :: rest))) : W p l e R s m args below meth c H locs cells slots Q (F0 m pc ls st0) := by
  intro T hT X
  rcases hr T hT X with ⟨v, st₀, t, T', L, h0, X', hL, e1, e2, ⟨⟨r, u, hv, hp, hb⟩, hF⟩, st⟩ | ⟨q, st₀, t, T', L, E, ce, h0, X', hL, e1, e2, ⟨u, hp, hb, hF⟩, hce, hcv, hcl, st⟩
  · cases hv
    obtain ⟨k1, k2, k3⟩ := vx_keep h0 e1 hS hA hf hL hF
    obtain ⟨t2, a1, b1⟩ := kk r u t T'.heap (locs ++ L) e1.symm (by rw [← e2]; exact X'.warmed.alike) hp hb k1 k2 k3 T' rfl X'
    exact ⟨t2, st t2 a1, b1⟩
  · obtain ⟨k1, k2, k3⟩ := vx_keep h0 e1 hS hAX hf hL hF
    obtain ⟨t2, a1, b1⟩ := kx E ce q u t T'.heap (locs ++ L) e1.symm (by rw [← e2]; exact X'.warmed.alike) hp hb k1 k2 k3 (by rw [e1]; exact hce) hcv hcl T' rfl X'
    exact ⟨t2, st.trans a1, b1⟩
theorem vx_callf {S SX : Type} {post : UInt32 → S → Prop} {px : SX → Prop} {B : S → State → Prop} {BX : String → SX → State → Prop} {AX : Nat → Prop} (hr : vx_Run p l e R s m args below meth c H locs cells slots mc ms (F0 m pc ls st0) rest (va_Qf post B A1 a) (vx_X px BX AX) free) (hS : va_S A0 H0 H locs) (hA : ∀ q, q < H.size → A1 q → A0 q) (hf : ∀ q, free q → A0 q) (hAX : ∀ q, q < H.size → AX q → A0 q)
    (kx : ∀ (E : String) (ce : Cell) (q9 : Addr) (u : SX) (t : State) (H1 : Heap) (locs1 : List Loc), t.heap = H1 → s.vm.Alike t.vm → px u → BX E u t → H.size ≤ H1.size → (∀ q : Nat, q < H.size → ¬ AX q → H1[q]? = H[q]?) → va_S A0 H0 H1 locs1 → H1[q9]? = some ce → ce.vm = .none → s.vm.findClass E = some ce.cls → vx_W p l e R s m args below meth c H1 locs1 (cells + mc) (slots + ms) Q (F0 m pc ls rest) q9)
    (kk : ∀ (r : UInt32) (u : S) (t : State) (H1 : Heap) (locs1 : List Loc), t.heap = H1 → s.vm.Alike t.vm → post r u → B u t → H.size ≤ H1.size → (∀ q : Nat, q < H.size → ¬ A1 q → H1[q]? = H[q]?) → va_S A0 H0 H1 locs1 → W p l e R s m args below meth c H1 locs1 (cells + mc) (slots + ms) Q (F0 m (pc + 3) ls (.float r :: rest))) : W p l e R s m args below meth c H locs cells slots Q (F0 m pc ls st0) := by
  intro T hT X
  rcases hr T hT X with ⟨v, st₀, t, T', L, h0, X', hL, e1, e2, ⟨⟨r, u, hv, hp, hb⟩, hF⟩, st⟩ | ⟨q, st₀, t, T', L, E, ce, h0, X', hL, e1, e2, ⟨u, hp, hb, hF⟩, hce, hcv, hcl, st⟩
  · cases hv
    obtain ⟨k1, k2, k3⟩ := vx_keep h0 e1 hS hA hf hL hF
    obtain ⟨t2, a1, b1⟩ := kk r u t T'.heap (locs ++ L) e1.symm (by rw [← e2]; exact X'.warmed.alike) hp hb k1 k2 k3 T' rfl X'
    exact ⟨t2, st t2 a1, b1⟩
  · obtain ⟨k1, k2, k3⟩ := vx_keep h0 e1 hS hAX hf hL hF
    obtain ⟨t2, a1, b1⟩ := kx E ce q u t T'.heap (locs ++ L) e1.symm (by rw [← e2]; exact X'.warmed.alike) hp hb k1 k2 k3 (by rw [e1]; exact hce) hcv hcl T' rfl X'
    exact ⟨t2, st.trans a1, b1⟩
theorem vx_calld {S SX : Type} {post : UInt64 → S → Prop} {px : SX → Prop} {B : S → State → Prop} {BX : String → SX → State → Prop} {AX : Nat → Prop} (hr : vx_Run p l e R s m args below meth c H locs cells slots mc ms (F0 m pc ls st0) rest (va_Qd post B A1 a) (vx_X px BX AX) free) (hS : va_S A0 H0 H locs) (hA : ∀ q, q < H.size → A1 q → A0 q) (hf : ∀ q, free q → A0 q) (hAX : ∀ q, q < H.size → AX q → A0 q)
    (kx : ∀ (E : String) (ce : Cell) (q9 : Addr) (u : SX) (t : State) (H1 : Heap) (locs1 : List Loc), t.heap = H1 → s.vm.Alike t.vm → px u → BX E u t → H.size ≤ H1.size → (∀ q : Nat, q < H.size → ¬ AX q → H1[q]? = H[q]?) → va_S A0 H0 H1 locs1 → H1[q9]? = some ce → ce.vm = .none → s.vm.findClass E = some ce.cls → vx_W p l e R s m args below meth c H1 locs1 (cells + mc) (slots + ms) Q (F0 m pc ls rest) q9)
    (kk : ∀ (r : UInt64) (u : S) (t : State) (H1 : Heap) (locs1 : List Loc), t.heap = H1 → s.vm.Alike t.vm → post r u → B u t → H.size ≤ H1.size → (∀ q : Nat, q < H.size → ¬ A1 q → H1[q]? = H[q]?) → va_S A0 H0 H1 locs1 → W p l e R s m args below meth c H1 locs1 (cells + mc) (slots + ms) Q (F0 m (pc + 3) ls (.double r :: rest))) : W p l e R s m args below meth c H locs cells slots Q (F0 m pc ls st0) := by
  intro T hT X
  rcases hr T hT X with ⟨v, st₀, t, T', L, h0, X', hL, e1, e2, ⟨⟨r, u, hv, hp, hb⟩, hF⟩, st⟩ | ⟨q, st₀, t, T', L, E, ce, h0, X', hL, e1, e2, ⟨u, hp, hb, hF⟩, hce, hcv, hcl, st⟩
  · cases hv
    obtain ⟨k1, k2, k3⟩ := vx_keep h0 e1 hS hA hf hL hF
    obtain ⟨t2, a1, b1⟩ := kk r u t T'.heap (locs ++ L) e1.symm (by rw [← e2]; exact X'.warmed.alike) hp hb k1 k2 k3 T' rfl X'
    exact ⟨t2, st t2 a1, b1⟩
  · obtain ⟨k1, k2, k3⟩ := vx_keep h0 e1 hS hAX hf hL hF
    obtain ⟨t2, a1, b1⟩ := kx E ce q u t T'.heap (locs ++ L) e1.symm (by rw [← e2]; exact X'.warmed.alike) hp hb k1 k2 k3 (by rw [e1]; exact hce) hcv hcl T' rfl X'
    exact ⟨t2, st.trans a1, b1⟩
theorem vx_callv {S SX : Type} {post : S → Prop} {px : SX → Prop} {B : S → State → Prop} {BX : String → SX → State → Prop} {AX : Nat → Prop} (hr : vx_Run p l e R s m args below meth c H locs cells slots mc ms (F0 m pc ls st0) rest (va_Qv post B A1 a) (vx_X px BX AX) free) (hS : va_S A0 H0 H locs) (hA : ∀ q, q < H.size → A1 q → A0 q) (hf : ∀ q, free q → A0 q) (hAX : ∀ q, q < H.size → AX q → A0 q)
    (kx : ∀ (E : String) (ce : Cell) (q9 : Addr) (u : SX) (t : State) (H1 : Heap) (locs1 : List Loc), t.heap = H1 → s.vm.Alike t.vm → px u → BX E u t → H.size ≤ H1.size → (∀ q : Nat, q < H.size → ¬ AX q → H1[q]? = H[q]?) → va_S A0 H0 H1 locs1 → H1[q9]? = some ce → ce.vm = .none → s.vm.findClass E = some ce.cls → vx_W p l e R s m args below meth c H1 locs1 (cells + mc) (slots + ms) Q (F0 m pc ls rest) q9)
    (kk : ∀ (u : S) (t : State) (H1 : Heap) (locs1 : List Loc), t.heap = H1 → s.vm.Alike t.vm → post u → B u t → H.size ≤ H1.size → (∀ q : Nat, q < H.size → ¬ A1 q → H1[q]? = H[q]?) → va_S A0 H0 H1 locs1 → W p l e R s m args below meth c H1 locs1 (cells + mc) (slots + ms) Q (F0 m (pc + 3) ls (rest))) : W p l e R s m args below meth c H locs cells slots Q (F0 m pc ls st0) := by
  intro T hT X
  rcases hr T hT X with ⟨v, st₀, t, T', L, h0, X', hL, e1, e2, ⟨⟨u, hv, hp, hb⟩, hF⟩, st⟩ | ⟨q, st₀, t, T', L, E, ce, h0, X', hL, e1, e2, ⟨u, hp, hb, hF⟩, hce, hcv, hcl, st⟩
  · cases hv
    obtain ⟨k1, k2, k3⟩ := vx_keep h0 e1 hS hA hf hL hF
    obtain ⟨t2, a1, b1⟩ := kk u t T'.heap (locs ++ L) e1.symm (by rw [← e2]; exact X'.warmed.alike) hp hb k1 k2 k3 T' rfl X'
    exact ⟨t2, st t2 a1, b1⟩
  · obtain ⟨k1, k2, k3⟩ := vx_keep h0 e1 hS hAX hf hL hF
    obtain ⟨t2, a1, b1⟩ := kx E ce q u t T'.heap (locs ++ L) e1.symm (by rw [← e2]; exact X'.warmed.alike) hp hb k1 k2 k3 (by rw [e1]; exact hce) hcv hcl T' rfl X'
    exact ⟨t2, st.trans a1, b1⟩
/-- caught by the row x of this method's table; the rows ahead don't take it -/
theorem vx_catch {own name : String} {E : String} {ce : Cell} {q : Addr} (hown : s.vm.findClass own = some m.cls) (pre : List ExceptionTableEntry) (x : ExceptionTableEntry) (suf : List ExceptionTableEntry) (hsplit : c.exceptionTable.toList = pre ++ x :: suf)
    (hpass : ∀ z ∈ pre, covers z pc = false ∨ (z.catchType ≠ 0 ∧ ∃ nm : String, (Cond.classLink own z.catchType nm).before args s = true ∧ va_Nc E nm s)) (hx : covers x pc = true) (h0 : x.catchType ≠ 0)
    (hlink : (Cond.classLink own x.catchType name).before args s = true) (hcast : (Cond.castable E name).before args s = true) (hcell : H[q]? = some ce) (hv : ce.vm = .none) (hcl : s.vm.findClass E = some ce.cls)
    (kk : W p l e R s m args below meth c H locs cells slots Q (F0 m x.handlerPc ls [.ref q])) : vx_W p l e R s m args below meth c H locs cells slots Q (F0 m pc ls rest) q := by
  intro T hT X
  have hpl : e.platform.magicAccessors = ({} : Platform).magicAccessors := by rw [X.admits.platform]
  obtain ⟨c3, c4, hc3, hc4, hasg⟩ := Cond.castable_spec hcast
  cases Option.some.inj (hc3.symm.trans hcl)
  obtain ⟨c5, hc5, hcl5⟩ := Cond.classLink_spec hown hlink e.platform hpl
  cases Option.some.inj (hc4.symm.trans hc5)
  obtain ⟨vm', X', st⟩ := X.thenCaughtThrough q (g := F0 m pc ls rest) rfl (Steps.refl _) (by rw [hT]; exact hcell) (by rw [hv]; rfl) (by obtain ⟨k9, h9, -⟩ := Vm.findClass_spec hcl; exact ⟨k9, h9⟩) pre x suf hsplit
    (fun z hz => by
      rcases hpass z hz with h | ⟨hz0, nm, hl1, hn1⟩
      · exact Or.inl h
      · obtain ⟨c6, hc6, hcl6⟩ := Cond.classLink_spec hown hl1 e.platform hpl
        obtain ⟨a8, b8, h1, h2, h3⟩ := hn1
        cases Option.some.inj (h1.symm.trans hcl)
        cases Option.some.inj (h2.symm.trans hc6)
        exact Or.inr ⟨hz0, _, hcl6, h3⟩) hx (Or.inr ⟨h0, c4, hcl5, hasg⟩)
  obtain ⟨t, a1, b1⟩ := kk (T.setVm vm') hT X'
  exact ⟨t, st.trans a1, b1⟩
end Rows
section Ends
variable {p : Program} {l : Launch} {e : Env} {R : Room} {s : State} {m : MethodId} {args : Array Value} {below : List Frame} {meth : Method} {c : Code} {H : Heap} {locs : List Loc} {cells slots : Nat} {Q : State → Prop}
variable {mc ms : Nat} {free : Addr → Prop} {A0 A1 : Nat → Prop} {H0 : Heap} {a : Array Value} {ls : Array Slot} {st0 rest : List Value}
variable {Qc : Array Value → State → Outcome → State → Prop} {XC : String → State → State → Prop}
/-- what a body that may throw owes at its end -/
def vx_MQ (below : List Frame) (Qc : Array Value → State → Outcome → State → Prop) (XC : String → State → State → Prop) (a : Array Value) (s : State) (mc ms : Nat) (free : Addr → Prop) : State → Prop := fun t =>
  ∃ o, t.status = .running ∧ Ended t below o ∧ vx_Q Qc XC mc ms free a s o t
theorem vx_ret {g : JFrame} {mc ms : Nat} (k : W p l e R s m args below meth c H locs cells slots (MQ below Qc args s mc ms free) g) : W p l e R s m args below meth c H locs cells slots (vx_MQ below Qc XC args s mc ms free) g := by
  intro T hT X
  obtain ⟨t, a1, o, b1, b2, b3, b4⟩ := k T hT X
  exact ⟨t, a1, o, b1, b2, Or.inl ⟨b3, b4⟩⟩
/-- not caught here: it goes on to the caller -/
theorem vx_widen {g : JFrame} {q : Addr} {k n : Nat} (h1 : cells ≤ k) (h2 : slots ≤ n) (kk : vx_W p l e R s m args below meth c H locs k n Q g q) : vx_W p l e R s m args below meth c H locs cells slots Q g q := fun T hT X => kk T hT (stand_widen X h1 h2)
theorem vx_out {pc : Nat} {E : String} {ce : Cell} {q : Addr} {mc ms : Nat} (hout : ∀ x ∈ c.exceptionTable.toList, covers x pc = false) (hlocks : meth.locks = false) (hcell : H[q]? = some ce) (hv : ce.vm = .none) (hcl : s.vm.findClass E = some ce.cls)
    (hx : ∀ t : State, t.heap = H → s.vm.Alike t.vm → XC E s t) (hf : ∀ z ∈ locs, free z.base) (hc : cells ≤ mc) (hs : slots ≤ ms) :
    vx_W p l e R s m args below meth c H locs cells slots (vx_MQ below Qc XC args s mc ms free) (F0 m pc ls rest) q := by
  intro T hT X
  obtain ⟨st1, hrun, hend, hW, hsm⟩ := X.leaveThrown q (g := F0 m pc ls rest) rfl rfl rfl hout hlocks
  have hcell9 : (T.setFrames (.throwing q :: below)).heap[q]? = some ce := by
    show T.heap[q]? = some ce
    rw [hT]; exact hcell
  exact ⟨_, st1, .threw q, hrun, hend, Or.inr ⟨q, rfl, E, ce, locs, hx _ hT hW.alike, hcell9, hv, hcl, hW, hsm.mono hc hs, hf⟩⟩
theorem vx_frame {U : State} {k n : Nat} (h : s.sameButNew ({ U with vm := s.vm } : State) locs k n) : s.heap.size ≤ U.heap.size ∧ ∀ q : Nat, q < s.heap.size → (∀ z ∈ locs, z.base ≠ q) → U.heap[q]? = s.heap[q]? := by
  obtain ⟨-, h2, -, -, -, h6⟩ := h
  refine ⟨h2, fun q hq hz => ?_⟩
  obtain ⟨c9, e1, e2, e3, e4⟩ := h6 q _ (Array.getElem?_eq_getElem hq)
  have hs : c9.slots = (s.heap[q]).slots := Array.ext_getElem? fun i => e4 i fun hm => hz _ hm rfl
  have h9 : c9 = s.heap[q] := by
    rw [hs] at e2
    exact e2
  have e5 : U.heap[q]? = some c9 := e1
  rw [e5, h9, Array.getElem?_eq_getElem hq]
/-- the words of a throw but the four that speak of the heap -/
def vx_no (w : Cond) : Bool := decide (w ≠ .isRef (.static Bundle.tN "UNASSIGNED_STACK" Bundle.steD)) && decide (w ≠ .isRef (.static Bundle.tN "SUPPRESSED_SENTINEL" Bundle.listD)) && decide (w ≠ .laysStatic Bundle.tN "UNASSIGNED_STACK" Bundle.steD) && decide (w ≠ .laysStatic Bundle.tN "SUPPRESSED_SENTINEL" Bundle.listD)
def vx_at0 (own : String) (ic : Nat) (X : String) (names : List String) : List Cond := (Bundle.ownAtoms0 own ic X names).filter vx_no
def vx_atS (own : String) (ic : Nat) (X : String) (names : List String) : List Cond := (Bundle.ownAtoms own ic X names).filter vx_no
/-- a word that the tables alone decide, or a good one -/
def vx_ot (w : Cond) : Bool := w.onTables || goodWord w
theorem vx_ot_at {args a' : Array Value} {s U : State} {w : Cond} (hW : s.WarmedH U.vm) (hvm : s.vm = U.vm) (hg : vx_ot w = true) (h : w.before args s = true) : w.before a' U = true := by
  simp only [vx_ot, Bool.or_eq_true] at hg
  rcases hg with hg | hg
  · exact va_tabs hg hvm h
  · exact word_at hW (good_of_word hg) h
/-- a list's words: the good ones out of the method's own list, the others by premises of their own -/
theorem vx_hat {args : Array Value} {s : State} {L B : List Cond} (h1 : ∀ w ∈ L.filter goodWord, w.before args s = true) (h2 : ∀ w ∈ L.filter (fun w => !goodWord w), w ∈ B) (h3 : ∀ w ∈ B, w.before args s = true) : ∀ w ∈ L, w.before args s = true := by
  intro w hw
  by_cases g : goodWord w = true
  · exact h1 w (List.mem_filter.mpr ⟨hw, g⟩)
  · refine h3 w (h2 w (List.mem_filter.mpr ⟨hw, ?_⟩))
    show (!goodWord w) = true
    cases hgw : goodWord w
    · rfl
    · exact absurd hgw g
theorem vx_c {args : Array Value} {s : State} {w : Cond} {B : List Cond} (h : w.before args s = true) (t : ∀ w ∈ B, w.before args s = true) : ∀ w' ∈ w :: B, w'.before args s = true := fun w' h' => (List.mem_cons.mp h').elim (fun e => by rw [e]; exact h) (t w')
theorem vx_n {args : Array Value} {s : State} : ∀ w ∈ ([] : List Cond), w.before args s = true := fun _ h => nomatch h
theorem vx_own {args : Array Value} {s : State} {L : List Cond} (h1 : ∀ w ∈ L.filter vx_no, w.before args s = true)
    (hU : (Cond.isRef (.static Bundle.tN "UNASSIGNED_STACK" Bundle.steD)).before args s = true) (hN : (Cond.isRef (.static Bundle.tN "SUPPRESSED_SENTINEL" Bundle.listD)).before args s = true)
    (lU : (Cond.laysStatic Bundle.tN "UNASSIGNED_STACK" Bundle.steD).before args s = true) (lN : (Cond.laysStatic Bundle.tN "SUPPRESSED_SENTINEL" Bundle.listD).before args s = true) : ∀ w ∈ L, w.before args s = true := by
  intro w hw
  by_cases e1 : w = .isRef (.static Bundle.tN "UNASSIGNED_STACK" Bundle.steD)
  · rw [e1]; exact hU
  · by_cases e2 : w = .isRef (.static Bundle.tN "SUPPRESSED_SENTINEL" Bundle.listD)
    · rw [e2]; exact hN
    · by_cases e3 : w = .laysStatic Bundle.tN "UNASSIGNED_STACK" Bundle.steD
      · rw [e3]; exact lU
      · by_cases e4 : w = .laysStatic Bundle.tN "SUPPRESSED_SENTINEL" Bundle.listD
        · rw [e4]; exact lN
        · exact h1 w (List.mem_filter.mpr ⟨hw, by unfold vx_no; rw [decide_eq_true e1, decide_eq_true e2, decide_eq_true e3, decide_eq_true e4]; rfl⟩)
/-- where a static field lies, its class's statics cell in H -/
def vx_L (C n d : String) (A : Nat → Prop) (U : State) (H : Heap) : Prop := ∃ (c : ClassId) (k : Class) (i : Nat) (f : Field) (a : Nat) (cell : Cell), U.vm.findClass C = some c ∧ U.fieldFound? C n d = some (c, k, i, f) ∧ f.isStatic = true ∧ k.statics = some a ∧ H[a]? = some cell ∧ cell.vm.isStatics = true ∧ cell.cls = c ∧ f.slot < cell.slots.size ∧ k.staticTypes[f.slot]? = some f.type ∧ ¬ A a
theorem vx_L.moved {C n d : String} {A : Nat → Prop} {u U : State} {H : Heap} (hvm : u.vm.Alike U.vm) (h : vx_L C n d A u H) : vx_L C n d A U H := by
  obtain ⟨c, k, i, f, a, cell, h1, h2, h3, h4, h5, h6, h7, h8, h9, h10⟩ := h
  obtain ⟨k', hi', he⟩ := State.fieldFound?_setVm hvm h2
  exact ⟨c, k', i, f, a, cell, by rw [hvm.findClass]; exact h1, hi', h3, by rw [he]; exact h4, h5, h6, h7, h8, by rw [he]; exact h9, h10⟩
theorem vx_L.kept {C n d : String} {A : Nat → Prop} {U : State} {H H1 : Heap} (h : vx_L C n d A U H) (hq : ∀ a : Nat, a < H.size → ¬ A a → H1[a]? = H[a]?) : vx_L C n d A U H1 := by
  obtain ⟨c, k, i, f, a, cell, h1, h2, h3, h4, h5, h6, h7, h8, h9, h10⟩ := h
  exact ⟨c, k, i, f, a, cell, h1, h2, h3, h4, by rw [hq a (Array.getElem?_eq_some_iff.mp h5).1 h10]; exact h5, h6, h7, h8, h9, h10⟩
theorem vx_L.narrow {C n d : String} {A B : Nat → Prop} {U : State} {H : Heap} (h : vx_L C n d A U H) (hAB : ∀ q, B q → A q) : vx_L C n d B U H := by
  obtain ⟨c, k, i, f, a, cell, h1, h2, h3, h4, h5, h6, h7, h8, h9, h10⟩ := h
  exact ⟨c, k, i, f, a, cell, h1, h2, h3, h4, h5, h6, h7, h8, h9, fun z => h10 (hAB _ z)⟩
theorem vx_L.word {C n d : String} {A : Nat → Prop} {s : State} {args : Array Value} (h : vx_L C n d A s s.heap) : (Cond.laysStatic C n d).before args s = true := by
  obtain ⟨c, k, i, f, a, cell, h1, h2, h3, h4, h5, h6, h7, h8, h9, -⟩ := h
  show (Cond.laysStatic C n d).holds args s none s [] = true
  exact Cond.laysStatic_of h1 h2 h3 h4 h5 h6 h7 h8 h9
/-- .. and what it holds: null or some reference -/
def vx_Zq (C n d : String) (A : Nat → Prop) (U : State) (H : Heap) : Prop := va_Zq C n d A U H ∧ vx_L C n d A U H
theorem vx_Zq.moved {C n d : String} {A : Nat → Prop} {u U : State} {H : Heap} (hvm : u.vm.Alike U.vm) (h : vx_Zq C n d A u H) : vx_Zq C n d A U H := ⟨va_Zq.moved hvm h.1, vx_L.moved hvm h.2⟩
theorem vx_Zq.kept {C n d : String} {A : Nat → Prop} {U : State} {H H1 : Heap} (h : vx_Zq C n d A U H) (hq : ∀ a : Nat, a < H.size → ¬ A a → H1[a]? = H[a]?) : vx_Zq C n d A U H1 := ⟨va_Zq.kept h.1 hq, vx_L.kept h.2 hq⟩
theorem vx_Zq.narrow {C n d : String} {A B : Nat → Prop} {U : State} {H : Heap} (h : vx_Zq C n d A U H) (hAB : ∀ q, B q → A q) : vx_Zq C n d B U H := ⟨va_Zq.narrow h.1 hAB, vx_L.narrow h.2 hAB⟩
theorem vx_Zqof {args : Array Value} {s : State} {C n d : String} {A : Nat → Prop} (hl : (Cond.laysStatic C n d).before args s = true) (hini : (Cond.initialized C).before args s = true) (h : (Cond.isRef (.static C n d)).before args s = true) (hA : ∀ a : Nat, a < s.heap.size → ¬ A a) : vx_Zq C n d A s s.heap := by
  refine ⟨va_Zqof hl hini h hA, ?_⟩
  obtain ⟨c, k, i, f, a, cell, h1, h2, h3, h4, h5, h6, h7, h8, h9⟩ := Cond.laysStatic_spec hl
  exact ⟨c, k, i, f, a, cell, h1, h2, h3, h4, h5, h6, h7, h8, h9, hA a (Array.getElem?_eq_some_iff.mp h5).1⟩
theorem vx_isRef {C n d : String} {v : Value} {A : Nat → Prop} {s : State} {args : Array Value} (h : va_Z C n d v A s s.heap) (hv : v.isRef = true) : (Cond.isRef (.static C n d)).before args s = true := by
  obtain ⟨cf, kf, fi, f, a, cell, h1, h2, h3, h4, h5, h6, h7, -⟩ := h
  have he : (Term.static C n d).eval args s none [] s = some v := by
    simp [Term.eval, State.fieldNamed?, h1, h2, h4, h5, h6, h7]
  simp only [Cond.before, Cond.holds, Cond.value, he]
  cases v <;> simp_all [Value.isRef]
theorem vx_isRefq {C n d : String} {A : Nat → Prop} {s : State} {args : Array Value} (h : va_Zq C n d A s s.heap) : (Cond.isRef (.static C n d)).before args s = true := by
  rcases h with h | ⟨t, h⟩
  · exact vx_isRef h rfl
  · exact vx_isRef h rfl
/-- the same frame, seen from here: as if the method were called anew in this heap -/
theorem vx_rebase {T : State} (X : Stand p l e R s m args below meth c T locs cells slots) {R' : Room} (hf : R'.frames ≤ R.frames) (hl : R'.locals ≤ R.locals) (hc : cells + R'.cells ≤ R.cells) (hs : slots + R'.slots ≤ R.slots) :
    Stand p l e R' ((T.setVm s.vm).setFrames (.invoking m args :: below)) m args below meth c T [] 0 0 := by
  have htop : (T.setVm s.vm).topJava?.isSome := X.here.top
  have hF : ((T.setVm s.vm).setFrames (.invoking m args :: below)).frames = .invoking m args :: below := State.frames_setFrames _ (State.cur_lt_of_top htop)
  obtain ⟨g₀, hg0⟩ := Option.isSome_iff_exists.mp htop
  obtain ⟨r, hr⟩ := State.topJava?_eq_some.mp hg0
  have hl9 : e.platform.stackLimits (T.setVm s.vm).me = e.platform.stackLimits s.me := X.limits
  have hb9 : (T.setVm s.vm).me.stackBytes = s.me.stackBytes := X.bytes
  refine ⟨X.admits, X.cas, X.clock, hF, ?_, X.hears, X.method, X.code, X.here, X.tail, X.warmed, ?_, ?_, ?_⟩
  · have h := X.room
    have hU : ((T.setVm s.vm).setFrames (.invoking m args :: below)).localsInUse = s.localsInUse := by
      rw [State.localsInUse_invoking hF (meth := meth) (c := c) X.method X.code, State.localsInUse_invoking X.frames X.method X.code]
    simp only [State.hasRoom, Bool.and_eq_true, decide_eq_true_eq] at h ⊢
    obtain ⟨⟨⟨⟨h1, h2, h3, h4, h5, h6⟩, h7⟩, h8⟩, h9⟩ := h
    rw [X.frames, List.length_cons] at h2 h3
    have q1 := X.heapSize
    have q2 := X.used
    simp only [hF, hU, List.length_cons, State.stackLimits_setFrames, State.stackBytes_setFrames, hl9, hb9]
    refine ⟨⟨⟨⟨by omega, by omega, by omega, by omega, by omega, h6⟩, ?_⟩, ?_⟩, X.book⟩
    · show T.heap.size + R'.cells ≤ e.platform.maxCells
      omega
    · show T.slotsUsed + R'.slots ≤ e.platform.maxSlots
      omega
  · rw [State.stackLimits_setFrames]; rfl
  · rw [State.stackBytes_setFrames]; rfl
  · refine ⟨?_, Nat.le_refl _, Nat.le_refl _, ?_, ?_, fun a c9 h9 => ⟨c9, h9, rfl, rfl, fun _ _ => rfl⟩⟩
    · obtain ⟨t, ht, -⟩ := State.frames_cons hr
      show T.setVm s.vm = { ((T.setVm s.vm).setFrames (.invoking m args :: below)).setFrames (T.setVm s.vm).frames with heap := T.heap, slotsUsed := T.slotsUsed }
      rw [State.setFrames_setFrames, State.setFrames_self ht]
      rfl
    · show T.slotsUsed = T.slotsUsed + ((T.heap.toList.drop T.heap.size).map (·.slots.size)).sum
      rw [List.drop_eq_nil_of_le (Nat.le_of_eq Array.length_toList)]
      rfl
    · show ((T.heap.toList.drop T.heap.size).map (·.slots.size)).sum ≤ 0
      rw [List.drop_eq_nil_of_le (Nat.le_of_eq Array.length_toList)]
      exact Nat.le_refl _
/-- 'throw new E()': new; dup; invokespecial; athrow -/
theorem vx_throw0 {cc : ByteArray} {pc : Nat} (hexec : p.tables.exec = Jvm.exec) (hb : c.code = cc) (hl : l.stackTraces = false) {own cls : String} {names : List String} {ik ic mc ms : Nat} {A : Nat → Prop}
    (hown : s.vm.findClass own = some m.cls) (hcls : Bundle.fit cls = true) (hnames : ∀ n ∈ names, Bundle.fit n = true)
    (hk : (Cond.classLink own ik cls).before args s = true) (hini : (Cond.initialized cls).before args s = true) (hat : ∀ w ∈ vx_at0 own ic cls names, w.before args s = true)
    (hgood : ∀ w ∈ Cond.classLink own ik cls :: Cond.initialized cls :: vx_at0 own ic cls names, vx_ot w = true)
    (hU : vx_Zq Bundle.tN "UNASSIGNED_STACK" Bundle.steD A s s.heap) (hN : vx_Zq Bundle.tN "SUPPRESSED_SENTINEL" Bundle.listD A s s.heap) (hS : va_S A s.heap H locs) (hsize : ls.size = c.maxLocals)
    (d0 : decode cc pc = .ok (.new ik, 3)) (d3 : decode cc (pc + 3) = .ok (.dup, 1)) (d4 : decode cc (pc + 4) = .ok (.invokespecial ic, 3)) (d7 : decode cc (pc + 7) = .ok (.athrow, 1))
    (hout : ∀ x ∈ c.exceptionTable.toList, covers x (pc + 7) = false)
    (hRframes : names.length + 3 < R.frames) (hRlocals : (rest.map fun v => v.category).sum + (13 * (names.length + 1) + 42) ≤ R.locals) (hRcells : cells + 1 ≤ R.cells) (hRslots : slots + 6 ≤ R.slots) (hlocks : meth.locks = false)
    (hx : ∀ t : State, s.vm.Alike t.vm → H.size ≤ t.heap.size → (∀ q : Nat, q < H.size → t.heap[q]? = H[q]?) → XC cls s t)
    (hf : ∀ z ∈ locs, free z.base) (hc : cells + 1 ≤ mc) (hs : slots + 6 ≤ ms) :
    W p l e R s m args below meth c H locs cells slots (vx_MQ below Qc XC args s mc ms free) (F0 m pc ls rest) := by
  intro T hT X
  have htr : e.platform.stackTraces = false := (show e.platform.stackTraces = l.stackTraces by rw [X.admits.platform]).trans hl
  have Y := vx_rebase X (R' := { frames := R.frames, locals := R.locals, cells := 1, slots := 6 }) (Nat.le_refl _) (Nat.le_refl _) hRcells hRslots
  obtain ⟨s', hA⟩ : ∃ z, z = (T.setVm s.vm).setFrames (.invoking m args :: below) := ⟨_, rfl⟩
  rw [← hA] at Y
  have hvm : s'.vm = s.vm := by rw [hA]; rfl
  have hhp : s'.heap = H := by rw [hA]; exact hT
  have hW0 : s.WarmedH s'.vm := by rw [hvm]; exact State.WarmedH.refl s
  have hat' : ∀ w ∈ vx_at0 own ic cls names, w.before args s' = true := fun w hw => vx_ot_at hW0 hvm.symm (hgood w (List.mem_cons_of_mem _ (List.mem_cons_of_mem _ hw))) (hat w hw)
  have hk' : (Cond.classLink own ik cls).before args s' = true := vx_ot_at hW0 hvm.symm (hgood _ List.mem_cons_self) hk
  have hini' : (Cond.initialized cls).before args s' = true := vx_ot_at hW0 hvm.symm (hgood _ (List.mem_cons_of_mem _ List.mem_cons_self)) hini
  have hU' : vx_Zq Bundle.tN "UNASSIGNED_STACK" Bundle.steD A s' s'.heap := by rw [hhp]; exact vx_Zq.moved hW0.alike (hU.kept hS.2.1)
  have hN' : vx_Zq Bundle.tN "SUPPRESSED_SENTINEL" Bundle.listD A s' s'.heap := by rw [hhp]; exact vx_Zq.moved hW0.alike (hN.kept hS.2.1)
  have h : ∀ w ∈ Bundle.ownAtoms0 own ic cls names, w.before args s' = true := vx_own hat' (vx_isRefq hU'.1) (vx_isRefq hN'.1) hU'.2.word hN'.2.word
  have hown' : s'.vm.findClass own = some m.cls := by rw [hvm]; exact hown
  have hins : (Cond.instantiable cls 6).before args s' = true := h _ (by simp [Bundle.ownAtoms0])
  obtain ⟨vm₁, cX, kX, hfX, hkX, -, -, X₁, st1⟩ := Y.newCold hexec (own := own) (C := cls) (index := ik) (n := 6) hown' hk' hins hini'
    (g := F0 m pc ls rest) rfl (by rw [hb]; exact d0) (Nat.le_refl _) (Nat.le_refl _)
  generalize hT1 : (T.setVm vm₁).pushCell { cls := cX, slots := kX.instanceTypes.map defaultValue, vm := .none } = T1 at X₁ st1
  have hcat : (Value.ref T.heap.size).category = 1 := rfl
  have hcellA : T1.heap[T.heap.size]? = some (freshCell cX kX) := by rw [← hT1]; exact State.heap_pushCell_size _ _
  have d3' : decode c.code (pc + 3) = .ok (.dup, 1) := by rw [hb]; exact d3
  obtain ⟨U, hsteps, hrun, hend, hW, hsame, ce, hce, hO⟩ := X₁.ctorThrow0 hexec htr (own := own) (cls := cls) (names := names) (ic := ic) hown' hcls hnames h (fun x hx => nomatch hx) hfX hkX hcellA (by rw [hhp, hT]; exact Nat.le_refl _)
    (g := { method := m, pc := pc + 4, locals := ls, stack := .ref T.heap.size :: .ref T.heap.size :: rest, locked := none }) rfl hsize rfl rfl (rest := rest) rfl
    (by rw [hb]; exact d4) (by rw [hb]; exact d7) hout hRframes (by simp only [List.map_cons, List.sum_cons, hcat]; omega) hlocks
  obtain ⟨f1, f2⟩ := vx_frame hsame
  rw [hhp] at f1 f2
  have hWs : s.WarmedH U.vm := State.WarmedH.trans hW0 hW
  have hcl : s.vm.findClass cls = some ce.cls := by
    have h9 := hO.cls
    rw [hvm] at h9
    exact h9
  have hall : s.sameButNew ({ U with vm := s.vm } : State) locs mc ms := by
    subst hA
    obtain ⟨e1, e2⟩ := hsame
    rw [State.setFrames_setFrames] at e1
    have h2 : (T.setVm s.vm).sameButNew ({ U with vm := s.vm } : State) [] (0 + 1) (0 + 6) := ⟨e1, e2⟩
    have h3 := X.same.trans h2
    rw [List.append_nil] at h3
    exact h3.mono hc hs
  refine ⟨U, ?_, .threw T.heap.size, hrun, hend, Or.inr ⟨T.heap.size, rfl, cls, ce, locs, hx U hWs.alike f1 (fun q hq => f2 q hq (fun z hz => nomatch hz)), hce, hO.vm, hcl, hWs, hall, hf⟩⟩
  refine st1 _ ?_
  show Steps p.tables e below (T1.setTop { method := m, pc := pc + 3, locals := ls, stack := .ref T.heap.size :: rest, locked := none }) _
  jvm_step X₁.here [X₁.here.top, hexec, d3', Value.category]
  exact hsteps
/-- 'throw new E("text")': new; dup; ldc; invokespecial; athrow -/
theorem vx_throwS {cc : ByteArray} {pc : Nat} (hexec : p.tables.exec = Jvm.exec) (hb : c.code = cc) (hl : l.stackTraces = false) {own cls text : String} {names : List String} {ik is ic mc ms sa : Nat} {A : Nat → Prop}
    (hown : s.vm.findClass own = some m.cls) (hcls : Bundle.fit cls = true) (hnames : ∀ n ∈ names, Bundle.fit n = true)
    (hk : (Cond.classLink own ik cls).before args s = true) (hini : (Cond.initialized cls).before args s = true) (hstr : vk_R own is text sa s) (hat : ∀ w ∈ vx_atS own ic cls names, w.before args s = true)
    (hgood : ∀ w ∈ Cond.classLink own ik cls :: Cond.initialized cls :: vx_atS own ic cls names, vx_ot w = true)
    (hU : vx_Zq Bundle.tN "UNASSIGNED_STACK" Bundle.steD A s s.heap) (hN : vx_Zq Bundle.tN "SUPPRESSED_SENTINEL" Bundle.listD A s s.heap) (hS : va_S A s.heap H locs) (hsize : ls.size = c.maxLocals)
    (d0 : decode cc pc = .ok (.new ik, 3)) (d3 : decode cc (pc + 3) = .ok (.dup, 1)) (d4 : decode cc (pc + 4) = .ok (.ldc is, 2)) (d6 : decode cc (pc + 6) = .ok (.invokespecial ic, 3)) (d9 : decode cc (pc + 9) = .ok (.athrow, 1))
    (hout : ∀ x ∈ c.exceptionTable.toList, covers x (pc + 9) = false)
    (hRframes : names.length + 3 < R.frames) (hRlocals : (rest.map fun v => v.category).sum + (13 * (names.length + 1) + 43) ≤ R.locals) (hRcells : cells + 1 ≤ R.cells) (hRslots : slots + 6 ≤ R.slots) (hlocks : meth.locks = false)
    (hx : ∀ t : State, s.vm.Alike t.vm → H.size ≤ t.heap.size → (∀ q : Nat, q < H.size → t.heap[q]? = H[q]?) → XC cls s t)
    (hf : ∀ z ∈ locs, free z.base) (hc : cells + 1 ≤ mc) (hs : slots + 6 ≤ ms) :
    W p l e R s m args below meth c H locs cells slots (vx_MQ below Qc XC args s mc ms free) (F0 m pc ls rest) := by
  intro T hT X
  have htr : e.platform.stackTraces = false := (show e.platform.stackTraces = l.stackTraces by rw [X.admits.platform]).trans hl
  have Y := vx_rebase X (R' := { frames := R.frames, locals := R.locals, cells := 1, slots := 6 }) (Nat.le_refl _) (Nat.le_refl _) hRcells hRslots
  obtain ⟨s', hA⟩ : ∃ z, z = (T.setVm s.vm).setFrames (.invoking m args :: below) := ⟨_, rfl⟩
  rw [← hA] at Y
  have hvm : s'.vm = s.vm := by rw [hA]; rfl
  have hhp : s'.heap = H := by rw [hA]; exact hT
  have hW0 : s.WarmedH s'.vm := by rw [hvm]; exact State.WarmedH.refl s
  have hat' : ∀ w ∈ vx_atS own ic cls names, w.before args s' = true := fun w hw => vx_ot_at hW0 hvm.symm (hgood w (List.mem_cons_of_mem _ (List.mem_cons_of_mem _ hw))) (hat w hw)
  have hk' : (Cond.classLink own ik cls).before args s' = true := vx_ot_at hW0 hvm.symm (hgood _ List.mem_cons_self) hk
  have hini' : (Cond.initialized cls).before args s' = true := vx_ot_at hW0 hvm.symm (hgood _ (List.mem_cons_of_mem _ List.mem_cons_self)) hini
  have hU' : vx_Zq Bundle.tN "UNASSIGNED_STACK" Bundle.steD A s' s'.heap := by rw [hhp]; exact vx_Zq.moved hW0.alike (hU.kept hS.2.1)
  have hN' : vx_Zq Bundle.tN "SUPPRESSED_SENTINEL" Bundle.listD A s' s'.heap := by rw [hhp]; exact vx_Zq.moved hW0.alike (hN.kept hS.2.1)
  have h : ∀ w ∈ Bundle.ownAtoms own ic cls names, w.before args s' = true := vx_own hat' (vx_isRefq hU'.1) (vx_isRefq hN'.1) hU'.2.word hN'.2.word
  have hown' : s'.vm.findClass own = some m.cls := by rw [hvm]; exact hown
  have hins : (Cond.instantiable cls 6).before args s' = true := h _ (by simp [Bundle.ownAtoms])
  obtain ⟨vm₁, cX, kX, hfX, hkX, -, -, X₁, st1⟩ := Y.newCold hexec (own := own) (C := cls) (index := ik) (n := 6) hown' hk' hins hini'
    (g := F0 m pc ls rest) rfl (by rw [hb]; exact d0) (Nat.le_refl _) (Nat.le_refl _)
  generalize hT1 : (T.setVm vm₁).pushCell { cls := cX, slots := kX.instanceTypes.map defaultValue, vm := .none } = T1 at X₁ st1
  have hcat : (Value.ref T.heap.size).category = 1 := rfl
  have hcellA : T1.heap[T.heap.size]? = some (freshCell cX kX) := by rw [← hT1]; exact State.heap_pushCell_size _ _
  have d3' : decode c.code (pc + 3) = .ok (.dup, 1) := by rw [hb]; exact d3
  have d4' : decode c.code (pc + 4) = .ok (.ldc is, 2) := by rw [hb]; exact d4
  have hstr' : vk_R own is text sa s' := vk_R.warm hW0 hstr
  obtain ⟨U, hsteps, hrun, hend, hW, hsame, ce, hce, hO⟩ := X₁.ctorThrowS hexec htr (own := own) (cls := cls) (names := names) (ic := ic) hown' hcls hnames h (fun x hx => nomatch hx) hfX hkX hcellA (by rw [hhp, hT]; exact Nat.le_refl _) (msg := .ref sa) rfl
    (g := { method := m, pc := pc + 6, locals := ls, stack := .ref sa :: .ref T.heap.size :: .ref T.heap.size :: rest, locked := none }) rfl hsize rfl rfl (rest := rest) rfl
    (by rw [hb]; exact d6) (by rw [hb]; exact d9) hout hRframes (by simp only [List.map_cons, List.sum_cons, hcat]; omega) hlocks
  obtain ⟨f1, f2⟩ := vx_frame hsame
  rw [hhp] at f1 f2
  have hWs : s.WarmedH U.vm := State.WarmedH.trans hW0 hW
  have hcl : s.vm.findClass cls = some ce.cls := by
    have h9 := hO.cls
    rw [hvm] at h9
    exact h9
  have hall : s.sameButNew ({ U with vm := s.vm } : State) locs mc ms := by
    subst hA
    obtain ⟨e1, e2⟩ := hsame
    rw [State.setFrames_setFrames] at e1
    have h2 : (T.setVm s.vm).sameButNew ({ U with vm := s.vm } : State) [] (0 + 1) (0 + 6) := ⟨e1, e2⟩
    have h3 := X.same.trans h2
    rw [List.append_nil] at h3
    exact h3.mono hc hs
  refine ⟨U, ?_, .threw T.heap.size, hrun, hend, Or.inr ⟨T.heap.size, rfl, cls, ce, locs, hx U hWs.alike f1 (fun q hq => f2 q hq (fun z hz => nomatch hz)), hce, hO.vm, hcl, hWs, hall, hf⟩⟩
  refine st1 _ ?_
  show Steps p.tables e below (T1.setTop { method := m, pc := pc + 3, locals := ls, stack := .ref T.heap.size :: rest, locked := none }) _
  jvm_step X₁.here [X₁.here.top, hexec, d3', Value.category]
  exact X₁.ldcString hexec (own := own) (text := text) (index := is) (a := sa) hown' hstr'.1 hstr'.2
    (g := { method := m, pc := pc + 4, locals := ls, stack := .ref T.heap.size :: .ref T.heap.size :: rest, locked := none }) rfl d4' _ hsteps
/-- 'throw new E("text")', the text by a wide index -/
theorem vx_throwSW {cc : ByteArray} {pc : Nat} (hexec : p.tables.exec = Jvm.exec) (hb : c.code = cc) (hl : l.stackTraces = false) {own cls text : String} {names : List String} {ik is ic mc ms sa : Nat} {A : Nat → Prop}
    (hown : s.vm.findClass own = some m.cls) (hcls : Bundle.fit cls = true) (hnames : ∀ n ∈ names, Bundle.fit n = true)
    (hk : (Cond.classLink own ik cls).before args s = true) (hini : (Cond.initialized cls).before args s = true) (hstr : vk_R own is text sa s) (hat : ∀ w ∈ vx_atS own ic cls names, w.before args s = true)
    (hgood : ∀ w ∈ Cond.classLink own ik cls :: Cond.initialized cls :: vx_atS own ic cls names, vx_ot w = true)
    (hU : vx_Zq Bundle.tN "UNASSIGNED_STACK" Bundle.steD A s s.heap) (hN : vx_Zq Bundle.tN "SUPPRESSED_SENTINEL" Bundle.listD A s s.heap) (hS : va_S A s.heap H locs) (hsize : ls.size = c.maxLocals)
    (d0 : decode cc pc = .ok (.new ik, 3)) (d3 : decode cc (pc + 3) = .ok (.dup, 1)) (d4 : decode cc (pc + 4) = .ok (.ldc_w is, 3)) (d7 : decode cc (pc + 7) = .ok (.invokespecial ic, 3)) (d10 : decode cc (pc + 10) = .ok (.athrow, 1))
    (hout : ∀ x ∈ c.exceptionTable.toList, covers x (pc + 10) = false)
    (hRframes : names.length + 3 < R.frames) (hRlocals : (rest.map fun v => v.category).sum + (13 * (names.length + 1) + 43) ≤ R.locals) (hRcells : cells + 1 ≤ R.cells) (hRslots : slots + 6 ≤ R.slots) (hlocks : meth.locks = false)
    (hx : ∀ t : State, s.vm.Alike t.vm → H.size ≤ t.heap.size → (∀ q : Nat, q < H.size → t.heap[q]? = H[q]?) → XC cls s t)
    (hf : ∀ z ∈ locs, free z.base) (hc : cells + 1 ≤ mc) (hs : slots + 6 ≤ ms) :
    W p l e R s m args below meth c H locs cells slots (vx_MQ below Qc XC args s mc ms free) (F0 m pc ls rest) := by
  intro T hT X
  have htr : e.platform.stackTraces = false := (show e.platform.stackTraces = l.stackTraces by rw [X.admits.platform]).trans hl
  have Y := vx_rebase X (R' := { frames := R.frames, locals := R.locals, cells := 1, slots := 6 }) (Nat.le_refl _) (Nat.le_refl _) hRcells hRslots
  obtain ⟨s', hA⟩ : ∃ z, z = (T.setVm s.vm).setFrames (.invoking m args :: below) := ⟨_, rfl⟩
  rw [← hA] at Y
  have hvm : s'.vm = s.vm := by rw [hA]; rfl
  have hhp : s'.heap = H := by rw [hA]; exact hT
  have hW0 : s.WarmedH s'.vm := by rw [hvm]; exact State.WarmedH.refl s
  have hat' : ∀ w ∈ vx_atS own ic cls names, w.before args s' = true := fun w hw => vx_ot_at hW0 hvm.symm (hgood w (List.mem_cons_of_mem _ (List.mem_cons_of_mem _ hw))) (hat w hw)
  have hk' : (Cond.classLink own ik cls).before args s' = true := vx_ot_at hW0 hvm.symm (hgood _ List.mem_cons_self) hk
  have hini' : (Cond.initialized cls).before args s' = true := vx_ot_at hW0 hvm.symm (hgood _ (List.mem_cons_of_mem _ List.mem_cons_self)) hini
  have hU' : vx_Zq Bundle.tN "UNASSIGNED_STACK" Bundle.steD A s' s'.heap := by rw [hhp]; exact vx_Zq.moved hW0.alike (hU.kept hS.2.1)
  have hN' : vx_Zq Bundle.tN "SUPPRESSED_SENTINEL" Bundle.listD A s' s'.heap := by rw [hhp]; exact vx_Zq.moved hW0.alike (hN.kept hS.2.1)
  have h : ∀ w ∈ Bundle.ownAtoms own ic cls names, w.before args s' = true := vx_own hat' (vx_isRefq hU'.1) (vx_isRefq hN'.1) hU'.2.word hN'.2.word
  have hown' : s'.vm.findClass own = some m.cls := by rw [hvm]; exact hown
  have hins : (Cond.instantiable cls 6).before args s' = true := h _ (by simp [Bundle.ownAtoms])
  obtain ⟨vm₁, cX, kX, hfX, hkX, -, -, X₁, st1⟩ := Y.newCold hexec (own := own) (C := cls) (index := ik) (n := 6) hown' hk' hins hini'
    (g := F0 m pc ls rest) rfl (by rw [hb]; exact d0) (Nat.le_refl _) (Nat.le_refl _)
  generalize hT1 : (T.setVm vm₁).pushCell { cls := cX, slots := kX.instanceTypes.map defaultValue, vm := .none } = T1 at X₁ st1
  have hcat : (Value.ref T.heap.size).category = 1 := rfl
  have hcellA : T1.heap[T.heap.size]? = some (freshCell cX kX) := by rw [← hT1]; exact State.heap_pushCell_size _ _
  have d3' : decode c.code (pc + 3) = .ok (.dup, 1) := by rw [hb]; exact d3
  have d4' : decode c.code (pc + 4) = .ok (.ldc_w is, 3) := by rw [hb]; exact d4
  have hstr' : vk_R own is text sa s' := vk_R.warm hW0 hstr
  obtain ⟨U, hsteps, hrun, hend, hW, hsame, ce, hce, hO⟩ := X₁.ctorThrowS hexec htr (own := own) (cls := cls) (names := names) (ic := ic) hown' hcls hnames h (fun x hx => nomatch hx) hfX hkX hcellA (by rw [hhp, hT]; exact Nat.le_refl _) (msg := .ref sa) rfl
    (g := { method := m, pc := pc + 7, locals := ls, stack := .ref sa :: .ref T.heap.size :: .ref T.heap.size :: rest, locked := none }) rfl hsize rfl rfl (rest := rest) rfl
    (by rw [hb]; exact d7) (by rw [hb]; exact d10) hout hRframes (by simp only [List.map_cons, List.sum_cons, hcat]; omega) hlocks
  obtain ⟨f1, f2⟩ := vx_frame hsame
  rw [hhp] at f1 f2
  have hWs : s.WarmedH U.vm := State.WarmedH.trans hW0 hW
  have hcl : s.vm.findClass cls = some ce.cls := by
    have h9 := hO.cls
    rw [hvm] at h9
    exact h9
  have hall : s.sameButNew ({ U with vm := s.vm } : State) locs mc ms := by
    subst hA
    obtain ⟨e1, e2⟩ := hsame
    rw [State.setFrames_setFrames] at e1
    have h2 : (T.setVm s.vm).sameButNew ({ U with vm := s.vm } : State) [] (0 + 1) (0 + 6) := ⟨e1, e2⟩
    have h3 := X.same.trans h2
    rw [List.append_nil] at h3
    exact h3.mono hc hs
  refine ⟨U, ?_, .threw T.heap.size, hrun, hend, Or.inr ⟨T.heap.size, rfl, cls, ce, locs, hx U hWs.alike f1 (fun q hq => f2 q hq (fun z hz => nomatch hz)), hce, hO.vm, hcl, hWs, hall, hf⟩⟩
  refine st1 _ ?_
  show Steps p.tables e below (T1.setTop { method := m, pc := pc + 3, locals := ls, stack := .ref T.heap.size :: rest, locked := none }) _
  jvm_step X₁.here [X₁.here.top, hexec, d3', Value.category]
  exact X₁.ldcStringW hexec (own := own) (text := text) (index := is) (a := sa) hown' hstr'.1 hstr'.2
    (g := { method := m, pc := pc + 4, locals := ls, stack := .ref T.heap.size :: .ref T.heap.size :: rest, locked := none }) rfl d4' _ hsteps
end Ends
section Bodies
variable {l : Launch}
theorem vx_ofW {y : MethodName} {ws ws' : List Cond} {rm : Room} {Pc : Array Value → State → Prop} {Qc : Array Value → State → Outcome → State → Prop} {XC : String → State → State → Prop} {mc ms : Nat} {free : Addr → Prop} {cc : ByteArray} {maxL : Nat} {ret : Option FieldType}
    (hy : plainName y.cls = true) (hw : ws = Cond.code y cc maxL ret :: ws')
    (body : ∀ p e s m args below meth c s₁, BodyLoose p l y (headSpec ws rm) cc maxL ret e s m args below meth c s₁ → c.maxLocals = maxL → (∀ x ∈ c.exceptionTable.toList, False) → Pc args s →
      W p l e (headSpec ws rm).room s m args below meth c s.heap [] 0 0 (vx_MQ below Qc XC args s mc ms free) (entryFrame m args maxL)) : vx_Met l y ws rm Pc Qc XC mc ms free := by
  refine MetFree.of_bodyS (code := cc) (maxLocals := maxL) (ret := ret) hy ?_ ?_
  · intro args s m h hn
    obtain ⟨meth, c, h1, h2, h3, h4, h5, h6, -, -⟩ := Cond.code_spec hn (atoms_spec (ws := ws) h _ (by rw [hw]; exact List.mem_cons_self))
    exact ⟨meth, c, h1, h2, h3, h4, h5, h6⟩
  · intro p e s m args below meth c s₁ B hml hP _
    have hh0 : s₁.heap = s.heap := by rw [B.state]; rfl
    have ht : ∀ x ∈ c.exceptionTable.toList, False := by
      obtain ⟨meth9, c9, h1, h2, -, -, -, -, h7, -⟩ := Cond.code_spec B.named (atoms_spec (ws := ws) B.pre _ (by rw [hw]; exact List.mem_cons_self))
      cases Option.some.inj (h1.symm.trans B.method)
      cases Option.some.inj (h2.symm.trans (Stand.of_body B).code)
      intro x hx
      rw [Array.isEmpty_iff.mp h7] at hx
      cases hx
    obtain ⟨t, a1, o, b1, b2, b3⟩ := body p e s m args below meth c s₁ B hml ht hP s₁ hh0 (Stand.of_body B)
    exact ⟨t, o, a1, b1, b2, b3⟩
/-- the table of a body with handlers -/
theorem vx_table {p : Program} {x y : MethodName} {S : Spec} {cc bytes : ByteArray} {maxL maxL' : Nat} {ret ret' : Option FieldType} {e : Env} {s s₁ : State} {m : MethodId} {args : Array Value} {below : List Frame} {meth : Method} {c : Code} {hh : List (Nat × Nat × Nat × Nat)}
    (B : BodyLoose p l y S cc maxL ret e s m args below meth c s₁) (h : (Cond.codeWith y bytes maxL' ret' hh).before args s = true) : c.exceptionTable.toList = tableOf hh := by
  obtain ⟨m9, meth9, c9, hn9, h1, h2, -, -, h6, -⟩ := Cond.codeWith_spec h
  cases Option.some.inj (hn9.symm.trans B.named)
  cases Option.some.inj (h1.symm.trans B.method)
  cases Option.some.inj (h2.symm.trans (Stand.of_body B).code)
  rw [← h6, table_eq]
end Bodies
end VXA
/-! ===== END ===== -/
/-! ===== BEGIN a static call of a method with an exception table ===== -/
section VXS
variable {p : Program} {l : Launch} {e : Env} {R : Room} {s : State} {m : MethodId} {args : Array Value} {below : List Frame} {meth : Method} {c : Code} {T : State} {H : Heap} {locs : List Loc} {cells slots : Nat}
abbrev vx_CSW (R : Room) (s : State) (args : Array Value) (own : String) (index : Nat) (y : MethodName) (bytes : ByteArray) (maxL : Nat) (ret : Option FieldType) (hh : List (Nat × Nat × Nat × Nat)) (ws : List Cond) (rm : Room) (mc ms n : Nat) : Prop :=
  (rm.cells = mc ∧ rm.slots = ms ∧ rm.frames + 1 ≤ R.frames ∧ 8 + (maxL + 11) + rm.locals ≤ R.locals ∧ (∀ w ∈ ws, ∀ (a' : Array Value) (U : State), s.WarmedH U.vm → w.before a' U = true) ∧ Cond.codeWith y bytes maxL ret hh ∈ ws) ∧
  (Cond.codeWith y bytes maxL ret hh).before args s = true ∧ (Cond.initialized y.cls).before args s = true ∧ (y.cls ≠ "java/lang/invoke/MethodHandle" ∧ y.cls ≠ "java/lang/invoke/VarHandle") ∧
  (∀ sig, parseMethodDescriptor y.desc = some sig → n = sig.parameters.length) ∧ (Cond.methodLink own index y).before args s = true ∧ (Cond.static y).before args s = true
theorem vx_cwSW {own : String} {index maxL mc ms : Nat} {y : MethodName} {bytes : ByteArray} {ret : Option FieldType} {hh : List (Nat × Nat × Nat × Nat)} {Ts ws ws' : List Cond} {rm : Room} (n : Nat) (ht : ∀ w ∈ Ts, w.before args s = true) (hT : GoodIn Ts (va_wsS own index y ws)) (hw : ws = Cond.codeWith y bytes maxL ret hh :: ws') (hrc : rm.cells = mc) (hrs : rm.slots = ms)
    (hd : y.cls ≠ "java/lang/invoke/MethodHandle" ∧ y.cls ≠ "java/lang/invoke/VarHandle" ∧ (parseMethodDescriptor y.desc).map (fun d => d.parameters.length) = some n) (hR : rm.frames + 1 ≤ R.frames ∧ 8 + (maxL + 11) + rm.locals ≤ R.locals) :
    vx_CSW R s args own index y bytes maxL ret hh ws rm mc ms n := by
  have ok : ∀ w ∈ va_wsS own index y ws, w.before args s = true := fun w h => ht w (hT w h).1
  have hG : GoodIn Ts ws := fun w h => hT w (by unfold va_wsS; exact List.mem_append_right _ h)
  have hc : Cond.codeWith y bytes maxL ret hh ∈ ws := by rw [hw]; exact List.mem_cons_self
  refine ⟨⟨hrc, hrs, hR.1, hR.2, pay_in ht hG, hc⟩, ht _ (hG _ hc).1, ok _ (by simp [va_wsS]), ⟨hd.1, hd.2.1⟩, fun sig h => ?_, ok _ (by simp [va_wsS]), ok _ (by simp [va_wsS])⟩
  have h2 := hd.2.2
  rw [h] at h2
  exact (Option.some.inj h2).symm
theorem vx_callSW (X : Stand p l e R s m args below meth c T locs cells slots) (hexec : p.tables.exec = Jvm.exec) {own : String} {index : Nat} {y : MethodName} {bytes : ByteArray} {maxL : Nat} {ret : Option FieldType} {hh : List (Nat × Nat × Nat × Nat)}
    (hown : s.vm.findClass own = some m.cls) (hlink : (Cond.methodLink own index y).before args s = true) (hstat : (Cond.static y).before args s = true) (hinit : (Cond.initialized y.cls).before args s = true)
    (hcode : (Cond.codeWith y bytes maxL ret hh).before args s = true) (hy : y.cls ≠ "java/lang/invoke/MethodHandle" ∧ y.cls ≠ "java/lang/invoke/VarHandle")
    {W9 : Nat} {Pre : Pt → Array Value → Prop} {Post : Pt → Array Value → Option Value → Pt → Prop} (hK : Back l R p e below s args y 3 W9 Pre Post)
    {g : JFrame} (hg : g.method = m) (hsize : g.locals.size = c.maxLocals) {argsL rest : List Value} (hlen : ∀ sig, parseMethodDescriptor y.desc = some sig → argsL.length = sig.parameters.length)
    (hstack : g.stack = argsL.reverse ++ rest) (hW : 2 * g.monitorRoom + (rest.map fun v => v.category).sum ≤ W9) (hdg : decode c.code g.pc = .ok (.invokestatic index, 3))
    (hpre : ∀ vm₁, s.WarmedH vm₁ → Pre ⟨T.setVm vm₁, locs, cells, slots⟩ argsL.toArray) :
    ∃ (v : Option Value) (vm₁ : Vm) (B : Pt), s.WarmedH vm₁ ∧ Stand p l e R s m args below meth c B.U B.locs B.cells B.slots ∧ Post ⟨T.setVm vm₁, locs, cells, slots⟩ argsL.toArray v B ∧
      ∀ target, Steps p.tables e below (B.U.setTop { g with pc := g.pc + 3, stack := v.toList ++ rest }) target → Steps p.tables e below (T.setTop g) target := by
  obtain ⟨mk, methM, cM, hnamed, hmethM, -, -, -, -, -, -, hsigM⟩ := Cond.codeWith_spec hcode
  have hstatic : methM.isStatic = true := Cond.static_spec hnamed hmethM hstat
  obtain ⟨kP, hkP, -⟩ := className_of_methodNamed hnamed
  have hinitP : kP.init = .initialized := Cond.initialized_spec (findClass_of_methodNamed hnamed) hkP hinit
  obtain ⟨vm₁, X₁, hstep₁⟩ := X.invokestatic hexec hown hlink hnamed hmethM hstatic hkP hinitP hy (g := g) hg (argsL := argsL) (rest := rest) (hlen _ hsigM) hstack hdg
  obtain ⟨v, B, X', hpost, hsteps⟩ := hK m meth c ⟨T.setVm vm₁, locs, cells, slots⟩ { g with stack := rest } (.invokestatic index) mk argsL.toArray X₁ hg hsize hdg hW (X₁.named hnamed) (hpre vm₁ X₁.warmed)
  exact ⟨v, vm₁, B, X₁.warmed, X', hpost, fun target h => hstep₁ _ fun acts => by rw [doInvoke_state]; exact hsteps.trans h⟩
theorem vx_runSW {y : MethodName} {bytes cc : ByteArray} {maxL nL mc ms n index : Nat} {ret : Option FieldType} {hh : List (Nat × Nat × Nat × Nat)} {ws : List Cond} {rm : Room} {Pc : Array Value → State → Prop} {Qc : Array Value → State → Outcome → State → Prop} {free : Addr → Prop} {Ts : List Cond} {own : String} {As rest : List Value} {g : JFrame}
    (S : CallFix p m c cc nL s args Ts own) (hM : Met l y ws rm Pc Qc mc ms free) (cw : vx_CSW R s args own index y bytes maxL ret hh ws rm mc ms n) (hp : PreS s H Pc As)
    (hg : g.method = m) (hn : As.length = n) (hsize : g.locals.size = nL) (hstack : g.stack = As.reverse ++ rest) (hW : 2 * g.monitorRoom + (rest.map fun v => v.category).sum ≤ 8) (hdg : decode cc g.pc = .ok (.invokestatic index, 3)) (hf : cells + mc ≤ R.cells ∧ slots + ms ≤ R.slots) :
    va_Run p l e R s m args below meth c H locs cells slots mc ms g rest (Qc As.toArray) (free) := by
  obtain ⟨⟨hrc, hrs, hfr, hlo, hws, hcw⟩, hcode, hini, hy, hlen, hl, hstt⟩ := cw
  have hK : Back l R p e below s args y 3 8 (PreOf R mc ms Pc) (PostOf Qc mc ms free) := va_backW (hh := hh) (bytes := bytes) (maxL := maxL) (ret := ret) hM hp.1 hrc hrs hfr hlo hws hcw (fun a' U hW => word_at hW (Or.inl (by first | rfl | simp [Cond.onTables, Cond.keeps, Cond.steady])) hini)
  obtain ⟨hx, hb, hml, ho, -⟩ := S
  intro T hT X
  obtain ⟨v, vm₁, ⟨U', l2, c2, s2⟩, hW₁, X', ⟨g', mk, t, L, e1, e2, hq, h1, hL, h2, h3⟩, st⟩ := vx_callSW X hx (hh := hh) (bytes := bytes) (maxL := maxL) (ret := ret) ho hl hstt hini hcode hy hK hg (hsize.trans hml.symm) (argsL := As) (rest := rest) (fun sig h => hn.trans (hlen sig h)) hstack hW (by rw [hb]; exact hdg)
    (fun vm₁ hW₁ => ⟨hf.1, hf.2, hp.2 (T.setVm vm₁) hT hW₁⟩)
  dsimp only [Pt.U, Pt.locs, Pt.cells, Pt.slots] at X' e1 e2 h1 h2 h3 st
  subst h1; subst h2; subst h3
  exact ⟨v, (T.setVm vm₁).calling g' mk As.toArray, t, U', L, hT, X', hL, e1, e2, hq, st⟩
/-- not caught here, past rows that name other classes: it goes on to the caller -/
theorem vx_outP {p : Program} {l : Launch} {e : Env} {R : Room} {s : State} {m : MethodId} {args : Array Value} {below : List Frame} {meth : Method} {c : Code} {H : Heap} {locs : List Loc} {cells slots : Nat} {free : Addr → Prop} {ls : Array Slot} {rest : List Value} {Qc : Array Value → State → Outcome → State → Prop} {XC : String → State → State → Prop}
    {pc : Nat} {own E : String} {ce : Cell} {q : Addr} {mc ms : Nat} (hown : s.vm.findClass own = some m.cls) (hlocks : meth.locks = false)
    (hpass : ∀ z ∈ c.exceptionTable.toList, covers z pc = false ∨ (z.catchType ≠ 0 ∧ ∃ nm : String, (Cond.classLink own z.catchType nm).before args s = true ∧ va_Nc E nm s)) (hcell : H[q]? = some ce) (hv : ce.vm = .none) (hcl : s.vm.findClass E = some ce.cls)
    (hx : ∀ t : State, t.heap = H → s.vm.Alike t.vm → XC E s t) (hf : ∀ z ∈ locs, free z.base) (hc : cells ≤ mc) (hs : slots ≤ ms) :
    vx_W p l e R s m args below meth c H locs cells slots (vx_MQ below Qc XC args s mc ms free) (F0 m pc ls rest) q := by
  intro T hT X
  have hpl : e.platform.magicAccessors = ({} : Platform).magicAccessors := by rw [X.admits.platform]
  obtain ⟨vm', hW', X', st⟩ := X.outThrough hlocks q (g := F0 m pc ls rest) rfl rfl rfl (cell := ce) (by rw [hT]; exact hcell) (by rw [hv]; rfl)
    (by obtain ⟨k9, h9, -⟩ := Vm.findClass_spec hcl; exact ⟨k9, h9⟩) (fun z hz => by
      rcases hpass z hz with h | ⟨hz0, nm, hl1, hn1⟩
      · exact Or.inl h
      · obtain ⟨c6, hc6, hcl6⟩ := Cond.classLink_spec hown hl1 e.platform hpl
        obtain ⟨a8, b8, h1, h2, h3⟩ := hn1
        cases Option.some.inj (h1.symm.trans hcl)
        cases Option.some.inj (h2.symm.trans hc6)
        exact Or.inr ⟨hz0, _, hcl6, h3⟩)
  obtain ⟨g₀, hfr⟩ := X'.frames_eq
  have hcell9 : ((T.setVm vm').setFrames (.throwing q :: below)).heap[q]? = some ce := by
    show T.heap[q]? = some ce
    rw [hT]; exact hcell
  have hend : Ended ((T.setVm vm').setFrames (.throwing q :: below)) below (.threw q) := State.frames_setFrames _ (State.cur_lt_of_frames hfr)
  refine ⟨(T.setVm vm').setFrames (.throwing q :: below), ?_, .threw q, X'.here.running, hend, Or.inr ⟨q, rfl, E, ce, locs, hx _ hT (X'.ends _).1.alike, hcell9, hv, hcl, (X'.ends _).1, (X'.ends _).2.mono hc hs, hf⟩⟩
  rw [X.pushThrowing_eq]
  exact st
/-- a thing of a world lies in the heap -/
theorem vx_lt {D : va_G} {cl : List vw_C} {ws : va_W} {H1 : Heap} (h : va_P D cl ws H1) {k : Nat} {q : Nat × va_E} (hk : ws[k]? = some q) : q.1 < H1.size := (h k q hk).lt
end VXS
/-! ===== END ===== -/
/-! ===== BEGIN methods with a table of their own: called by a name, returning or throwing ===== -/
section VXH
/-! vx_backW, vx_callVX, vx_callSX, vx_callVW, vx_runVW, vx_runVX, vx_runSX, vx_ofWH follow the same proofs as their sisters above (Free/Laws.lean, Shelf42/LK1.lean); vx_outP calls Shelf42/NT130.lean (outThrough). -/
section
variable {l : Launch} {R : Room} {p : Program} {e : Env} {below : List Frame} {s : State} {sargs : Array Value} {y : MethodName} {len W9 : Nat}
theorem vx_backW {ws : List Cond} {rm : Room} {Pc : Array Value → State → Prop} {Qc : Array Value → State → Outcome → State → Prop} {XC : String → State → State → Prop} {mc ms : Nat} {free : Addr → Prop} {bytes : ByteArray} {maxL : Nat} {ret : Option FieldType} {hh : List (Nat × Nat × Nat × Nat)}
    (hM : vx_Met l y ws rm Pc Qc XC mc ms free) (hblind : FrameBlind Pc) (hrc : rm.cells = mc) (hrs : rm.slots = ms)
    (hframes : rm.frames + 1 ≤ R.frames) (hlocals : W9 + (maxL + 11) + rm.locals ≤ R.locals)
    (hws : ∀ w ∈ ws, ∀ a' U, s.WarmedH U.vm → w.before a' U = true) (hcode : Cond.codeWith y bytes maxL ret hh ∈ ws) (hinit : ∀ a' U, s.WarmedH U.vm → (Cond.initialized y.cls).before a' U = true) :
    vx_Back l R p e below s sargs y len W9 (PreOf R mc ms Pc) (PostOf Qc mc ms free) (vx_Post XC mc ms free) := by
  intro m meth c A g ig mk a X hg hsize hdg hW hn hp
  have h1 : (headSpec ws rm).pre.before a A.U = true := atoms_intro fun w hw => hws w hw _ _ X.warmed
  have h2 : (Cond.codeWith y bytes maxL ret hh).before a A.U = true := hws _ hcode _ _ X.warmed
  have h3 : (Cond.initialized y.cls).before a A.U = true := hinit _ _ X.warmed
  have h4 : A.cells + (headSpec ws rm).room.cells ≤ R.cells := by rw [show (headSpec ws rm).room.cells = mc from hrc]; exact hp.1
  have h5 : A.slots + (headSpec ws rm).room.slots ≤ R.slots := by rw [show (headSpec ws rm).room.slots = ms from hrs]; exact hp.2.1
  have hPc : Pc a (A.U.calling g mk a) := hblind _ _ _ _ hp.2.2
  obtain ⟨U, Ls, c0, s0⟩ := A
  dsimp only [Pt.U, Pt.locs, Pt.cells, Pt.slots] at h1 h2 h3 h4 h5 X hn hPc ⊢
  obtain ⟨m9, methY, cY, hn9, hmY, hcY, -, hlY, -⟩ := Cond.codeWith_spec h2
  cases Option.some.inj (hn9.symm.trans hn)
  obtain ⟨kY, hkY, -⟩ := className_of_methodNamed hn
  have hinitY : kY.init = .initialized := Cond.initialized_spec (findClass_of_methodNamed hn) hkY h3
  have h : At U g.method c below := by rw [hg]; exact X.here
  have hlocals9 : W9 + (maxL + 11) + (headSpec ws rm).room.locals ≤ R.locals := hlocals
  have happ : (headSpec ws rm).appliesLoose y e.platform (U.calling g mk a) = true :=
    Spec.appliesLoose_calling (g := g) h hdg hn hkY hinitY
      (X.room_calling (g := g) (R' := (headSpec ws rm).room) hsize hmY hcY hframes (by rw [hlY]; omega) h4 h5) h1
  obtain ⟨mid, hmid⟩ := h.above
  have hfr : (U.setTop g).frames = (.java g :: mid) ++ below := by rw [State.frames_setTop' g h.top, hmid]; rfl
  obtain ⟨o, s₂, hsteps, -, hend, hq⟩ := Steps.callFree hM p X.admits X.cas X.clock (acts := []) hfr happ hPc trivial
  have hq' : vx_Q Qc XC mc ms free a (U.calling g mk a) o s₂ := hq
  rw [State.frames_setTop' g h.top] at hend
  obtain ⟨g₀, hg0⟩ := Option.isSome_iff_exists.mp h.top
  obtain ⟨r, hr⟩ := State.topJava?_eq_some.mp hg0
  have hr' : (({ U with heap := s₂.heap, slotsUsed := s₂.slotsUsed } : State).setVm s₂.vm).frames = .java g₀ :: r := hr
  rcases hq' with ⟨hqc, L, hfe, hL⟩ | ⟨q, rfl, E, ce, L, hx, hce, hcv, hcl, hW₂, hsm, hL⟩
  · obtain ⟨⟨v, rfl⟩, hW₂, e2, q2, q3, q4, q5, q6⟩ := id hfe
    have e3 : s₂ = ({ (U.calling g mk a).setFrames s₂.frames with heap := s₂.heap, slotsUsed := s₂.slotsUsed } : State).setVm s₂.vm := by
      have : s₂ = ({ s₂ with vm := (U.calling g mk a).vm } : State).setVm s₂.vm := rfl
      rw [e2] at this
      exact this
    obtain ⟨c₂, i₂, len₂, hc₂, hd₂, hf₂⟩ := hend
    have hW' : U.WarmedH s₂.vm := hW₂
    have hcc : c₂ = c := by
      have h1 : s₂.code? g.method = U.code? g.method := by
        rw [State.code?_eq, State.code?_eq, hW'.alike.method?]
      exact Option.some.inj (hc₂.symm.trans (h1.trans h.code))
    subst hcc
    have hlen : len₂ = len := by rw [hdg] at hd₂; cases hd₂; rfl
    subst hlen
    have hs₂ : s₂ = (({ U with heap := s₂.heap, slotsUsed := s₂.slotsUsed } : State).setVm s₂.vm).setTop { g with pc := g.pc + len₂, stack := v.toList ++ g.stack } := by
      refine e3.trans ?_
      rw [hf₂, State.calling_eq h.top, State.setFrames_setFrames, State.setTop_of_frames _ hr', hr]
      rfl
    have hsame : U.sameButNew ({ U with heap := s₂.heap, slotsUsed := s₂.slotsUsed } : State) L mc ms := by
      refine ⟨?_, q2, q3, q4, q5, q6⟩
      obtain ⟨t, ht, -⟩ := State.frames_cons hr
      show ({ U with heap := s₂.heap, slotsUsed := s₂.slotsUsed } : State) = { U.setFrames U.frames with heap := s₂.heap, slotsUsed := s₂.slotsUsed }
      rw [State.setFrames_self ht]
    subst hg
    refine Or.inl ⟨v, ⟨(({ U with heap := s₂.heap, slotsUsed := s₂.slotsUsed } : State).setVm s₂.vm), Ls ++ L, c0 + mc, s0 + ms⟩,
      ⟨X.admits, X.cas, X.clock, X.frames, X.room, X.hears, X.method, X.code, (X.here.setHeapUsed s₂.heap s₂.slotsUsed).setVm hW'.alike, X.tail, State.WarmedH.trans X.warmed hW', X.limits, X.bytes, X.same.trans (hsame.setVm s.vm)⟩,
      ⟨g, mk, s₂, L, rfl, rfl, hqc, rfl, hL, rfl, rfl⟩, ?_⟩
    show Steps p.tables e below _ ((({ U with heap := s₂.heap, slotsUsed := s₂.slotsUsed } : State).setVm s₂.vm).setTop { g with pc := g.pc + len₂, stack := v.toList ++ g.stack })
    rw [← hs₂]
    exact hsteps
  · obtain ⟨e2, q2, q3, q4, q5, q6⟩ := id hsm
    have e3 : s₂ = ({ (U.calling g mk a).setFrames s₂.frames with heap := s₂.heap, slotsUsed := s₂.slotsUsed } : State).setVm s₂.vm := by
      have : s₂ = ({ s₂ with vm := (U.calling g mk a).vm } : State).setVm s₂.vm := rfl
      rw [e2] at this
      exact this
    have hf₂ : s₂.frames = .throwing q :: .java g :: U.frames.tail := hend
    have hW' : U.WarmedH s₂.vm := hW₂
    have hs₂ : s₂ = ((({ U with heap := s₂.heap, slotsUsed := s₂.slotsUsed } : State).setVm s₂.vm).setTop g).pushFrame (.throwing q) := by
      refine e3.trans ?_
      rw [hf₂, State.calling_eq h.top, State.setFrames_setFrames, State.pushFrame, State.frames_setTop _ hr', State.setTop_of_frames _ hr', State.setFrames_setFrames, hr]
      rfl
    have hsame : U.sameButNew ({ U with heap := s₂.heap, slotsUsed := s₂.slotsUsed } : State) L mc ms := by
      refine ⟨?_, q2, q3, q4, q5, q6⟩
      obtain ⟨t, ht, -⟩ := State.frames_cons hr
      show ({ U with heap := s₂.heap, slotsUsed := s₂.slotsUsed } : State) = { U.setFrames U.frames with heap := s₂.heap, slotsUsed := s₂.slotsUsed }
      rw [State.setFrames_self ht]
    subst hg
    refine Or.inr ⟨q, ⟨(({ U with heap := s₂.heap, slotsUsed := s₂.slotsUsed } : State).setVm s₂.vm), Ls ++ L, c0 + mc, s0 + ms⟩,
      ⟨X.admits, X.cas, X.clock, X.frames, X.room, X.hears, X.method, X.code, (X.here.setHeapUsed s₂.heap s₂.slotsUsed).setVm hW'.alike, X.tail, State.WarmedH.trans X.warmed hW', X.limits, X.bytes, X.same.trans (hsame.setVm s.vm)⟩,
      ⟨g, mk, s₂, L, E, ce, rfl, rfl, hx, hce, hcv, hcl, rfl, hL, rfl, rfl⟩, ?_⟩
    show Steps p.tables e below _ (((({ U with heap := s₂.heap, slotsUsed := s₂.slotsUsed } : State).setVm s₂.vm).setTop g).pushFrame (.throwing q))
    rw [← hs₂]
    exact hsteps
end
variable {p : Program} {l : Launch} {e : Env} {R : Room} {s : State} {m : MethodId} {args : Array Value} {below : List Frame} {meth : Method} {c : Code} {T : State} {H : Heap} {locs : List Loc} {cells slots : Nat}
theorem vx_callVX (X : Stand p l e R s m args below meth c T locs cells slots) (hexec : p.tables.exec = Jvm.exec) {own C : String} {index : Nat} {y : MethodName} {bytes : ByteArray} {maxL : Nat} {ret : Option FieldType} {hh : List (Nat × Nat × Nat × Nat)}
    (hown : s.vm.findClass own = some m.cls) (hlink : (Cond.methodLink own index y).before args s = true) (hinst : (Cond.instanceMethod y).before args s = true) (hsel : (Cond.selects C y y).before args s = true)
    (hcode : (Cond.codeWith y bytes maxL ret hh).before args s = true) (hy : y.cls ≠ "java/lang/invoke/MethodHandle" ∧ y.cls ≠ "java/lang/invoke/VarHandle")
    {W9 : Nat} {Pre : Pt → Array Value → Prop} {Post : Pt → Array Value → Option Value → Pt → Prop} {PostX : Pt → Array Value → Addr → Pt → Prop} (hK : vx_Back l R p e below s args y 3 W9 Pre Post PostX)
    {b : Addr} {cellB : Cell} (hcell : T.heap[b]? = some cellB) (hobj : cellB.vm.isStatics = false) (hcls : s.vm.findClass C = some cellB.cls)
    {g : JFrame} (hg : g.method = m) (hsize : g.locals.size = c.maxLocals) {argsL rest : List Value} (hlen : ∀ sig, parseMethodDescriptor y.desc = some sig → argsL.length = sig.parameters.length)
    (hstack : g.stack = argsL.reverse ++ .ref b :: rest) (hW : 2 * g.monitorRoom + (rest.map fun v => v.category).sum ≤ W9) (hdg : decode c.code g.pc = .ok (.invokevirtual index, 3))
    (hpre : ∀ vm₁, s.WarmedH vm₁ → Pre ⟨T.setVm vm₁, locs, cells, slots⟩ (Value.ref b :: argsL).toArray) :
    (∃ (v : Option Value) (vm₁ : Vm) (B : Pt), s.WarmedH vm₁ ∧ Stand p l e R s m args below meth c B.U B.locs B.cells B.slots ∧ Post ⟨T.setVm vm₁, locs, cells, slots⟩ (Value.ref b :: argsL).toArray v B ∧
      ∀ target, Steps p.tables e below (B.U.setTop { g with pc := g.pc + 3, stack := v.toList ++ rest }) target → Steps p.tables e below (T.setTop g) target) ∨
    (∃ (q : Addr) (vm₁ : Vm) (B : Pt), s.WarmedH vm₁ ∧ Stand p l e R s m args below meth c B.U B.locs B.cells B.slots ∧ PostX ⟨T.setVm vm₁, locs, cells, slots⟩ (Value.ref b :: argsL).toArray q B ∧
      Steps p.tables e below (T.setTop g) ((B.U.setTop { g with stack := rest }).pushFrame (.throwing q))) := by
  obtain ⟨mk, methM, hnamed, hmethM, hstM, habM⟩ := Cond.instanceMethod_spec hinst
  obtain ⟨m8, methM', cM, hn8, hmethM', -, -, -, -, -, -, hsigM⟩ := Cond.codeWith_spec hcode
  cases Option.some.inj (hn8.symm.trans hnamed)
  cases hmethM.symm.trans hmethM'
  obtain ⟨c2, r2, m2, q1, q2, q3, q4, kP, hkP, hkPi⟩ := Cond.selects_spec hsel
  cases hcls.symm.trans q1
  cases (State.methodFound?_of_named hnamed hy).symm.trans q2
  cases hnamed.symm.trans q3
  have hselP : selectMethod e.platform s.vm cellB.cls mk = .method mk := by rw [Launch.admits_selectMethod X.admits]; exact q4
  obtain ⟨vm₁, X₁, hstep₁⟩ := X.invokevirtual hexec hown hlink hnamed hmethM hstM hkP hkPi hy (a := b) (cell := cellB) hcell
    (fun z h => by rw [h] at hobj; cases hobj) hselP hmethM habM hkP hkPi (g := g) hg (argsL := argsL) (rest := rest) (hlen _ hsigM) hstack hdg
  rcases hK m meth c ⟨T.setVm vm₁, locs, cells, slots⟩ { g with stack := rest } (.invokevirtual index) mk (Value.ref b :: argsL).toArray X₁ hg hsize hdg hW (X₁.named hnamed) (hpre vm₁ X₁.warmed) with ⟨v, B, X', hpost, hsteps⟩ | ⟨q, B, X', hpost, hsteps⟩
  · exact Or.inl ⟨v, vm₁, B, X₁.warmed, X', hpost, fun target h => hstep₁ _ fun acts => by rw [doInvoke_state]; exact hsteps.trans h⟩
  · exact Or.inr ⟨q, vm₁, B, X₁.warmed, X', hpost, hstep₁ _ fun acts => by rw [doInvoke_state]; exact hsteps⟩
theorem vx_callSX (X : Stand p l e R s m args below meth c T locs cells slots) (hexec : p.tables.exec = Jvm.exec) {own : String} {index : Nat} {y : MethodName} {bytes : ByteArray} {maxL : Nat} {ret : Option FieldType} {hh : List (Nat × Nat × Nat × Nat)}
    (hown : s.vm.findClass own = some m.cls) (hlink : (Cond.methodLink own index y).before args s = true) (hstat : (Cond.static y).before args s = true) (hinit : (Cond.initialized y.cls).before args s = true)
    (hcode : (Cond.codeWith y bytes maxL ret hh).before args s = true) (hy : y.cls ≠ "java/lang/invoke/MethodHandle" ∧ y.cls ≠ "java/lang/invoke/VarHandle")
    {W9 : Nat} {Pre : Pt → Array Value → Prop} {Post : Pt → Array Value → Option Value → Pt → Prop} {PostX : Pt → Array Value → Addr → Pt → Prop} (hK : vx_Back l R p e below s args y 3 W9 Pre Post PostX)
    {g : JFrame} (hg : g.method = m) (hsize : g.locals.size = c.maxLocals) {argsL rest : List Value} (hlen : ∀ sig, parseMethodDescriptor y.desc = some sig → argsL.length = sig.parameters.length)
    (hstack : g.stack = argsL.reverse ++ rest) (hW : 2 * g.monitorRoom + (rest.map fun v => v.category).sum ≤ W9) (hdg : decode c.code g.pc = .ok (.invokestatic index, 3))
    (hpre : ∀ vm₁, s.WarmedH vm₁ → Pre ⟨T.setVm vm₁, locs, cells, slots⟩ argsL.toArray) :
    (∃ (v : Option Value) (vm₁ : Vm) (B : Pt), s.WarmedH vm₁ ∧ Stand p l e R s m args below meth c B.U B.locs B.cells B.slots ∧ Post ⟨T.setVm vm₁, locs, cells, slots⟩ argsL.toArray v B ∧
      ∀ target, Steps p.tables e below (B.U.setTop { g with pc := g.pc + 3, stack := v.toList ++ rest }) target → Steps p.tables e below (T.setTop g) target) ∨
    (∃ (q : Addr) (vm₁ : Vm) (B : Pt), s.WarmedH vm₁ ∧ Stand p l e R s m args below meth c B.U B.locs B.cells B.slots ∧ PostX ⟨T.setVm vm₁, locs, cells, slots⟩ argsL.toArray q B ∧
      Steps p.tables e below (T.setTop g) ((B.U.setTop { g with stack := rest }).pushFrame (.throwing q))) := by
  obtain ⟨mk, methM, cM, hnamed, hmethM, -, -, -, -, -, -, hsigM⟩ := Cond.codeWith_spec hcode
  have hstatic : methM.isStatic = true := Cond.static_spec hnamed hmethM hstat
  obtain ⟨kP, hkP, -⟩ := className_of_methodNamed hnamed
  have hinitP : kP.init = .initialized := Cond.initialized_spec (findClass_of_methodNamed hnamed) hkP hinit
  obtain ⟨vm₁, X₁, hstep₁⟩ := X.invokestatic hexec hown hlink hnamed hmethM hstatic hkP hinitP hy (g := g) hg (argsL := argsL) (rest := rest) (hlen _ hsigM) hstack hdg
  rcases hK m meth c ⟨T.setVm vm₁, locs, cells, slots⟩ { g with stack := rest } (.invokestatic index) mk argsL.toArray X₁ hg hsize hdg hW (X₁.named hnamed) (hpre vm₁ X₁.warmed) with ⟨v, B, X', hpost, hsteps⟩ | ⟨q, B, X', hpost, hsteps⟩
  · exact Or.inl ⟨v, vm₁, B, X₁.warmed, X', hpost, fun target h => hstep₁ _ fun acts => by rw [doInvoke_state]; exact hsteps.trans h⟩
  · exact Or.inr ⟨q, vm₁, B, X₁.warmed, X', hpost, hstep₁ _ fun acts => by rw [doInvoke_state]; exact hsteps⟩
theorem vx_callVW (X : Stand p l e R s m args below meth c T locs cells slots) (hexec : p.tables.exec = Jvm.exec) {own C : String} {index : Nat} {y : MethodName} {bytes : ByteArray} {maxL : Nat} {ret : Option FieldType} {hh : List (Nat × Nat × Nat × Nat)}
    (hown : s.vm.findClass own = some m.cls) (hlink : (Cond.methodLink own index y).before args s = true) (hinst : (Cond.instanceMethod y).before args s = true) (hsel : (Cond.selects C y y).before args s = true)
    (hcode : (Cond.codeWith y bytes maxL ret hh).before args s = true) (hy : y.cls ≠ "java/lang/invoke/MethodHandle" ∧ y.cls ≠ "java/lang/invoke/VarHandle")
    {W9 : Nat} {Pre : Pt → Array Value → Prop} {Post : Pt → Array Value → Option Value → Pt → Prop} (hK : Back l R p e below s args y 3 W9 Pre Post)
    {b : Addr} {cellB : Cell} (hcell : T.heap[b]? = some cellB) (hobj : cellB.vm.isStatics = false) (hcls : s.vm.findClass C = some cellB.cls)
    {g : JFrame} (hg : g.method = m) (hsize : g.locals.size = c.maxLocals) {argsL rest : List Value} (hlen : ∀ sig, parseMethodDescriptor y.desc = some sig → argsL.length = sig.parameters.length)
    (hstack : g.stack = argsL.reverse ++ .ref b :: rest) (hW : 2 * g.monitorRoom + (rest.map fun v => v.category).sum ≤ W9) (hdg : decode c.code g.pc = .ok (.invokevirtual index, 3))
    (hpre : ∀ vm₁, s.WarmedH vm₁ → Pre ⟨T.setVm vm₁, locs, cells, slots⟩ (Value.ref b :: argsL).toArray) :
    ∃ (v : Option Value) (vm₁ : Vm) (B : Pt), s.WarmedH vm₁ ∧ Stand p l e R s m args below meth c B.U B.locs B.cells B.slots ∧ Post ⟨T.setVm vm₁, locs, cells, slots⟩ (Value.ref b :: argsL).toArray v B ∧
      ∀ target, Steps p.tables e below (B.U.setTop { g with pc := g.pc + 3, stack := v.toList ++ rest }) target → Steps p.tables e below (T.setTop g) target := by
  obtain ⟨mk, methM, hnamed, hmethM, hstM, habM⟩ := Cond.instanceMethod_spec hinst
  obtain ⟨m8, methM', cM, hn8, hmethM', -, -, -, -, -, -, hsigM⟩ := Cond.codeWith_spec hcode
  cases Option.some.inj (hn8.symm.trans hnamed)
  cases hmethM.symm.trans hmethM'
  obtain ⟨c2, r2, m2, q1, q2, q3, q4, kP, hkP, hkPi⟩ := Cond.selects_spec hsel
  cases hcls.symm.trans q1
  cases (State.methodFound?_of_named hnamed hy).symm.trans q2
  cases hnamed.symm.trans q3
  have hselP : selectMethod e.platform s.vm cellB.cls mk = .method mk := by rw [Launch.admits_selectMethod X.admits]; exact q4
  obtain ⟨vm₁, X₁, hstep₁⟩ := X.invokevirtual hexec hown hlink hnamed hmethM hstM hkP hkPi hy (a := b) (cell := cellB) hcell
    (fun z h => by rw [h] at hobj; cases hobj) hselP hmethM habM hkP hkPi (g := g) hg (argsL := argsL) (rest := rest) (hlen _ hsigM) hstack hdg
  obtain ⟨v, B, X', hpost, hsteps⟩ := hK m meth c ⟨T.setVm vm₁, locs, cells, slots⟩ { g with stack := rest } (.invokevirtual index) mk (Value.ref b :: argsL).toArray X₁ hg hsize hdg hW (X₁.named hnamed) (hpre vm₁ X₁.warmed)
  exact ⟨v, vm₁, B, X₁.warmed, X', hpost, fun target h => hstep₁ _ fun acts => by rw [doInvoke_state]; exact hsteps.trans h⟩
abbrev vx_CVW (R : Room) (s : State) (args : Array Value) (own C : String) (index : Nat) (y : MethodName) (bytes : ByteArray) (maxL : Nat) (ret : Option FieldType) (hh : List (Nat × Nat × Nat × Nat)) (ws : List Cond) (rm : Room) (mc ms n : Nat) : Prop :=
  (rm.cells = mc ∧ rm.slots = ms ∧ rm.frames + 1 ≤ R.frames ∧ 8 + (maxL + 11) + rm.locals ≤ R.locals ∧ (∀ w ∈ ws, ∀ (a' : Array Value) (U : State), s.WarmedH U.vm → w.before a' U = true) ∧ Cond.codeWith y bytes maxL ret hh ∈ ws) ∧
  (Cond.codeWith y bytes maxL ret hh).before args s = true ∧ (Cond.initialized y.cls).before args s = true ∧ (y.cls ≠ "java/lang/invoke/MethodHandle" ∧ y.cls ≠ "java/lang/invoke/VarHandle") ∧
  (∀ sig, parseMethodDescriptor y.desc = some sig → n = sig.parameters.length) ∧ (Cond.methodLink own index y).before args s = true ∧ (Cond.instanceMethod y).before args s = true ∧ (Cond.selects C y y).before args s = true
theorem vx_cwVW {own C : String} {index maxL mc ms : Nat} {y : MethodName} {bytes : ByteArray} {ret : Option FieldType} {hh : List (Nat × Nat × Nat × Nat)} {Ts ws ws' : List Cond} {rm : Room} (n : Nat) (ht : ∀ w ∈ Ts, w.before args s = true) (hT : GoodIn Ts (wsV own index C y ws)) (hw : ws = Cond.codeWith y bytes maxL ret hh :: ws') (hrc : rm.cells = mc) (hrs : rm.slots = ms)
    (hd : y.cls = C ∧ y.cls ≠ "java/lang/invoke/MethodHandle" ∧ y.cls ≠ "java/lang/invoke/VarHandle" ∧ (parseMethodDescriptor y.desc).map (fun d => d.parameters.length) = some n) (hR : rm.frames + 1 ≤ R.frames ∧ 8 + (maxL + 11) + rm.locals ≤ R.locals) :
    vx_CVW R s args own C index y bytes maxL ret hh ws rm mc ms n := by
  obtain ⟨hC, hd⟩ := hd
  subst hC
  have ok : ∀ w ∈ wsV own index y.cls y ws, w.before args s = true := fun w h => ht w (hT w h).1
  have hG : GoodIn Ts ws := fun w h => hT w (by unfold wsV; exact List.mem_append_right _ h)
  have hc : Cond.codeWith y bytes maxL ret hh ∈ ws := by rw [hw]; exact List.mem_cons_self
  refine ⟨⟨hrc, hrs, hR.1, hR.2, pay_in ht hG, hc⟩, ht _ (hG _ hc).1, ok _ (by simp [wsV]), ⟨hd.1, hd.2.1⟩, fun sig h => ?_, ok _ (by simp [wsV]), ok _ (by simp [wsV]), ok _ (by simp [wsV])⟩
  have h2 := hd.2.2
  rw [h] at h2
  exact (Option.some.inj h2).symm
theorem vx_runVW {y : MethodName} {bytes cc : ByteArray} {maxL nL mc ms n index : Nat} {ret : Option FieldType} {hh : List (Nat × Nat × Nat × Nat)} {ws : List Cond} {rm : Room} {Pc : Array Value → State → Prop} {Qc : Array Value → State → Outcome → State → Prop} {free : Addr → Prop} {Ts : List Cond} {own C : String} {b : Addr} {As rest : List Value} {g : JFrame}
    (S : CallFix p m c cc nL s args Ts own) (hM : Met l y ws rm Pc Qc mc ms free) (cw : vx_CVW R s args own C index y bytes maxL ret hh ws rm mc ms n) (hp : PreV s H C b Pc As)
    (hg : g.method = m) (hn : As.length = n) (hsize : g.locals.size = nL) (hstack : g.stack = As.reverse ++ .ref b :: rest) (hW : 2 * g.monitorRoom + (rest.map fun v => v.category).sum ≤ 8) (hdg : decode cc g.pc = .ok (.invokevirtual index, 3)) (hf : cells + mc ≤ R.cells ∧ slots + ms ≤ R.slots) :
    va_Run p l e R s m args below meth c H locs cells slots mc ms g rest (Qc (Value.ref b :: As).toArray) free := by
  obtain ⟨⟨hrc, hrs, hfr, hlo, hws, hcw⟩, hcode, hini, hy, hlen, hl, hin, hse⟩ := cw
  have hK : Back l R p e below s args y 3 8 (PreOf R mc ms Pc) (PostOf Qc mc ms free) := va_backW (hh := hh) (bytes := bytes) (maxL := maxL) (ret := ret) hM hp.1 hrc hrs hfr hlo hws hcw (fun a' U hW => word_at hW (Or.inl (by first | rfl | simp [Cond.onTables, Cond.keeps, Cond.steady])) hini)
  obtain ⟨hx, hb, hml, ho, -⟩ := S
  obtain ⟨-, ⟨cellB, hcB, hoB, hclB⟩, hPc⟩ := hp
  intro T hT X
  obtain ⟨v, vm₁, ⟨U', l2, c2, s2⟩, hW₁, X', ⟨g', mk, t, L, e1, e2, hq, h1, hL, h2, h3⟩, st⟩ := vx_callVW X hx (C := C) (hh := hh) (bytes := bytes) (maxL := maxL) (ret := ret) ho hl hin hse hcode hy hK (by rw [hT]; exact hcB) hoB hclB hg (hsize.trans hml.symm) (argsL := As) (rest := rest) (fun sig h => hn.trans (hlen sig h)) hstack hW (by rw [hb]; exact hdg)
    (fun vm₁ hW₁ => ⟨hf.1, hf.2, hPc (T.setVm vm₁) hT hW₁⟩)
  dsimp only [Pt.U, Pt.locs, Pt.cells, Pt.slots] at X' e1 e2 h1 h2 h3 st
  subst h1; subst h2; subst h3
  exact ⟨v, (T.setVm vm₁).calling g' mk (Value.ref b :: As).toArray, t, U', L, hT, X', hL, e1, e2, hq, st⟩
section
variable {y : MethodName} {bytes cc : ByteArray} {maxL nL mc ms n index : Nat} {ret : Option FieldType} {ws : List Cond} {rm : Room} {Pc : Array Value → State → Prop} {Qc : Array Value → State → Outcome → State → Prop} {XC : String → State → State → Prop} {free : Addr → Prop} {Ts : List Cond} {own C : String} {b : Addr} {As rest : List Value} {g : JFrame}
theorem vx_runVX {hh : List (Nat × Nat × Nat × Nat)} (S : CallFix p m c cc nL s args Ts own) (hM : vx_Met l y ws rm Pc Qc XC mc ms free) (cw : vx_CVW R s args own C index y bytes maxL ret hh ws rm mc ms n) (hp : PreV s H C b Pc As)
    (hg : g.method = m) (hn : As.length = n) (hsize : g.locals.size = nL) (hstack : g.stack = As.reverse ++ .ref b :: rest) (hW : 2 * g.monitorRoom + (rest.map fun v => v.category).sum ≤ 8) (hdg : decode cc g.pc = .ok (.invokevirtual index, 3)) (hf : cells + mc ≤ R.cells ∧ slots + ms ≤ R.slots) :
    vx_Run p l e R s m args below meth c H locs cells slots mc ms g rest (Qc (Value.ref b :: As).toArray) XC free := by
  obtain ⟨⟨hrc, hrs, hfr, hlo, hws, hcw⟩, hcode, hini, hy, hlen, hl, hin, hse⟩ := cw
  have hK : vx_Back l R p e below s args y 3 8 (PreOf R mc ms Pc) (PostOf Qc mc ms free) (vx_Post XC mc ms free) := vx_backW (hh := hh) (bytes := bytes) (maxL := maxL) (ret := ret) hM hp.1 hrc hrs hfr hlo hws hcw (fun a' U hW => word_at hW (Or.inl (by first | rfl | simp [Cond.onTables, Cond.keeps, Cond.steady])) hini)
  obtain ⟨hx, hb, hml, ho, -⟩ := S
  obtain ⟨-, ⟨cellB, hcB, hoB, hclB⟩, hPc⟩ := hp
  intro T hT X
  rcases vx_callVX X hx (C := C) (hh := hh) (bytes := bytes) (maxL := maxL) (ret := ret) ho hl hin hse hcode hy hK (by rw [hT]; exact hcB) hoB hclB hg (hsize.trans hml.symm) (argsL := As) (rest := rest) (fun sig h => hn.trans (hlen sig h)) hstack hW (by rw [hb]; exact hdg)
    (fun vm₁ hW₁ => ⟨hf.1, hf.2, hPc (T.setVm vm₁) hT hW₁⟩) with ⟨v, vm₁, ⟨U', l2, c2, s2⟩, hW₁, X', ⟨g', mk, t, L, e1, e2, hq, h1, hL, h2, h3⟩, st⟩ | ⟨q, vm₁, ⟨U', l2, c2, s2⟩, hW₁, X', ⟨g', mk, t, L, E, ce, e1, e2, hq, hce, hcv, hcl, h1, hL, h2, h3⟩, st⟩
  · dsimp only [Pt.U, Pt.locs, Pt.cells, Pt.slots] at X' e1 e2 h1 h2 h3 st
    subst h1; subst h2; subst h3
    exact Or.inl ⟨v, (T.setVm vm₁).calling g' mk (Value.ref b :: As).toArray, t, U', L, hT, X', hL, e1, e2, hq, st⟩
  · dsimp only [Pt.U, Pt.locs, Pt.cells, Pt.slots] at X' e1 e2 h1 h2 h3 st hcl
    subst h1; subst h2; subst h3
    exact Or.inr ⟨q, (T.setVm vm₁).calling g' mk (Value.ref b :: As).toArray, t, U', L, E, ce, hT, X', hL, e1, e2, hq, hce, hcv, vx_cls hW₁ hcl, st⟩
theorem vx_runSX {hh : List (Nat × Nat × Nat × Nat)} (S : CallFix p m c cc nL s args Ts own) (hM : vx_Met l y ws rm Pc Qc XC mc ms free) (cw : vx_CSW R s args own index y bytes maxL ret hh ws rm mc ms n) (hp : PreS s H Pc As)
    (hg : g.method = m) (hn : As.length = n) (hsize : g.locals.size = nL) (hstack : g.stack = As.reverse ++ rest) (hW : 2 * g.monitorRoom + (rest.map fun v => v.category).sum ≤ 8) (hdg : decode cc g.pc = .ok (.invokestatic index, 3)) (hf : cells + mc ≤ R.cells ∧ slots + ms ≤ R.slots) :
    vx_Run p l e R s m args below meth c H locs cells slots mc ms g rest (Qc As.toArray) XC free := by
  obtain ⟨⟨hrc, hrs, hfr, hlo, hws, hcw⟩, hcode, hini, hy, hlen, hl, hstt⟩ := cw
  have hK : vx_Back l R p e below s args y 3 8 (PreOf R mc ms Pc) (PostOf Qc mc ms free) (vx_Post XC mc ms free) := vx_backW (hh := hh) (bytes := bytes) (maxL := maxL) (ret := ret) hM hp.1 hrc hrs hfr hlo hws hcw (fun a' U hW => word_at hW (Or.inl (by first | rfl | simp [Cond.onTables, Cond.keeps, Cond.steady])) hini)
  obtain ⟨hx, hb, hml, ho, -⟩ := S
  intro T hT X
  rcases vx_callSX X hx (hh := hh) (bytes := bytes) (maxL := maxL) (ret := ret) ho hl hstt hini hcode hy hK hg (hsize.trans hml.symm) (argsL := As) (rest := rest) (fun sig h => hn.trans (hlen sig h)) hstack hW (by rw [hb]; exact hdg)
    (fun vm₁ hW₁ => ⟨hf.1, hf.2, hp.2 (T.setVm vm₁) hT hW₁⟩) with ⟨v, vm₁, ⟨U', l2, c2, s2⟩, hW₁, X', ⟨g', mk, t, L, e1, e2, hq, h1, hL, h2, h3⟩, st⟩ | ⟨q, vm₁, ⟨U', l2, c2, s2⟩, hW₁, X', ⟨g', mk, t, L, E, ce, e1, e2, hq, hce, hcv, hcl, h1, hL, h2, h3⟩, st⟩
  · dsimp only [Pt.U, Pt.locs, Pt.cells, Pt.slots] at X' e1 e2 h1 h2 h3 st
    subst h1; subst h2; subst h3
    exact Or.inl ⟨v, (T.setVm vm₁).calling g' mk As.toArray, t, U', L, hT, X', hL, e1, e2, hq, st⟩
  · dsimp only [Pt.U, Pt.locs, Pt.cells, Pt.slots] at X' e1 e2 h1 h2 h3 st hcl
    subst h1; subst h2; subst h3
    exact Or.inr ⟨q, (T.setVm vm₁).calling g' mk As.toArray, t, U', L, E, ce, hT, X', hL, e1, e2, hq, hce, hcv, vx_cls hW₁ hcl, st⟩
end
end VXH
theorem vx_ofWH {l : Launch} {y : MethodName} {ws ws' : List Cond} {rm : Room} {Pc : Array Value → State → Prop} {Qc : Array Value → State → Outcome → State → Prop} {XC : String → State → State → Prop} {mc ms : Nat} {free : Addr → Prop} {cc : ByteArray} {maxL : Nat} {ret : Option FieldType} {hh : List (Nat × Nat × Nat × Nat)}
    (hy : plainName y.cls = true) (hw : ws = Cond.codeWith y cc maxL ret hh :: ws')
    (body : ∀ p e s m args below meth c s₁, BodyLoose p l y (headSpec ws rm) cc maxL ret e s m args below meth c s₁ → c.maxLocals = maxL → Pc args s →
      W p l e (headSpec ws rm).room s m args below meth c s.heap [] 0 0 (vx_MQ below Qc XC args s mc ms free) (entryFrame m args maxL)) : vx_Met l y ws rm Pc Qc XC mc ms free := by
  refine MetFree.of_bodyS (code := cc) (maxLocals := maxL) (ret := ret) hy ?_ ?_
  · intro args s m h hn
    obtain ⟨m9, meth, c, hn9, h1, h2, h3, h4, -, h5, h6, -⟩ := Cond.codeWith_spec (atoms_spec (ws := ws) h _ (by rw [hw]; exact List.mem_cons_self))
    cases hn.symm.trans hn9
    exact ⟨meth, c, h1, h2, h3, h4, h5, h6⟩
  · intro p e s m args below meth c s₁ B hml hP _
    have hh0 : s₁.heap = s.heap := by rw [B.state]; rfl
    obtain ⟨t, a1, o, b1, b2, b3⟩ := body p e s m args below meth c s₁ B hml hP s₁ hh0 (Stand.of_body B)
    exact ⟨t, o, a1, b1, b2, b3⟩
/-! ===== END ===== -/

/-! ===== BEGIN printed: names, fields, word lists, decode rows ===== -/
end
section
def RX0 : String := "RansomHymn$Canon"
def TX0 : u_T := fun k => match k with
  | 0 => ("RansomHymn$Canon", "hymn", "LRansomHymn$Hymn;", true)
  | 1 => ("RansomHymn$Canon", "now", "LRansomHymn$World;", true)
  | 2 => ("RansomHymn$Canon", "laws", "LRansomHymn$Laws;", true)
  | 3 => ("RansomHymn$Canon", "heardBars", "[I", true)
  | 4 => ("RansomHymn$Canon", "row", "[I", true)
  | 5 => ("RansomHymn$Canon", "bestRow", "[I", true)
  | 6 => ("RansomHymn$Canon", "many", "I", false)
  | 7 => ("RansomHymn$Canon", "behind", "I", false)
  | 8 => ("RansomHymn$Canon", "length", "I", false)
  | _ => ("RansomHymn$Canon", "fewest", "I", false)
def tyX0 : Nat → FieldType := fun k => match k with
  | 0 => .object "RansomHymn$Hymn"
  | 1 => .object "RansomHymn$World"
  | 2 => .object "RansomHymn$Laws"
  | 3 => .array .int
  | 4 => .array .int
  | 5 => .array .int
  | 6 => .int
  | 7 => .int
  | 8 => .int
  | _ => .int
abbrev wsX00 : List Cond := u_ws RX0 TX0 10
theorem nmX0 : ∀ a, a < 10 → ∀ b, b < 10 → a ≠ b → (TX0 a).2.1 ≠ (TX0 b).2.1 := by decide +kernel
theorem tyX0_ok : ∀ k, k < 10 → parseFieldDescriptor (TX0 k).2.2.1 = some (tyX0 k) := by decide +kernel
abbrev cX0_init : ByteArray := prog_2_method_1_code
def yX0_init : MethodName := ⟨RX0, "<init>", "(LRansomHymn$Hymn;LRansomHymn$World;LRansomHymn$Laws;)V"⟩
abbrev cX0_fewestGaps : ByteArray := prog_2_method_2_code
def yX0_fewestGaps : MethodName := ⟨RX0, "fewestGaps", "(III)I"⟩
abbrev cX0_fill : ByteArray := prog_2_method_3_code
def yX0_fill : MethodName := ⟨RX0, "fill", "(IIJ)V"⟩
def RX1 : String := "RansomHymn$Choice"
def TX1 : u_T := fun k => match k with
  | 0 => ("RansomHymn$Choice", "hymn", "LRansomHymn$Hymn;", true)
  | 1 => ("RansomHymn$Choice", "now", "LRansomHymn$World;", true)
  | 2 => ("RansomHymn$Choice", "laws", "LRansomHymn$Laws;", true)
  | 3 => ("RansomHymn$Choice", "notes", "[I", true)
  | 4 => ("RansomHymn$Choice", "crowns", "[I", true)
  | 5 => ("RansomHymn$Choice", "verseCrowns", "[I", true)
  | 6 => ("RansomHymn$Choice", "restCrowns", "[[I", true)
  | 7 => ("RansomHymn$Choice", "singers", "[I", true)
  | 8 => ("RansomHymn$Choice", "rowNotes", "I", false)
  | 9 => ("RansomHymn$Choice", "rowCrowns", "I", false)
  | _ => ("RansomHymn$Choice", "weighed", "Z", false)
def tyX1 : Nat → FieldType := fun k => match k with
  | 0 => .object "RansomHymn$Hymn"
  | 1 => .object "RansomHymn$World"
  | 2 => .object "RansomHymn$Laws"
  | 3 => .array .int
  | 4 => .array .int
  | 5 => .array .int
  | 6 => .array (.array .int)
  | 7 => .array .int
  | 8 => .int
  | 9 => .int
  | _ => .boolean
abbrev wsX10 : List Cond := u_ws RX1 TX1 11
theorem nmX1 : ∀ a, a < 11 → ∀ b, b < 11 → a ≠ b → (TX1 a).2.1 ≠ (TX1 b).2.1 := by decide +kernel
theorem tyX1_ok : ∀ k, k < 11 → parseFieldDescriptor (TX1 k).2.2.1 = some (tyX1 k) := by decide +kernel
abbrev cX1_init : ByteArray := prog_3_method_1_code
def yX1_init : MethodName := ⟨RX1, "<init>", "(LRansomHymn$Hymn;LRansomHymn$World;LRansomHymn$Laws;)V"⟩
abbrev cX1_mostNotes : ByteArray := prog_3_method_2_code
def yX1_mostNotes : MethodName := ⟨RX1, "mostNotes", "(I)I"⟩
abbrev cX1_crownsFor : ByteArray := prog_3_method_3_code
def yX1_crownsFor : MethodName := ⟨RX1, "crownsFor", "(I)I"⟩
abbrev cX1_weigh : ByteArray := prog_3_method_4_code
def yX1_weigh : MethodName := ⟨RX1, "weigh", "()V"⟩
abbrev cX1_choose : ByteArray := prog_3_method_5_code
def yX1_choose : MethodName := ⟨RX1, "choose", "(I)V"⟩
abbrev cX1_isBest : ByteArray := prog_3_method_6_code
def yX1_isBest : MethodName := ⟨RX1, "isBest", "(II)Z"⟩
abbrev cX1_weighPart : ByteArray := prog_3_method_7_code
def yX1_weighPart : MethodName := ⟨RX1, "weighPart", "(II)V"⟩
abbrev cX1_weighRows : ByteArray := prog_3_method_8_code
def yX1_weighRows : MethodName := ⟨RX1, "weighRows", "(I)V"⟩
abbrev cX1_joinRest : ByteArray := prog_3_method_9_code
def yX1_joinRest : MethodName := ⟨RX1, "joinRest", "(I)V"⟩
abbrev cX1_rowsOf : ByteArray := prog_3_method_10_code
def yX1_rowsOf : MethodName := ⟨RX1, "rowsOf", "(I)I"⟩
abbrev cX1_fits : ByteArray := prog_3_method_11_code
def yX1_fits : MethodName := ⟨RX1, "fits", "(II)Z"⟩
def RX2 : String := "RansomHymn$Formulas"
def TX2 : u_T := fun k => match k with
  | 0 => ("RansomHymn$Formulas", "kinds", "[I", true)
  | 1 => ("RansomHymn$Formulas", "values", "[I", true)
  | 2 => ("RansomHymn$Formulas", "from", "[I", true)
  | 3 => ("RansomHymn$Formulas", "to", "[I", true)
  | 4 => ("RansomHymn$Formulas", "size", "I", false)
  | 5 => ("RansomHymn$Formulas", "waiting", "[I", true)
  | 6 => ("RansomHymn$Formulas", "depth", "I", false)
  | 7 => ("RansomHymn$Formulas", "open", "I", false)
  | 8 => ("RansomHymn$Formulas", "knots", "I", false)
  | _ => ("RansomHymn$Formulas", "wantsValue", "Z", false)
def tyX2 : Nat → FieldType := fun k => match k with
  | 0 => .array .int
  | 1 => .array .int
  | 2 => .array .int
  | 3 => .array .int
  | 4 => .int
  | 5 => .array .int
  | 6 => .int
  | 7 => .int
  | 8 => .int
  | _ => .boolean
abbrev wsX20 : List Cond := u_ws RX2 TX2 10
theorem nmX2 : ∀ a, a < 10 → ∀ b, b < 10 → a ≠ b → (TX2 a).2.1 ≠ (TX2 b).2.1 := by decide +kernel
theorem tyX2_ok : ∀ k, k < 10 → parseFieldDescriptor (TX2 k).2.2.1 = some (tyX2 k) := by decide +kernel
abbrev cX2_init : ByteArray := prog_4_method_1_code
def yX2_init : MethodName := ⟨RX2, "<init>", "()V"⟩
abbrev cX2_clear : ByteArray := prog_4_method_2_code
def yX2_clear : MethodName := ⟨RX2, "clear", "()V"⟩
abbrev cX2_take : ByteArray := prog_4_method_3_code
def yX2_take : MethodName := ⟨RX2, "take", "(LRansomHymn$Formulas;)V"⟩
abbrev cX2_isTold : ByteArray := prog_4_method_4_code
def yX2_isTold : MethodName := ⟨RX2, "isTold", "(I)Z"⟩
abbrev cX2_tell : ByteArray := prog_4_method_5_code
def yX2_tell : MethodName := ⟨RX2, "tell", "(ILRansomHymn$Tokens;)V"⟩
abbrev cX2_readValue : ByteArray := prog_4_method_6_code
def yX2_readValue : MethodName := ⟨RX2, "readValue", "(LRansomHymn$Tokens;)Z"⟩
abbrev cX2_readSign : ByteArray := prog_4_method_7_code
def yX2_readSign : MethodName := ⟨RX2, "readSign", "(LRansomHymn$Tokens;)Z"⟩
abbrev cX2_isRoom : ByteArray := prog_4_method_8_code
def yX2_isRoom : MethodName := ⟨RX2, "isRoom", "(LRansomHymn$Tokens;)Z"⟩
abbrev cX2_hold : ByteArray := prog_4_method_9_code
def yX2_hold : MethodName := ⟨RX2, "hold", "(I)Z"⟩
abbrev cX2_topLevel : ByteArray := prog_4_method_10_code
def yX2_topLevel : MethodName := ⟨RX2, "topLevel", "()I"⟩
abbrev cX2_settle : ByteArray := prog_4_method_11_code
def yX2_settle : MethodName := ⟨RX2, "settle", "(I)V"⟩
abbrev cX2_put : ByteArray := prog_4_method_12_code
def yX2_put : MethodName := ⟨RX2, "put", "(II)Z"⟩
abbrev cX2_levelOf : ByteArray := prog_4_method_13_code
def yX2_levelOf : MethodName := ⟨RX2, "levelOf", "(I)I"⟩
def RX3 : String := "RansomHymn$Hums"
def TX3 : u_T := fun k => match k with
  | 0 => ("RansomHymn$Hums", "hummed", "[I", true)
  | _ => ("RansomHymn$Hums", "size", "I", false)
def tyX3 : Nat → FieldType := fun k => match k with
  | 0 => .array .int
  | _ => .int
abbrev wsX30 : List Cond := u_ws RX3 TX3 2
theorem nmX3 : ∀ a, a < 2 → ∀ b, b < 2 → a ≠ b → (TX3 a).2.1 ≠ (TX3 b).2.1 := by decide +kernel
theorem tyX3_ok : ∀ k, k < 2 → parseFieldDescriptor (TX3 k).2.2.1 = some (tyX3 k) := by decide +kernel
abbrev cX3_init : ByteArray := prog_5_method_1_code
def yX3_init : MethodName := ⟨RX3, "<init>", "()V"⟩
abbrev cX3_add : ByteArray := prog_5_method_2_code
def yX3_add : MethodName := ⟨RX3, "add", "(I)I"⟩
abbrev cX3_pitches : ByteArray := prog_5_method_3_code
def yX3_pitches : MethodName := ⟨RX3, "pitches", "(I)J"⟩
def RX4 : String := "RansomHymn$Hymn"
def TX4 : u_T := fun k => match k with
  | 0 => ("RansomHymn$Hymn", "taverns", "LRansomHymn$Roll;", true)
  | 1 => ("RansomHymn$Hymn", "voices", "LRansomHymn$Roll;", true)
  | 2 => ("RansomHymn$Hymn", "verses", "LRansomHymn$Roll;", true)
  | 3 => ("RansomHymn$Hymn", "bakers", "LRansomHymn$Roll;", true)
  | 4 => ("RansomHymn$Hymn", "rates", "[I", true)
  | 5 => ("RansomHymn$Hymn", "tills", "[I", true)
  | 6 => ("RansomHymn$Hymn", "lows", "[I", true)
  | 7 => ("RansomHymn$Hymn", "highs", "[I", true)
  | 8 => ("RansomHymn$Hymn", "homes", "[I", true)
  | 9 => ("RansomHymn$Hymn", "debts", "[I", true)
  | 10 => ("RansomHymn$Hymn", "chances", "[I", true)
  | 11 => ("RansomHymn$Hymn", "partsOf", "[I", true)
  | 12 => ("RansomHymn$Hymn", "barsOf", "[I", true)
  | 13 => ("RansomHymn$Hymn", "pitches", "[I", true)
  | 14 => ("RansomHymn$Hymn", "bakerPurses", "[I", true)
  | 15 => ("RansomHymn$Hymn", "formulas", "LRansomHymn$Formulas;", true)
  | 16 => ("RansomHymn$Hymn", "boys", "I", false)
  | 17 => ("RansomHymn$Hymn", "purse", "I", false)
  | _ => ("RansomHymn$Hymn", "seed", "I", false)
def tyX4 : Nat → FieldType := fun k => match k with
  | 0 => .object "RansomHymn$Roll"
  | 1 => .object "RansomHymn$Roll"
  | 2 => .object "RansomHymn$Roll"
  | 3 => .object "RansomHymn$Roll"
  | 4 => .array .int
  | 5 => .array .int
  | 6 => .array .int
  | 7 => .array .int
  | 8 => .array .int
  | 9 => .array .int
  | 10 => .array .int
  | 11 => .array .int
  | 12 => .array .int
  | 13 => .array .int
  | 14 => .array .int
  | 15 => .object "RansomHymn$Formulas"
  | 16 => .int
  | 17 => .int
  | _ => .int
abbrev wsX40 : List Cond := u_ws RX4 TX4 19
theorem nmX4 : ∀ a, a < 19 → ∀ b, b < 19 → a ≠ b → (TX4 a).2.1 ≠ (TX4 b).2.1 := by decide +kernel
theorem tyX4_ok : ∀ k, k < 19 → parseFieldDescriptor (TX4 k).2.2.1 = some (tyX4 k) := by decide +kernel
abbrev cX4_init : ByteArray := prog_6_method_1_code
def yX4_init : MethodName := ⟨RX4, "<init>", "()V"⟩
abbrev cX4_clear : ByteArray := prog_6_method_2_code
def yX4_clear : MethodName := ⟨RX4, "clear", "()V"⟩
abbrev cX4_take : ByteArray := prog_6_method_3_code
def yX4_take : MethodName := ⟨RX4, "take", "(LRansomHymn$Hymn;)V"⟩
abbrev cX4_hasPart : ByteArray := prog_6_method_4_code
def yX4_hasPart : MethodName := ⟨RX4, "hasPart", "(II)Z"⟩
abbrev cX4_hasVerses : ByteArray := prog_6_method_5_code
def yX4_hasVerses : MethodName := ⟨RX4, "hasVerses", "(I)Z"⟩
abbrev cX4_isBoy : ByteArray := prog_6_method_6_code
def yX4_isBoy : MethodName := ⟨RX4, "isBoy", "(I)Z"⟩
abbrev cX4_pitchAt : ByteArray := prog_6_method_7_code
def yX4_pitchAt : MethodName := ⟨RX4, "pitchAt", "(II)I"⟩
abbrev cX4_restsIn : ByteArray := prog_6_method_8_code
def yX4_restsIn : MethodName := ⟨RX4, "restsIn", "(I)I"⟩
abbrev cX4_highestIn : ByteArray := prog_6_method_9_code
def yX4_highestIn : MethodName := ⟨RX4, "highestIn", "(I)I"⟩
abbrev cX4_reach : ByteArray := prog_6_method_10_code
def yX4_reach : MethodName := ⟨RX4, "reach", "(I)J"⟩
abbrev cX4_reachedBars : ByteArray := prog_6_method_11_code
def yX4_reachedBars : MethodName := ⟨RX4, "reachedBars", "(II)I"⟩
def RX5 : String := "RansomHymn$Laws"
def TX5 : u_T := fun k => match k with
  | 0 => ("RansomHymn$Laws", "hymn", "LRansomHymn$Hymn;", true)
  | 1 => ("RansomHymn$Laws", "now", "LRansomHymn$World;", true)
  | 2 => ("RansomHymn$Laws", "names", "[J", true)
  | 3 => ("RansomHymn$Laws", "stack", "[J", true)
  | 4 => ("RansomHymn$Laws", "top", "I", false)
  | _ => ("RansomHymn$Laws", "error", "Z", false)
def tyX5 : Nat → FieldType := fun k => match k with
  | 0 => .object "RansomHymn$Hymn"
  | 1 => .object "RansomHymn$World"
  | 2 => .array .long
  | 3 => .array .long
  | 4 => .int
  | _ => .boolean
abbrev wsX50 : List Cond := u_ws RX5 TX5 6
theorem nmX5 : ∀ a, a < 6 → ∀ b, b < 6 → a ≠ b → (TX5 a).2.1 ≠ (TX5 b).2.1 := by decide +kernel
theorem tyX5_ok : ∀ k, k < 6 → parseFieldDescriptor (TX5 k).2.2.1 = some (tyX5 k) := by decide +kernel
abbrev cX5_init : ByteArray := prog_7_method_1_code
def yX5_init : MethodName := ⟨RX5, "<init>", "(LRansomHymn$Hymn;LRansomHymn$World;)V"⟩
abbrev cX5_soundBits : ByteArray := prog_7_method_2_code
def yX5_soundBits : MethodName := ⟨RX5, "soundBits", "(II)I"⟩
abbrev cX5_dueFor : ByteArray := prog_7_method_3_code
def yX5_dueFor : MethodName := ⟨RX5, "dueFor", "(III)I"⟩
abbrev cX5_crackFor : ByteArray := prog_7_method_4_code
def yX5_crackFor : MethodName := ⟨RX5, "crackFor", "(II)I"⟩
abbrev cX5_bidFor : ByteArray := prog_7_method_5_code
def yX5_bidFor : MethodName := ⟨RX5, "bidFor", "(III)I"⟩
abbrev cX5_setOwner : ByteArray := prog_7_method_6_code
def yX5_setOwner : MethodName := ⟨RX5, "setOwner", "(III)V"⟩
abbrev cX5_setMusic : ByteArray := prog_7_method_7_code
def yX5_setMusic : MethodName := ⟨RX5, "setMusic", "(IIII)V"⟩
abbrev cX5_reckon : ByteArray := prog_7_method_8_code
def yX5_reckon : MethodName := ⟨RX5, "reckon", "(III)I"⟩
abbrev cX5_apply : ByteArray := prog_7_method_9_code
def yX5_apply : MethodName := ⟨RX5, "apply", "(II)V"⟩
abbrev cX5_scale : ByteArray := prog_7_method_10_code
def yX5_scale : MethodName := ⟨RX5, "scale", "(IJJ)J"⟩
abbrev cX5_join : ByteArray := prog_7_method_11_code
def yX5_join : MethodName := ⟨RX5, "join", "(IJJ)J"⟩
abbrev cX5_push : ByteArray := prog_7_method_12_code
def yX5_push : MethodName := ⟨RX5, "push", "(J)V"⟩
abbrev cX5_pop : ByteArray := prog_7_method_13_code
def yX5_pop : MethodName := ⟨RX5, "pop", "()J"⟩
def RX6 : String := "RansomHymn$Roll"
def TX6 : u_T := fun k => match k with
  | 0 => ("RansomHymn$Roll", "names", "[I", true)
  | _ => ("RansomHymn$Roll", "size", "I", false)
def tyX6 : Nat → FieldType := fun k => match k with
  | 0 => .array .int
  | _ => .int
abbrev wsX60 : List Cond := u_ws RX6 TX6 2
theorem nmX6 : ∀ a, a < 2 → ∀ b, b < 2 → a ≠ b → (TX6 a).2.1 ≠ (TX6 b).2.1 := by decide +kernel
theorem tyX6_ok : ∀ k, k < 2 → parseFieldDescriptor (TX6 k).2.2.1 = some (tyX6 k) := by decide +kernel
abbrev cX6_init : ByteArray := prog_8_method_1_code
def yX6_init : MethodName := ⟨RX6, "<init>", "(I)V"⟩
abbrev cX6_isFull : ByteArray := prog_8_method_2_code
def yX6_isFull : MethodName := ⟨RX6, "isFull", "()Z"⟩
abbrev cX6_holds : ByteArray := prog_8_method_3_code
def yX6_holds : MethodName := ⟨RX6, "holds", "(I)Z"⟩
abbrev cX6_find : ByteArray := prog_8_method_4_code
def yX6_find : MethodName := ⟨RX6, "find", "(I)I"⟩
abbrev cX6_add : ByteArray := prog_8_method_5_code
def yX6_add : MethodName := ⟨RX6, "add", "(I)I"⟩
abbrev cX6_take : ByteArray := prog_8_method_6_code
def yX6_take : MethodName := ⟨RX6, "take", "(LRansomHymn$Roll;)V"⟩
def RX7 : String := "RansomHymn$Sale"
def TX7 : u_T := fun k => match k with
  | 0 => ("RansomHymn$Sale", "hymn", "LRansomHymn$Hymn;", true)
  | 1 => ("RansomHymn$Sale", "now", "LRansomHymn$World;", true)
  | 2 => ("RansomHymn$Sale", "laws", "LRansomHymn$Laws;", true)
  | 3 => ("RansomHymn$Sale", "owners", "[I", true)
  | 4 => ("RansomHymn$Sale", "prices", "[I", true)
  | _ => ("RansomHymn$Sale", "left", "[I", true)
def tyX7 : Nat → FieldType := fun k => match k with
  | 0 => .object "RansomHymn$Hymn"
  | 1 => .object "RansomHymn$World"
  | 2 => .object "RansomHymn$Laws"
  | 3 => .array .int
  | 4 => .array .int
  | _ => .array .int
abbrev wsX70 : List Cond := u_ws RX7 TX7 6
theorem nmX7 : ∀ a, a < 6 → ∀ b, b < 6 → a ≠ b → (TX7 a).2.1 ≠ (TX7 b).2.1 := by decide +kernel
theorem tyX7_ok : ∀ k, k < 6 → parseFieldDescriptor (TX7 k).2.2.1 = some (tyX7 k) := by decide +kernel
abbrev cX7_init : ByteArray := prog_9_method_1_code
def yX7_init : MethodName := ⟨RX7, "<init>", "(LRansomHymn$Hymn;LRansomHymn$World;LRansomHymn$Laws;)V"⟩
abbrev cX7_hold : ByteArray := prog_9_method_2_code
def yX7_hold : MethodName := ⟨RX7, "hold", "(I)I"⟩
abbrev cX7_sellVerse : ByteArray := prog_9_method_3_code
def yX7_sellVerse : MethodName := ⟨RX7, "sellVerse", "(I)V"⟩
def RX8 : String := "RansomHymn$Teller"
def TX8 : u_T := fun k => match k with
  | 0 => ("RansomHymn$Teller", "tokens", "LRansomHymn$Tokens;", true)
  | 1 => ("RansomHymn$Teller", "hymn", "LRansomHymn$Hymn;", true)
  | 2 => ("RansomHymn$Teller", "purseTold", "Z", false)
  | _ => ("RansomHymn$Teller", "seedTold", "Z", false)
def tyX8 : Nat → FieldType := fun k => match k with
  | 0 => .object "RansomHymn$Tokens"
  | 1 => .object "RansomHymn$Hymn"
  | 2 => .boolean
  | _ => .boolean
abbrev wsX80 : List Cond := u_ws RX8 TX8 4
theorem nmX8 : ∀ a, a < 4 → ∀ b, b < 4 → a ≠ b → (TX8 a).2.1 ≠ (TX8 b).2.1 := by decide +kernel
theorem tyX8_ok : ∀ k, k < 4 → parseFieldDescriptor (TX8 k).2.2.1 = some (tyX8 k) := by decide +kernel
abbrev cX8_init : ByteArray := prog_10_method_1_code
def yX8_init : MethodName := ⟨RX8, "<init>", "(LRansomHymn$Tokens;LRansomHymn$Hymn;)V"⟩
abbrev cX8_tell : ByteArray := prog_10_method_2_code
def yX8_tell : MethodName := ⟨RX8, "tell", "(I)I"⟩
abbrev cX8_readTavern : ByteArray := prog_10_method_3_code
def yX8_readTavern : MethodName := ⟨RX8, "readTavern", "()V"⟩
abbrev cX8_readVoice : ByteArray := prog_10_method_4_code
def yX8_readVoice : MethodName := ⟨RX8, "readVoice", "()V"⟩
abbrev cX8_readVerse : ByteArray := prog_10_method_5_code
def yX8_readVerse : MethodName := ⟨RX8, "readVerse", "()V"⟩
abbrev cX8_readPart : ByteArray := prog_10_method_6_code
def yX8_readPart : MethodName := ⟨RX8, "readPart", "(I)V"⟩
abbrev cX8_readBaker : ByteArray := prog_10_method_7_code
def yX8_readBaker : MethodName := ⟨RX8, "readBaker", "()V"⟩
abbrev cX8_loneNumber : ByteArray := prog_10_method_8_code
def yX8_loneNumber : MethodName := ⟨RX8, "loneNumber", "(ZI)I"⟩
abbrev cX8_readLaw : ByteArray := prog_10_method_9_code
def yX8_readLaw : MethodName := ⟨RX8, "readLaw", "()V"⟩
abbrev cX8_begin : ByteArray := prog_10_method_10_code
def yX8_begin : MethodName := ⟨RX8, "begin", "(LRansomHymn$Roll;)I"⟩
abbrev cX8_toldTavern : ByteArray := prog_10_method_11_code
def yX8_toldTavern : MethodName := ⟨RX8, "toldTavern", "()I"⟩
abbrev cX8_number : ByteArray := prog_10_method_12_code
def yX8_number : MethodName := ⟨RX8, "number", "(II)I"⟩
abbrev cX8_skips : ByteArray := prog_10_method_13_code
def yX8_skips : MethodName := ⟨RX8, "skips", "(I)Z"⟩
def RX9 : String := "RansomHymn$Tokens"
def TX9 : u_T := fun k => match k with
  | 0 => ("RansomHymn$Tokens", "bytes", "[B", true)
  | 1 => ("RansomHymn$Tokens", "words", "[I", true)
  | 2 => ("RansomHymn$Tokens", "end", "I", false)
  | 3 => ("RansomHymn$Tokens", "at", "I", false)
  | 4 => ("RansomHymn$Tokens", "kind", "I", false)
  | 5 => ("RansomHymn$Tokens", "place", "I", false)
  | 6 => ("RansomHymn$Tokens", "value", "I", false)
  | 7 => ("RansomHymn$Tokens", "faultKind", "I", false)
  | _ => ("RansomHymn$Tokens", "faultPlace", "I", false)
def tyX9 : Nat → FieldType := fun k => match k with
  | 0 => .array .byte
  | 1 => .array .int
  | 2 => .int
  | 3 => .int
  | 4 => .int
  | 5 => .int
  | 6 => .int
  | 7 => .int
  | _ => .int
abbrev wsX90 : List Cond := u_ws RX9 TX9 9
theorem nmX9 : ∀ a, a < 9 → ∀ b, b < 9 → a ≠ b → (TX9 a).2.1 ≠ (TX9 b).2.1 := by decide +kernel
theorem tyX9_ok : ∀ k, k < 9 → parseFieldDescriptor (TX9 k).2.2.1 = some (tyX9 k) := by decide +kernel
abbrev cX9_init : ByteArray := prog_11_method_1_code
def yX9_init : MethodName := ⟨RX9, "<init>", "([B)V"⟩
abbrev cX9_packWords : ByteArray := prog_11_method_2_code
def yX9_packWords : MethodName := ⟨RX9, "packWords", "(Ljava/lang/String;I)V"⟩
abbrev cX9_start : ByteArray := prog_11_method_3_code
def yX9_start : MethodName := ⟨RX9, "start", "(I)V"⟩
abbrev cX9_fail : ByteArray := prog_11_method_4_code
def yX9_fail : MethodName := ⟨RX9, "fail", "(I)Z"⟩
abbrev cX9_next : ByteArray := prog_11_method_5_code
def yX9_next : MethodName := ⟨RX9, "next", "()V"⟩
abbrev cX9_isLetter : ByteArray := prog_11_method_6_code
def yX9_isLetter : MethodName := ⟨RX9, "isLetter", "(I)Z"⟩
abbrev cX9_isDigit : ByteArray := prog_11_method_7_code
def yX9_isDigit : MethodName := ⟨RX9, "isDigit", "(I)Z"⟩
abbrev cX9_readWord : ByteArray := prog_11_method_8_code
def yX9_readWord : MethodName := ⟨RX9, "readWord", "()V"⟩
abbrev cX9_readNumber : ByteArray := prog_11_method_9_code
def yX9_readNumber : MethodName := ⟨RX9, "readNumber", "()V"⟩
abbrev cX9_readSign : ByteArray := prog_11_method_10_code
def yX9_readSign : MethodName := ⟨RX9, "readSign", "()V"⟩
abbrev cX9_signKind : ByteArray := prog_11_method_11_code
def yX9_signKind : MethodName := ⟨RX9, "signKind", "(II)I"⟩
def RX10 : String := "RansomHymn$World"
def TX10 : u_T := fun k => match k with
  | 0 => ("RansomHymn$World", "tills", "[I", true)
  | 1 => ("RansomHymn$World", "claims", "[I", true)
  | 2 => ("RansomHymn$World", "bakerPurses", "[I", true)
  | 3 => ("RansomHymn$World", "singers", "[I", true)
  | 4 => ("RansomHymn$World", "slots", "[I", true)
  | 5 => ("RansomHymn$World", "paid", "[I", true)
  | 6 => ("RansomHymn$World", "redeemed", "I", false)
  | 7 => ("RansomHymn$World", "week", "I", false)
  | 8 => ("RansomHymn$World", "purse", "I", false)
  | 9 => ("RansomHymn$World", "paidOut", "I", false)
  | 10 => ("RansomHymn$World", "cracked", "I", false)
  | 11 => ("RansomHymn$World", "knownBy", "I", false)
  | _ => ("RansomHymn$World", "random", "I", false)
def tyX10 : Nat → FieldType := fun k => match k with
  | 0 => .array .int
  | 1 => .array .int
  | 2 => .array .int
  | 3 => .array .int
  | 4 => .array .int
  | 5 => .array .int
  | 6 => .int
  | 7 => .int
  | 8 => .int
  | 9 => .int
  | 10 => .int
  | 11 => .int
  | _ => .int
abbrev wsX100 : List Cond := u_ws RX10 TX10 13
theorem nmX10 : ∀ a, a < 13 → ∀ b, b < 13 → a ≠ b → (TX10 a).2.1 ≠ (TX10 b).2.1 := by decide +kernel
theorem tyX10_ok : ∀ k, k < 13 → parseFieldDescriptor (TX10 k).2.2.1 = some (tyX10 k) := by decide +kernel
abbrev cX10_init : ByteArray := prog_12_method_1_code
def yX10_init : MethodName := ⟨RX10, "<init>", "()V"⟩
abbrev cX10_begin : ByteArray := prog_12_method_2_code
def yX10_begin : MethodName := ⟨RX10, "begin", "(LRansomHymn$Hymn;)V"⟩
abbrev cX10_take : ByteArray := prog_12_method_3_code
def yX10_take : MethodName := ⟨RX10, "take", "(LRansomHymn$World;)V"⟩
abbrev cX10_isCracked : ByteArray := prog_12_method_4_code
def yX10_isCracked : MethodName := ⟨RX10, "isCracked", "(I)Z"⟩
abbrev cX10_enlist : ByteArray := prog_12_method_5_code
def yX10_enlist : MethodName := ⟨RX10, "enlist", "(IIII)V"⟩
abbrev cX10_dismiss : ByteArray := prog_12_method_6_code
def yX10_dismiss : MethodName := ⟨RX10, "dismiss", "(I)V"⟩
abbrev cX10_dismissAll : ByteArray := prog_12_method_7_code
def yX10_dismissAll : MethodName := ⟨RX10, "dismissAll", "()V"⟩
abbrev cX10_nextNumber : ByteArray := prog_12_method_8_code
def yX10_nextNumber : MethodName := ⟨RX10, "nextNumber", "()I"⟩
abbrev cX10_allCoin : ByteArray := prog_12_method_9_code
def yX10_allCoin : MethodName := ⟨RX10, "allCoin", "()I"⟩
def RX11 : String := "RansomHymn"
def TX11 : u_T := fun k => match k with
  | 0 => ("RansomHymn", "tape", "[B", true)
  | 1 => ("RansomHymn", "hymn", "LRansomHymn$Hymn;", true)
  | 2 => ("RansomHymn", "draft", "LRansomHymn$Hymn;", true)
  | 3 => ("RansomHymn", "teller", "LRansomHymn$Teller;", true)
  | 4 => ("RansomHymn", "now", "LRansomHymn$World;", true)
  | 5 => ("RansomHymn", "image", "LRansomHymn$World;", true)
  | 6 => ("RansomHymn", "hums", "LRansomHymn$Hums;", true)
  | 7 => ("RansomHymn", "laws", "LRansomHymn$Laws;", true)
  | 8 => ("RansomHymn", "choice", "LRansomHymn$Choice;", true)
  | 9 => ("RansomHymn", "sale", "LRansomHymn$Sale;", true)
  | 10 => ("RansomHymn", "canon", "LRansomHymn$Canon;", true)
  | 11 => ("RansomHymn", "taped", "I", false)
  | 12 => ("RansomHymn", "faultKind", "I", false)
  | 13 => ("RansomHymn", "faultPlace", "I", false)
  | _ => ("RansomHymn", "kept", "Z", false)
def tyX11 : Nat → FieldType := fun k => match k with
  | 0 => .array .byte
  | 1 => .object "RansomHymn$Hymn"
  | 2 => .object "RansomHymn$Hymn"
  | 3 => .object "RansomHymn$Teller"
  | 4 => .object "RansomHymn$World"
  | 5 => .object "RansomHymn$World"
  | 6 => .object "RansomHymn$Hums"
  | 7 => .object "RansomHymn$Laws"
  | 8 => .object "RansomHymn$Choice"
  | 9 => .object "RansomHymn$Sale"
  | 10 => .object "RansomHymn$Canon"
  | 11 => .int
  | 12 => .int
  | 13 => .int
  | _ => .boolean
abbrev wsX110 : List Cond := u_ws RX11 TX11 15
theorem nmX11 : ∀ a, a < 15 → ∀ b, b < 15 → a ≠ b → (TX11 a).2.1 ≠ (TX11 b).2.1 := by decide +kernel
theorem tyX11_ok : ∀ k, k < 15 → parseFieldDescriptor (TX11 k).2.2.1 = some (tyX11 k) := by decide +kernel
abbrev cX11_init : ByteArray := prog_1_method_1_code
def yX11_init : MethodName := ⟨RX11, "<init>", "()V"⟩
abbrev cX11_feed : ByteArray := prog_1_method_2_code
def yX11_feed : MethodName := ⟨RX11, "feed", "(IIIII)I"⟩
abbrev cX11_text : ByteArray := prog_1_method_3_code
def yX11_text : MethodName := ⟨RX11, "text", "(I)I"⟩
abbrev cX11_fault : ByteArray := prog_1_method_4_code
def yX11_fault : MethodName := ⟨RX11, "fault", "(I)I"⟩
abbrev cX11_named : ByteArray := prog_1_method_5_code
def yX11_named : MethodName := ⟨RX11, "named", "(II)I"⟩
abbrev cX11_look : ByteArray := prog_1_method_6_code
def yX11_look : MethodName := ⟨RX11, "look", "(II)I"⟩
abbrev cX11_tavern : ByteArray := prog_1_method_7_code
def yX11_tavern : MethodName := ⟨RX11, "tavern", "(II)I"⟩
abbrev cX11_verse : ByteArray := prog_1_method_8_code
def yX11_verse : MethodName := ⟨RX11, "verse", "(II)I"⟩
abbrev cX11_pitch : ByteArray := prog_1_method_9_code
def yX11_pitch : MethodName := ⟨RX11, "pitch", "(III)I"⟩
abbrev cX11_due : ByteArray := prog_1_method_10_code
def yX11_due : MethodName := ⟨RX11, "due", "(III)I"⟩
abbrev cX11_sounds : ByteArray := prog_1_method_11_code
def yX11_sounds : MethodName := ⟨RX11, "sounds", "(III)I"⟩
abbrev cX11_bids : ByteArray := prog_1_method_12_code
def yX11_bids : MethodName := ⟨RX11, "bids", "(II)I"⟩
abbrev cX11_cracks : ByteArray := prog_1_method_13_code
def yX11_cracks : MethodName := ⟨RX11, "cracks", "(I)I"⟩
abbrev cX11_redeem : ByteArray := prog_1_method_14_code
def yX11_redeem : MethodName := ⟨RX11, "redeem", "(III)I"⟩
abbrev cX11_undo : ByteArray := prog_1_method_15_code
def yX11_undo : MethodName := ⟨RX11, "undo", "()I"⟩
abbrev cX11_sings : ByteArray := prog_1_method_16_code
def yX11_sings : MethodName := ⟨RX11, "sings", "(II)I"⟩
abbrev cX11_bar : ByteArray := prog_1_method_17_code
def yX11_bar : MethodName := ⟨RX11, "bar", "(II)I"⟩
abbrev cX11_sunday : ByteArray := prog_1_method_18_code
def yX11_sunday : MethodName := ⟨RX11, "sunday", "()I"⟩
abbrev cX11_best : ByteArray := prog_1_method_19_code
def yX11_best : MethodName := ⟨RX11, "best", "(II)I"⟩
abbrev cX11_chosen : ByteArray := prog_1_method_20_code
def yX11_chosen : MethodName := ⟨RX11, "chosen", "(III)I"⟩
abbrev cX11_sold : ByteArray := prog_1_method_21_code
def yX11_sold : MethodName := ⟨RX11, "sold", "(III)I"⟩
abbrev cX11_easter : ByteArray := prog_1_method_22_code
def yX11_easter : MethodName := ⟨RX11, "easter", "(I)I"⟩
abbrev cX11_hum : ByteArray := prog_1_method_23_code
def yX11_hum : MethodName := ⟨RX11, "hum", "(I)I"⟩
abbrev cX11_strike : ByteArray := prog_1_method_24_code
def yX11_strike : MethodName := ⟨RX11, "strike", "(I)I"⟩
abbrev cX11_known : ByteArray := prog_1_method_25_code
def yX11_known : MethodName := ⟨RX11, "known", "(I)Z"⟩
abbrev cX11_thieves : ByteArray := prog_1_method_26_code
def yX11_thieves : MethodName := ⟨RX11, "thieves", "()I"⟩
abbrev cX11_odds : ByteArray := prog_1_method_27_code
def yX11_odds : MethodName := ⟨RX11, "odds", "(II)I"⟩
abbrev cX11_gang : ByteArray := prog_1_method_28_code
def yX11_gang : MethodName := ⟨RX11, "gang", "()I"⟩
abbrev cX11_round : ByteArray := prog_1_method_29_code
def yX11_round : MethodName := ⟨RX11, "round", "(IIII)I"⟩
abbrev cX11_entry : ByteArray := prog_1_method_30_code
def yX11_entry : MethodName := ⟨RX11, "entry", "(IIIII)I"⟩
abbrev cX11_run : ByteArray := prog_1_method_31_code
def yX11_run : MethodName := ⟨RX11, "run", "(II)I"⟩
abbrev cX11_pay : ByteArray := prog_1_method_32_code
def yX11_pay : MethodName := ⟨RX11, "pay", "(I)I"⟩
abbrev cX11_whole : ByteArray := prog_1_method_33_code
def yX11_whole : MethodName := ⟨RX11, "whole", "(III)J"⟩
abbrev cX11_keep : ByteArray := prog_1_method_34_code
def yX11_keep : MethodName := ⟨RX11, "keep", "()I"⟩
abbrev cX11_back : ByteArray := prog_1_method_35_code
def yX11_back : MethodName := ⟨RX11, "back", "()I"⟩
abbrev cX11_count : ByteArray := prog_1_method_36_code
def yX11_count : MethodName := ⟨RX11, "count", "(I)I"⟩
abbrev cX11_slotOf : ByteArray := prog_1_method_37_code
def yX11_slotOf : MethodName := ⟨RX11, "slotOf", "(II)I"⟩
abbrev cX11_tapeNumber : ByteArray := prog_1_method_38_code
def yX11_tapeNumber : MethodName := ⟨RX11, "tapeNumber", "(I)V"⟩
abbrev cX11_claimsOn : ByteArray := prog_1_method_39_code
def yX11_claimsOn : MethodName := ⟨RX11, "claimsOn", "(I)I"⟩
abbrev cX11_singsIn : ByteArray := prog_1_method_40_code
def yX11_singsIn : MethodName := ⟨RX11, "singsIn", "(II)Z"⟩
abbrev cX11_singPart : ByteArray := prog_1_method_41_code
def yX11_singPart : MethodName := ⟨RX11, "singPart", "(I)I"⟩
abbrev cX11_crackBoys : ByteArray := prog_1_method_42_code
def yX11_crackBoys : MethodName := ⟨RX11, "crackBoys", "()V"⟩
abbrev cX11_knownCount : ByteArray := prog_1_method_43_code
def yX11_knownCount : MethodName := ⟨RX11, "knownCount", "()I"⟩
abbrev cX11_reachOf : ByteArray := prog_1_method_44_code
def yX11_reachOf : MethodName := ⟨RX11, "reachOf", "(I)J"⟩
abbrev cX11_isRound : ByteArray := prog_1_method_45_code
def yX11_isRound : MethodName := ⟨RX11, "isRound", "(IIII)Z"⟩
abbrev cX11_shareOf : ByteArray := prog_1_method_46_code
def yX11_shareOf : MethodName := ⟨RX11, "shareOf", "(II)I"⟩
abbrev cX11_leastTerm : ByteArray := prog_1_method_47_code
def yX11_leastTerm : MethodName := ⟨RX11, "leastTerm", "(JJI)J"⟩
def RX12 : String := "RansomHymnModel"
def TX12 : u_T := fun k => match k with
  | 0 => ("RansomHymnModel", "thrown", "I", false)
  | 1 => ("RansomHymnModel", "tape", "[I", true)
  | 2 => ("RansomHymnModel", "taped", "I", false)
  | 3 => ("RansomHymnModel", "number", "[I", true)
  | 4 => ("RansomHymnModel", "tavernName", "[I", true)
  | 5 => ("RansomHymnModel", "tavernRate", "[I", true)
  | 6 => ("RansomHymnModel", "tavernTill", "[I", true)
  | 7 => ("RansomHymnModel", "voiceName", "[I", true)
  | 8 => ("RansomHymnModel", "voiceLow", "[I", true)
  | 9 => ("RansomHymnModel", "voiceHigh", "[I", true)
  | 10 => ("RansomHymnModel", "isBoy", "[Z", true)
  | 11 => ("RansomHymnModel", "pawnAt", "[I", true)
  | 12 => ("RansomHymnModel", "voiceDebt", "[I", true)
  | 13 => ("RansomHymnModel", "voiceOdds", "[I", true)
  | 14 => ("RansomHymnModel", "verseName", "[I", true)
  | 15 => ("RansomHymnModel", "verseParts", "[I", true)
  | 16 => ("RansomHymnModel", "barMany", "[I", true)
  | 17 => ("RansomHymnModel", "pitches", "[I", true)
  | 18 => ("RansomHymnModel", "bakerName", "[I", true)
  | 19 => ("RansomHymnModel", "bakerPurse", "[I", true)
  | 20 => ("RansomHymnModel", "sumFrom", "[I", true)
  | 21 => ("RansomHymnModel", "sumTo", "[I", true)
  | 22 => ("RansomHymnModel", "knotSort", "[I", true)
  | 23 => ("RansomHymnModel", "knotValue", "[I", true)
  | 24 => ("RansomHymnModel", "told", "I", false)
  | 25 => ("RansomHymnModel", "lines", "I", false)
  | 26 => ("RansomHymnModel", "size", "I", false)
  | 27 => ("RansomHymnModel", "at", "I", false)
  | 28 => ("RansomHymnModel", "place", "I", false)
  | 29 => ("RansomHymnModel", "sort", "I", false)
  | 30 => ("RansomHymnModel", "value", "I", false)
  | 31 => ("RansomHymnModel", "fault", "I", false)
  | 32 => ("RansomHymnModel", "faultPlace", "I", false)
  | 33 => ("RansomHymnModel", "lastFault", "I", false)
  | 34 => ("RansomHymnModel", "lastPlace", "I", false)
  | 35 => ("RansomHymnModel", "open", "I", false)
  | 36 => ("RansomHymnModel", "counted", "I", false)
  | 37 => ("RansomHymnModel", "week", "[I", true)
  | 38 => ("RansomHymnModel", "purse", "[I", true)
  | 39 => ("RansomHymnModel", "drawn", "[I", true)
  | 40 => ("RansomHymnModel", "runsPaid", "[I", true)
  | 41 => ("RansomHymnModel", "cracked", "[I", true)
  | 42 => ("RansomHymnModel", "till", "[I", true)
  | 43 => ("RansomHymnModel", "bakerNow", "[I", true)
  | 44 => ("RansomHymnModel", "claim", "[I", true)
  | 45 => ("RansomHymnModel", "sung", "[I", true)
  | 46 => ("RansomHymnModel", "doneMany", "[I", true)
  | 47 => ("RansomHymnModel", "donePart", "[I", true)
  | 48 => ("RansomHymnModel", "donePaid", "[I", true)
  | 49 => ("RansomHymnModel", "hasImage", "Z", false)
  | 50 => ("RansomHymnModel", "names", "[J", true)
  | 51 => ("RansomHymnModel", "worked", "[J", true)
  | 52 => ("RansomHymnModel", "workedMany", "I", false)
  | 53 => ("RansomHymnModel", "bestNotes", "[I", true)
  | 54 => ("RansomHymnModel", "bestCrowns", "[I", true)
  | 55 => ("RansomHymnModel", "dues", "[I", true)
  | 56 => ("RansomHymnModel", "notesBy", "[I", true)
  | 57 => ("RansomHymnModel", "who", "[I", true)
  | 58 => ("RansomHymnModel", "leftOf", "[I", true)
  | 59 => ("RansomHymnModel", "soldTo", "I", false)
  | 60 => ("RansomHymnModel", "soldFor", "I", false)
  | 61 => ("RansomHymnModel", "heard", "I", false)
  | 62 => ("RansomHymnModel", "knownBy", "I", false)
  | 63 => ("RansomHymnModel", "humPitch", "[I", true)
  | 64 => ("RansomHymnModel", "humStrike", "[I", true)
  | 65 => ("RansomHymnModel", "isStruck", "[Z", true)
  | 66 => ("RansomHymnModel", "entries", "[I", true)
  | 67 => ("RansomHymnModel", "bestEntries", "[I", true)
  | _ => ("RansomHymnModel", "gaps", "I", false)
def tyX12 : Nat → FieldType := fun k => match k with
  | 0 => .int
  | 1 => .array .int
  | 2 => .int
  | 3 => .array .int
  | 4 => .array .int
  | 5 => .array .int
  | 6 => .array .int
  | 7 => .array .int
  | 8 => .array .int
  | 9 => .array .int
  | 10 => .array .boolean
  | 11 => .array .int
  | 12 => .array .int
  | 13 => .array .int
  | 14 => .array .int
  | 15 => .array .int
  | 16 => .array .int
  | 17 => .array .int
  | 18 => .array .int
  | 19 => .array .int
  | 20 => .array .int
  | 21 => .array .int
  | 22 => .array .int
  | 23 => .array .int
  | 24 => .int
  | 25 => .int
  | 26 => .int
  | 27 => .int
  | 28 => .int
  | 29 => .int
  | 30 => .int
  | 31 => .int
  | 32 => .int
  | 33 => .int
  | 34 => .int
  | 35 => .int
  | 36 => .int
  | 37 => .array .int
  | 38 => .array .int
  | 39 => .array .int
  | 40 => .array .int
  | 41 => .array .int
  | 42 => .array .int
  | 43 => .array .int
  | 44 => .array .int
  | 45 => .array .int
  | 46 => .array .int
  | 47 => .array .int
  | 48 => .array .int
  | 49 => .boolean
  | 50 => .array .long
  | 51 => .array .long
  | 52 => .int
  | 53 => .array .int
  | 54 => .array .int
  | 55 => .array .int
  | 56 => .array .int
  | 57 => .array .int
  | 58 => .array .int
  | 59 => .int
  | 60 => .int
  | 61 => .int
  | 62 => .int
  | 63 => .array .int
  | 64 => .array .int
  | 65 => .array .boolean
  | 66 => .array .int
  | 67 => .array .int
  | _ => .int
abbrev wsX120 : List Cond := u_ws RX12 TX12 69
theorem nmX12 : ∀ a, a < 69 → ∀ b, b < 69 → a ≠ b → (TX12 a).2.1 ≠ (TX12 b).2.1 := by decide +kernel
theorem tyX12_ok : ∀ k, k < 69 → parseFieldDescriptor (TX12 k).2.2.1 = some (tyX12 k) := by decide +kernel
abbrev cX12_init : ByteArray := prog_14_method_1_code
def yX12_init : MethodName := ⟨RX12, "<init>", "()V"⟩
abbrev cX12_thrown : ByteArray := prog_14_method_2_code
def yX12_thrown : MethodName := ⟨RX12, "thrown", "()I"⟩
abbrev cX12_feed : ByteArray := prog_14_method_3_code
def yX12_feed : MethodName := ⟨RX12, "feed", "(IIIII)I"⟩
abbrev cX12_here : ByteArray := prog_14_method_4_code
def yX12_here : MethodName := ⟨RX12, "here", "()I"⟩
abbrev cX12_isSmall : ByteArray := prog_14_method_5_code
def yX12_isSmall : MethodName := ⟨RX12, "isSmall", "(I)Z"⟩
abbrev cX12_isDigit : ByteArray := prog_14_method_6_code
def yX12_isDigit : MethodName := ⟨RX12, "isDigit", "(I)Z"⟩
abbrev cX12_token : ByteArray := prog_14_method_7_code
def yX12_token : MethodName := ⟨RX12, "token", "()V"⟩
abbrev cX12_sign : ByteArray := prog_14_method_8_code
def yX12_sign : MethodName := ⟨RX12, "sign", "(I)V"⟩
abbrev cX12_word : ByteArray := prog_14_method_9_code
def yX12_word : MethodName := ⟨RX12, "word", "()I"⟩
abbrev cX12_name : ByteArray := prog_14_method_10_code
def yX12_name : MethodName := ⟨RX12, "name", "()V"⟩
abbrev cX12_wrong : ByteArray := prog_14_method_11_code
def yX12_wrong : MethodName := ⟨RX12, "wrong", "(I)V"⟩
abbrev cX12_isWord : ByteArray := prog_14_method_12_code
def yX12_isWord : MethodName := ⟨RX12, "isWord", "(I)Z"⟩
abbrev cX12_isSign : ByteArray := prog_14_method_13_code
def yX12_isSign : MethodName := ⟨RX12, "isSign", "(I)Z"⟩
abbrev cX12_goOn : ByteArray := prog_14_method_14_code
def yX12_goOn : MethodName := ⟨RX12, "goOn", "()V"⟩
abbrev cX12_numeral : ByteArray := prog_14_method_15_code
def yX12_numeral : MethodName := ⟨RX12, "numeral", "(II)I"⟩
abbrev cX12_found : ByteArray := prog_14_method_16_code
def yX12_found : MethodName := ⟨RX12, "found", "([IIII)I"⟩
abbrev cX12_fresh : ByteArray := prog_14_method_17_code
def yX12_fresh : MethodName := ⟨RX12, "fresh", "([III)I"⟩
abbrev cX12_tavernAhead : ByteArray := prog_14_method_18_code
def yX12_tavernAhead : MethodName := ⟨RX12, "tavernAhead", "()I"⟩
abbrev cX12_fresher : ByteArray := prog_14_method_19_code
def yX12_fresher : MethodName := ⟨RX12, "fresher", "(I)I"⟩
abbrev cX12_reads : ByteArray := prog_14_method_20_code
def yX12_reads : MethodName := ⟨RX12, "reads", "(II)V"⟩
abbrev cX12_isFull : ByteArray := prog_14_method_21_code
def yX12_isFull : MethodName := ⟨RX12, "isFull", "(I)Z"⟩
abbrev cX12_line : ByteArray := prog_14_method_22_code
def yX12_line : MethodName := ⟨RX12, "line", "()V"⟩
abbrev cX12_sumOf : ByteArray := prog_14_method_23_code
def yX12_sumOf : MethodName := ⟨RX12, "sumOf", "(I)V"⟩
abbrev cX12_voiceLine : ByteArray := prog_14_method_24_code
def yX12_voiceLine : MethodName := ⟨RX12, "voiceLine", "(I)V"⟩
abbrev cX12_verseLine : ByteArray := prog_14_method_25_code
def yX12_verseLine : MethodName := ⟨RX12, "verseLine", "(I)V"⟩
abbrev cX12_partLine : ByteArray := prog_14_method_26_code
def yX12_partLine : MethodName := ⟨RX12, "partLine", "(I)V"⟩
abbrev cX12_lawLine : ByteArray := prog_14_method_27_code
def yX12_lawLine : MethodName := ⟨RX12, "lawLine", "()V"⟩
abbrev cX12_puts : ByteArray := prog_14_method_28_code
def yX12_puts : MethodName := ⟨RX12, "puts", "(II)V"⟩
abbrev cX12_knot : ByteArray := prog_14_method_29_code
def yX12_knot : MethodName := ⟨RX12, "knot", "()V"⟩
abbrev cX12_expression : ByteArray := prog_14_method_30_code
def yX12_expression : MethodName := ⟨RX12, "expression", "()V"⟩
abbrev cX12_conjunction : ByteArray := prog_14_method_31_code
def yX12_conjunction : MethodName := ⟨RX12, "conjunction", "()V"⟩
abbrev cX12_negation : ByteArray := prog_14_method_32_code
def yX12_negation : MethodName := ⟨RX12, "negation", "()V"⟩
abbrev cX12_sum : ByteArray := prog_14_method_33_code
def yX12_sum : MethodName := ⟨RX12, "sum", "()V"⟩
abbrev cX12_product : ByteArray := prog_14_method_34_code
def yX12_product : MethodName := ⟨RX12, "product", "()V"⟩
abbrev cX12_primary : ByteArray := prog_14_method_35_code
def yX12_primary : MethodName := ⟨RX12, "primary", "()V"⟩
abbrev cX12_half : ByteArray := prog_14_method_36_code
def yX12_half : MethodName := ⟨RX12, "half", "([I)V"⟩
abbrev cX12_text : ByteArray := prog_14_method_37_code
def yX12_text : MethodName := ⟨RX12, "text", "(I)I"⟩
abbrev cX12_fault : ByteArray := prog_14_method_38_code
def yX12_fault : MethodName := ⟨RX12, "fault", "(I)I"⟩
abbrev cX12_named : ByteArray := prog_14_method_39_code
def yX12_named : MethodName := ⟨RX12, "named", "(II)I"⟩
abbrev cX12_begins : ByteArray := prog_14_method_40_code
def yX12_begins : MethodName := ⟨RX12, "begins", "()V"⟩
abbrev cX12_copies : ByteArray := prog_14_method_41_code
def yX12_copies : MethodName := ⟨RX12, "copies", "(II)V"⟩
abbrev cX12_isTavern : ByteArray := prog_14_method_42_code
def yX12_isTavern : MethodName := ⟨RX12, "isTavern", "(I)Z"⟩
abbrev cX12_isVoice : ByteArray := prog_14_method_43_code
def yX12_isVoice : MethodName := ⟨RX12, "isVoice", "(I)Z"⟩
abbrev cX12_isVerse : ByteArray := prog_14_method_44_code
def yX12_isVerse : MethodName := ⟨RX12, "isVerse", "(I)Z"⟩
abbrev cX12_isPart : ByteArray := prog_14_method_45_code
def yX12_isPart : MethodName := ⟨RX12, "isPart", "(II)Z"⟩
abbrev cX12_isCracked : ByteArray := prog_14_method_46_code
def yX12_isCracked : MethodName := ⟨RX12, "isCracked", "(I)Z"⟩
abbrev cX12_look : ByteArray := prog_14_method_47_code
def yX12_look : MethodName := ⟨RX12, "look", "(II)I"⟩
abbrev cX12_tavern : ByteArray := prog_14_method_48_code
def yX12_tavern : MethodName := ⟨RX12, "tavern", "(II)I"⟩
abbrev cX12_verse : ByteArray := prog_14_method_49_code
def yX12_verse : MethodName := ⟨RX12, "verse", "(II)I"⟩
abbrev cX12_pitch : ByteArray := prog_14_method_50_code
def yX12_pitch : MethodName := ⟨RX12, "pitch", "(III)I"⟩
abbrev cX12_is : ByteArray := prog_14_method_51_code
def yX12_is : MethodName := ⟨RX12, "is", "(Z)J"⟩
abbrev cX12_works : ByteArray := prog_14_method_52_code
def yX12_works : MethodName := ⟨RX12, "works", "(I)Z"⟩
abbrev cX12_goes : ByteArray := prog_14_method_53_code
def yX12_goes : MethodName := ⟨RX12, "goes", "(I)Z"⟩
abbrev cX12_within : ByteArray := prog_14_method_54_code
def yX12_within : MethodName := ⟨RX12, "within", "(III)I"⟩
abbrev cX12_reaches : ByteArray := prog_14_method_55_code
def yX12_reaches : MethodName := ⟨RX12, "reaches", "(II)Z"⟩
abbrev cX12_isSounded : ByteArray := prog_14_method_56_code
def yX12_isSounded : MethodName := ⟨RX12, "isSounded", "(III)Z"⟩
abbrev cX12_soundsOf : ByteArray := prog_14_method_57_code
def yX12_soundsOf : MethodName := ⟨RX12, "soundsOf", "(II)I"⟩
abbrev cX12_restsOf : ByteArray := prog_14_method_58_code
def yX12_restsOf : MethodName := ⟨RX12, "restsOf", "(I)I"⟩
abbrev cX12_highOf : ByteArray := prog_14_method_59_code
def yX12_highOf : MethodName := ⟨RX12, "highOf", "(I)I"⟩
abbrev cX12_calls : ByteArray := prog_14_method_60_code
def yX12_calls : MethodName := ⟨RX12, "calls", "(I)V"⟩
abbrev cX12_dueOf : ByteArray := prog_14_method_61_code
def yX12_dueOf : MethodName := ⟨RX12, "dueOf", "(II)I"⟩
abbrev cX12_crackOf : ByteArray := prog_14_method_62_code
def yX12_crackOf : MethodName := ⟨RX12, "crackOf", "(II)I"⟩
abbrev cX12_bidOf : ByteArray := prog_14_method_63_code
def yX12_bidOf : MethodName := ⟨RX12, "bidOf", "(III)I"⟩
abbrev cX12_due : ByteArray := prog_14_method_64_code
def yX12_due : MethodName := ⟨RX12, "due", "(III)I"⟩
abbrev cX12_sounds : ByteArray := prog_14_method_65_code
def yX12_sounds : MethodName := ⟨RX12, "sounds", "(III)I"⟩
abbrev cX12_bids : ByteArray := prog_14_method_66_code
def yX12_bids : MethodName := ⟨RX12, "bids", "(II)I"⟩
abbrev cX12_cracks : ByteArray := prog_14_method_67_code
def yX12_cracks : MethodName := ⟨RX12, "cracks", "(I)I"⟩
abbrev cX12_singsIn : ByteArray := prog_14_method_68_code
def yX12_singsIn : MethodName := ⟨RX12, "singsIn", "(II)Z"⟩
abbrev cX12_redeem : ByteArray := prog_14_method_69_code
def yX12_redeem : MethodName := ⟨RX12, "redeem", "(III)I"⟩
abbrev cX12_undo : ByteArray := prog_14_method_70_code
def yX12_undo : MethodName := ⟨RX12, "undo", "()I"⟩
abbrev cX12_sings : ByteArray := prog_14_method_71_code
def yX12_sings : MethodName := ⟨RX12, "sings", "(II)I"⟩
abbrev cX12_bar : ByteArray := prog_14_method_72_code
def yX12_bar : MethodName := ⟨RX12, "bar", "(II)I"⟩
abbrev cX12_draw : ByteArray := prog_14_method_73_code
def yX12_draw : MethodName := ⟨RX12, "draw", "()I"⟩
abbrev cX12_sunday : ByteArray := prog_14_method_74_code
def yX12_sunday : MethodName := ⟨RX12, "sunday", "()I"⟩
abbrev cX12_layDues : ByteArray := prog_14_method_75_code
def yX12_layDues : MethodName := ⟨RX12, "layDues", "()V"⟩
abbrev cX12_costOf : ByteArray := prog_14_method_76_code
def yX12_costOf : MethodName := ⟨RX12, "costOf", "(I)I"⟩
abbrev cX12_gainOf : ByteArray := prog_14_method_77_code
def yX12_gainOf : MethodName := ⟨RX12, "gainOf", "(I)I"⟩
abbrev cX12_mayBe : ByteArray := prog_14_method_78_code
def yX12_mayBe : MethodName := ⟨RX12, "mayBe", "(I)Z"⟩
abbrev cX12_goesNext : ByteArray := prog_14_method_79_code
def yX12_goesNext : MethodName := ⟨RX12, "goesNext", "(I)Z"⟩
abbrev cX12_starts : ByteArray := prog_14_method_80_code
def yX12_starts : MethodName := ⟨RX12, "starts", "()V"⟩
abbrev cX12_layBest : ByteArray := prog_14_method_81_code
def yX12_layBest : MethodName := ⟨RX12, "layBest", "(I)V"⟩
abbrev cX12_tries : ByteArray := prog_14_method_82_code
def yX12_tries : MethodName := ⟨RX12, "tries", "(IIII)V"⟩
abbrev cX12_isCrowns : ByteArray := prog_14_method_83_code
def yX12_isCrowns : MethodName := ⟨RX12, "isCrowns", "(I)Z"⟩
abbrev cX12_best : ByteArray := prog_14_method_84_code
def yX12_best : MethodName := ⟨RX12, "best", "(II)I"⟩
abbrev cX12_chosen : ByteArray := prog_14_method_85_code
def yX12_chosen : MethodName := ⟨RX12, "chosen", "(III)I"⟩
abbrev cX12_isBest : ByteArray := prog_14_method_86_code
def yX12_isBest : MethodName := ⟨RX12, "isBest", "(II)Z"⟩
abbrev cX12_sells : ByteArray := prog_14_method_87_code
def yX12_sells : MethodName := ⟨RX12, "sells", "(II)I"⟩
abbrev cX12_areVerses : ByteArray := prog_14_method_88_code
def yX12_areVerses : MethodName := ⟨RX12, "areVerses", "(I)Z"⟩
abbrev cX12_sold : ByteArray := prog_14_method_89_code
def yX12_sold : MethodName := ⟨RX12, "sold", "(III)I"⟩
abbrev cX12_easter : ByteArray := prog_14_method_90_code
def yX12_easter : MethodName := ⟨RX12, "easter", "(I)I"⟩
abbrev cX12_hum : ByteArray := prog_14_method_91_code
def yX12_hum : MethodName := ⟨RX12, "hum", "(I)I"⟩
abbrev cX12_strike : ByteArray := prog_14_method_92_code
def yX12_strike : MethodName := ⟨RX12, "strike", "(I)I"⟩
abbrev cX12_known : ByteArray := prog_14_method_93_code
def yX12_known : MethodName := ⟨RX12, "known", "(I)Z"⟩
abbrev cX12_knownMany : ByteArray := prog_14_method_94_code
def yX12_knownMany : MethodName := ⟨RX12, "knownMany", "()I"⟩
abbrev cX12_strikes : ByteArray := prog_14_method_95_code
def yX12_strikes : MethodName := ⟨RX12, "strikes", "()V"⟩
abbrev cX12_isHummed : ByteArray := prog_14_method_96_code
def yX12_isHummed : MethodName := ⟨RX12, "isHummed", "(I)Z"⟩
abbrev cX12_isThief : ByteArray := prog_14_method_97_code
def yX12_isThief : MethodName := ⟨RX12, "isThief", "(I)Z"⟩
abbrev cX12_thieves : ByteArray := prog_14_method_98_code
def yX12_thieves : MethodName := ⟨RX12, "thieves", "()I"⟩
abbrev cX12_common : ByteArray := prog_14_method_99_code
def yX12_common : MethodName := ⟨RX12, "common", "(JJ)J"⟩
abbrev cX12_odds : ByteArray := prog_14_method_100_code
def yX12_odds : MethodName := ⟨RX12, "odds", "(II)I"⟩
abbrev cX12_isGang : ByteArray := prog_14_method_101_code
def yX12_isGang : MethodName := ⟨RX12, "isGang", "(I)Z"⟩
abbrev cX12_bitsOf : ByteArray := prog_14_method_102_code
def yX12_bitsOf : MethodName := ⟨RX12, "bitsOf", "(I)I"⟩
abbrev cX12_gang : ByteArray := prog_14_method_103_code
def yX12_gang : MethodName := ⟨RX12, "gang", "()I"⟩
abbrev cX12_rows : ByteArray := prog_14_method_104_code
def yX12_rows : MethodName := ⟨RX12, "rows", "(IIIII)V"⟩
abbrev cX12_isRound : ByteArray := prog_14_method_105_code
def yX12_isRound : MethodName := ⟨RX12, "isRound", "(II)Z"⟩
abbrev cX12_round : ByteArray := prog_14_method_106_code
def yX12_round : MethodName := ⟨RX12, "round", "(IIII)I"⟩
abbrev cX12_entry : ByteArray := prog_14_method_107_code
def yX12_entry : MethodName := ⟨RX12, "entry", "(IIIII)I"⟩
abbrev cX12_hasOf : ByteArray := prog_14_method_108_code
def yX12_hasOf : MethodName := ⟨RX12, "hasOf", "(II)I"⟩
abbrev cX12_run : ByteArray := prog_14_method_109_code
def yX12_run : MethodName := ⟨RX12, "run", "(II)I"⟩
abbrev cX12_pay : ByteArray := prog_14_method_110_code
def yX12_pay : MethodName := ⟨RX12, "pay", "(I)I"⟩
abbrev cX12_whole : ByteArray := prog_14_method_111_code
def yX12_whole : MethodName := ⟨RX12, "whole", "(III)J"⟩
abbrev cX12_keep : ByteArray := prog_14_method_112_code
def yX12_keep : MethodName := ⟨RX12, "keep", "()I"⟩
abbrev cX12_back : ByteArray := prog_14_method_113_code
def yX12_back : MethodName := ⟨RX12, "back", "()I"⟩
abbrev cX12_count : ByteArray := prog_14_method_114_code
def yX12_count : MethodName := ⟨RX12, "count", "(I)I"⟩
def RJx145de : String := "java/io/Serializable"
def TJx145de : u_T := fun k => match k with
  | _ => ("", "", "", false)
def tyJx145de : Nat → FieldType := fun k => match k with
  | _ => .int
abbrev wsJx145de0 : List Cond := u_ws RJx145de TJx145de 0
theorem nmJx145de : ∀ a, a < 0 → ∀ b, b < 0 → a ≠ b → (TJx145de a).2.1 ≠ (TJx145de b).2.1 := by decide +kernel
theorem tyJx145de_ok : ∀ k, k < 0 → parseFieldDescriptor (TJx145de k).2.2.1 = some (tyJx145de k) := by decide +kernel
def RJx9f9b0 : String := "java/lang/CharSequence"
def TJx9f9b0 : u_T := fun k => match k with
  | _ => ("", "", "", false)
def tyJx9f9b0 : Nat → FieldType := fun k => match k with
  | _ => .int
abbrev wsJx9f9b00 : List Cond := u_ws RJx9f9b0 TJx9f9b0 0
theorem nmJx9f9b0 : ∀ a, a < 0 → ∀ b, b < 0 → a ≠ b → (TJx9f9b0 a).2.1 ≠ (TJx9f9b0 b).2.1 := by decide +kernel
theorem tyJx9f9b0_ok : ∀ k, k < 0 → parseFieldDescriptor (TJx9f9b0 k).2.2.1 = some (tyJx9f9b0 k) := by decide +kernel
def RJxb160c : String := "java/lang/Comparable"
def TJxb160c : u_T := fun k => match k with
  | _ => ("", "", "", false)
def tyJxb160c : Nat → FieldType := fun k => match k with
  | _ => .int
abbrev wsJxb160c0 : List Cond := u_ws RJxb160c TJxb160c 0
theorem nmJxb160c : ∀ a, a < 0 → ∀ b, b < 0 → a ≠ b → (TJxb160c a).2.1 ≠ (TJxb160c b).2.1 := by decide +kernel
theorem tyJxb160c_ok : ∀ k, k < 0 → parseFieldDescriptor (TJxb160c k).2.2.1 = some (tyJxb160c k) := by decide +kernel
def RJ6 : String := "java/lang/Integer"
def TJ6 : u_T := fun k => match k with
  | _ => ("", "", "", false)
def tyJ6 : Nat → FieldType := fun k => match k with
  | _ => .int
abbrev wsJ60 : List Cond := u_ws RJ6 TJ6 0
theorem nmJ6 : ∀ a, a < 0 → ∀ b, b < 0 → a ≠ b → (TJ6 a).2.1 ≠ (TJ6 b).2.1 := by decide +kernel
theorem tyJ6_ok : ∀ k, k < 0 → parseFieldDescriptor (TJ6 k).2.2.1 = some (tyJ6 k) := by decide +kernel
abbrev cJ6_bitCount_0f7a4 : ByteArray := prog_20_method_49_code
def yJ6_bitCount_0f7a4 : MethodName := ⟨RJ6, "bitCount", "(I)I"⟩
def RJ13 : String := "java/lang/Long"
def TJ13 : u_T := fun k => match k with
  | _ => ("", "", "", false)
def tyJ13 : Nat → FieldType := fun k => match k with
  | _ => .int
abbrev wsJ130 : List Cond := u_ws RJ13 TJ13 0
theorem nmJ13 : ∀ a, a < 0 → ∀ b, b < 0 → a ≠ b → (TJ13 a).2.1 ≠ (TJ13 b).2.1 := by decide +kernel
theorem tyJ13_ok : ∀ k, k < 0 → parseFieldDescriptor (TJ13 k).2.2.1 = some (tyJ13 k) := by decide +kernel
abbrev cJ13_bitCount_95d88 : ByteArray := prog_21_method_50_code
def yJ13_bitCount_95d88 : MethodName := ⟨RJ13, "bitCount", "(J)I"⟩
def RJ9 : String := "java/lang/Math"
def TJ9 : u_T := fun k => match k with
  | _ => ("", "", "", false)
def tyJ9 : Nat → FieldType := fun k => match k with
  | _ => .int
abbrev wsJ90 : List Cond := u_ws RJ9 TJ9 0
theorem nmJ9 : ∀ a, a < 0 → ∀ b, b < 0 → a ≠ b → (TJ9 a).2.1 ≠ (TJ9 b).2.1 := by decide +kernel
theorem tyJ9_ok : ∀ k, k < 0 → parseFieldDescriptor (TJ9 k).2.2.1 = some (tyJ9 k) := by decide +kernel
abbrev cJ9_abs_067f4 : ByteArray := prog_22_method_61_code
def yJ9_abs_067f4 : MethodName := ⟨RJ9, "abs", "(J)J"⟩
abbrev cJ9_max_7cf53 : ByteArray := prog_22_method_65_code
def yJ9_max_7cf53 : MethodName := ⟨RJ9, "max", "(II)I"⟩
abbrev cJ9_max_f86c9 : ByteArray := prog_22_method_66_code
def yJ9_max_f86c9 : MethodName := ⟨RJ9, "max", "(JJ)J"⟩
abbrev cJ9_min_7cf53 : ByteArray := prog_22_method_69_code
def yJ9_min_7cf53 : MethodName := ⟨RJ9, "min", "(II)I"⟩
abbrev cJ9_min_f86c9 : ByteArray := prog_22_method_70_code
def yJ9_min_f86c9 : MethodName := ⟨RJ9, "min", "(JJ)J"⟩
def RJ0 : String := "java/lang/String"
def TJ0 : u_T := fun k => match k with
  | _ => ("", "", "", false)
def tyJ0 : Nat → FieldType := fun k => match k with
  | _ => .int
abbrev wsJ00 : List Cond := u_ws RJ0 TJ0 0
theorem nmJ0 : ∀ a, a < 0 → ∀ b, b < 0 → a ≠ b → (TJ0 a).2.1 ≠ (TJ0 b).2.1 := by decide +kernel
theorem tyJ0_ok : ∀ k, k < 0 → parseFieldDescriptor (TJ0 k).2.2.1 = some (tyJ0 k) := by decide +kernel
abbrev cJ0_length_8abf5 : ByteArray := prog_24_method_54_code
def yJ0_length_8abf5 : MethodName := ⟨RJ0, "length", "()I"⟩
abbrev cJ0_charAt_5068e : ByteArray := prog_24_method_56_code
def yJ0_charAt_5068e : MethodName := ⟨RJ0, "charAt", "(I)C"⟩
abbrev cJ0_coder_7d493 : ByteArray := prog_24_method_152_code
def yJ0_coder_7d493 : MethodName := ⟨RJ0, "coder", "()B"⟩
abbrev cJ0_isLatin1_aae02 : ByteArray := prog_24_method_154_code
def yJ0_isLatin1_aae02 : MethodName := ⟨RJ0, "isLatin1", "()Z"⟩
abbrev cJ0_checkIndex_df160 : ByteArray := prog_24_method_155_code
def yJ0_checkIndex_df160 : MethodName := ⟨RJ0, "checkIndex", "(II)V"⟩
def RJ1 : String := "java/lang/StringLatin1"
def TJ1 : u_T := fun k => match k with
  | _ => ("", "", "", false)
def tyJ1 : Nat → FieldType := fun k => match k with
  | _ => .int
abbrev wsJ10 : List Cond := u_ws RJ1 TJ1 0
theorem nmJ1 : ∀ a, a < 0 → ∀ b, b < 0 → a ≠ b → (TJ1 a).2.1 ≠ (TJ1 b).2.1 := by decide +kernel
theorem tyJ1_ok : ∀ k, k < 0 → parseFieldDescriptor (TJ1 k).2.2.1 = some (tyJ1 k) := by decide +kernel
abbrev cJ1_charAt_3b067 : ByteArray := prog_25_method_2_code
def yJ1_charAt_3b067 : MethodName := ⟨RJ1, "charAt", "([BI)C"⟩
def RJ2 : String := "java/lang/StringUTF16"
def TJ2 : u_T := fun k => match k with
  | _ => ("", "", "", false)
def tyJ2 : Nat → FieldType := fun k => match k with
  | _ => .int
abbrev wsJ20 : List Cond := u_ws RJ2 TJ2 0
theorem nmJ2 : ∀ a, a < 0 → ∀ b, b < 0 → a ≠ b → (TJ2 a).2.1 ≠ (TJ2 b).2.1 := by decide +kernel
theorem tyJ2_ok : ∀ k, k < 0 → parseFieldDescriptor (TJ2 k).2.2.1 = some (tyJ2 k) := by decide +kernel
abbrev cJ2_getChar_3b067 : ByteArray := prog_26_method_5_code
def yJ2_getChar_3b067 : MethodName := ⟨RJ2, "getChar", "([BI)C"⟩
abbrev cJ2_length_9d52b : ByteArray := prog_26_method_6_code
def yJ2_length_9d52b : MethodName := ⟨RJ2, "length", "([B)I"⟩
abbrev cJ2_charAt_3b067 : ByteArray := prog_26_method_83_code
def yJ2_charAt_3b067 : MethodName := ⟨RJ2, "charAt", "([BI)C"⟩
abbrev cJ2_checkIndex_2214a : ByteArray := prog_26_method_91_code
def yJ2_checkIndex_2214a : MethodName := ⟨RJ2, "checkIndex", "(I[B)V"⟩
def RJ10 : String := "java/lang/System"
def TJ10 : u_T := fun k => match k with
  | _ => ("", "", "", false)
def tyJ10 : Nat → FieldType := fun k => match k with
  | _ => .int
abbrev wsJ100 : List Cond := u_ws RJ10 TJ10 0
theorem nmJ10 : ∀ a, a < 0 → ∀ b, b < 0 → a ≠ b → (TJ10 a).2.1 ≠ (TJ10 b).2.1 := by decide +kernel
theorem tyJ10_ok : ∀ k, k < 0 → parseFieldDescriptor (TJ10 k).2.2.1 = some (tyJ10 k) := by decide +kernel
def RJxfd54e : String := "java/lang/constant/Constable"
def TJxfd54e : u_T := fun k => match k with
  | _ => ("", "", "", false)
def tyJxfd54e : Nat → FieldType := fun k => match k with
  | _ => .int
abbrev wsJxfd54e0 : List Cond := u_ws RJxfd54e TJxfd54e 0
theorem nmJxfd54e : ∀ a, a < 0 → ∀ b, b < 0 → a ≠ b → (TJxfd54e a).2.1 ≠ (TJxfd54e b).2.1 := by decide +kernel
theorem tyJxfd54e_ok : ∀ k, k < 0 → parseFieldDescriptor (TJxfd54e k).2.2.1 = some (tyJxfd54e k) := by decide +kernel
def RJx3cf43 : String := "java/lang/constant/ConstantDesc"
def TJx3cf43 : u_T := fun k => match k with
  | _ => ("", "", "", false)
def tyJx3cf43 : Nat → FieldType := fun k => match k with
  | _ => .int
abbrev wsJx3cf430 : List Cond := u_ws RJx3cf43 TJx3cf43 0
theorem nmJx3cf43 : ∀ a, a < 0 → ∀ b, b < 0 → a ≠ b → (TJx3cf43 a).2.1 ≠ (TJx3cf43 b).2.1 := by decide +kernel
theorem tyJx3cf43_ok : ∀ k, k < 0 → parseFieldDescriptor (TJx3cf43 k).2.2.1 = some (tyJx3cf43 k) := by decide +kernel
def RJ7 : String := "java/util/Arrays"
def TJ7 : u_T := fun k => match k with
  | _ => ("", "", "", false)
def tyJ7 : Nat → FieldType := fun k => match k with
  | _ => .int
abbrev wsJ70 : List Cond := u_ws RJ7 TJ7 0
theorem nmJ7 : ∀ a, a < 0 → ∀ b, b < 0 → a ≠ b → (TJ7 a).2.1 ≠ (TJ7 b).2.1 := by decide +kernel
theorem tyJ7_ok : ∀ k, k < 0 → parseFieldDescriptor (TJ7 k).2.2.1 = some (tyJ7 k) := by decide +kernel
abbrev cJ7_fill_53178 : ByteArray := prog_31_method_103_code
def yJ7_fill_53178 : MethodName := ⟨RJ7, "fill", "([II)V"⟩
def RJ3 : String := "jdk/internal/util/Preconditions"
def TJ3 : u_T := fun k => match k with
  | _ => ("", "", "", false)
def tyJ3 : Nat → FieldType := fun k => match k with
  | _ => .int
abbrev wsJ30 : List Cond := u_ws RJ3 TJ3 0
theorem nmJ3 : ∀ a, a < 0 → ∀ b, b < 0 → a ≠ b → (TJ3 a).2.1 ≠ (TJ3 b).2.1 := by decide +kernel
theorem tyJ3_ok : ∀ k, k < 0 → parseFieldDescriptor (TJ3 k).2.2.1 = some (tyJ3 k) := by decide +kernel
abbrev cJ3_checkIndex_8e157 : ByteArray := prog_33_method_11_code
def yJ3_checkIndex_8e157 : MethodName := ⟨RJ3, "checkIndex", "(IILjava/util/function/BiFunction;)I"⟩
def RL : String := "RansomHymnLaw"
abbrev cL_look : ByteArray := method_3_code
def yL_look : MethodName := ⟨RL, "look", "(LRansomHymn;II[J)I"⟩
abbrev cL_law : ByteArray := code
def yL_law : MethodName := ⟨RL, "law", "([I)Z"⟩
abbrev vwCl : List vw_C := [(RX0, TX0, 10), (RX1, TX1, 11), (RX2, TX2, 10), (RX3, TX3, 2), (RX4, TX4, 19), (RX5, TX5, 6), (RX6, TX6, 2), (RX7, TX7, 6), (RX8, TX8, 4), (RX9, TX9, 9), (RX10, TX10, 13), (RX11, TX11, 15), (RX12, TX12, 69)]
def xgt : List Cond := lw_tbl.filter goodWord
theorem xgt_good : ∀ w ∈ xgt, ((w.onTables && w.keeps) = true ∨ ∃ ty, w = .arrayClass ty) := fun w h => good_of_word (List.mem_filter.mp h).2
theorem xgt_in : ∀ w ∈ xgt, w ∈ lw_tbl := fun w h => (List.mem_filter.mp h).1
end
section
theorem dX11_init_0 : decode cX11_init 0 = .ok (.aload_n 0, 1) := by decide +kernel
theorem dX11_init_1 : decode cX11_init 1 = .ok (.invokespecial 3, 3) := by decide +kernel
theorem dX11_init_4 : decode cX11_init 4 = .ok (.aload_n 0, 1) := by decide +kernel
theorem dX11_init_5 : decode cX11_init 5 = .ok (.sipush 800, 3) := by decide +kernel
theorem dX11_init_8 : decode cX11_init 8 = .ok (.newarray .byte, 2) := by decide +kernel
theorem dX11_init_10 : decode cX11_init 10 = .ok (.putfield 9, 3) := by decide +kernel
theorem dX11_init_13 : decode cX11_init 13 = .ok (.aload_n 0, 1) := by decide +kernel
theorem dX11_init_14 : decode cX11_init 14 = .ok (.new 13, 3) := by decide +kernel
theorem dX11_init_17 : decode cX11_init 17 = .ok (.dup, 1) := by decide +kernel
theorem dX11_init_18 : decode cX11_init 18 = .ok (.invokespecial 15, 3) := by decide +kernel
theorem dX11_init_21 : decode cX11_init 21 = .ok (.putfield 16, 3) := by decide +kernel
theorem dX11_init_24 : decode cX11_init 24 = .ok (.aload_n 0, 1) := by decide +kernel
theorem dX11_init_25 : decode cX11_init 25 = .ok (.new 13, 3) := by decide +kernel
theorem dX11_init_28 : decode cX11_init 28 = .ok (.dup, 1) := by decide +kernel
theorem dX11_init_29 : decode cX11_init 29 = .ok (.invokespecial 15, 3) := by decide +kernel
theorem dX11_init_32 : decode cX11_init 32 = .ok (.putfield 20, 3) := by decide +kernel
theorem dX11_init_35 : decode cX11_init 35 = .ok (.aload_n 0, 1) := by decide +kernel
theorem dX11_init_36 : decode cX11_init 36 = .ok (.new 23, 3) := by decide +kernel
theorem dX11_init_39 : decode cX11_init 39 = .ok (.dup, 1) := by decide +kernel
theorem dX11_init_40 : decode cX11_init 40 = .ok (.new 25, 3) := by decide +kernel
theorem dX11_init_43 : decode cX11_init 43 = .ok (.dup, 1) := by decide +kernel
theorem dX11_init_44 : decode cX11_init 44 = .ok (.aload_n 0, 1) := by decide +kernel
theorem dX11_init_45 : decode cX11_init 45 = .ok (.getfield 9, 3) := by decide +kernel
theorem dX11_init_48 : decode cX11_init 48 = .ok (.invokespecial 27, 3) := by decide +kernel
theorem dX11_init_51 : decode cX11_init 51 = .ok (.aload_n 0, 1) := by decide +kernel
theorem dX11_init_52 : decode cX11_init 52 = .ok (.getfield 20, 3) := by decide +kernel
theorem dX11_init_55 : decode cX11_init 55 = .ok (.invokespecial 30, 3) := by decide +kernel
theorem dX11_init_58 : decode cX11_init 58 = .ok (.putfield 33, 3) := by decide +kernel
theorem dX11_init_61 : decode cX11_init 61 = .ok (.aload_n 0, 1) := by decide +kernel
theorem dX11_init_62 : decode cX11_init 62 = .ok (.new 37, 3) := by decide +kernel
theorem dX11_init_65 : decode cX11_init 65 = .ok (.dup, 1) := by decide +kernel
theorem dX11_init_66 : decode cX11_init 66 = .ok (.invokespecial 39, 3) := by decide +kernel
theorem dX11_init_69 : decode cX11_init 69 = .ok (.putfield 40, 3) := by decide +kernel
theorem dX11_init_72 : decode cX11_init 72 = .ok (.aload_n 0, 1) := by decide +kernel
theorem dX11_init_73 : decode cX11_init 73 = .ok (.new 37, 3) := by decide +kernel
theorem dX11_init_76 : decode cX11_init 76 = .ok (.dup, 1) := by decide +kernel
theorem dX11_init_77 : decode cX11_init 77 = .ok (.invokespecial 39, 3) := by decide +kernel
theorem dX11_init_80 : decode cX11_init 80 = .ok (.putfield 44, 3) := by decide +kernel
theorem dX11_init_83 : decode cX11_init 83 = .ok (.aload_n 0, 1) := by decide +kernel
theorem dX11_init_84 : decode cX11_init 84 = .ok (.new 47, 3) := by decide +kernel
theorem dX11_init_87 : decode cX11_init 87 = .ok (.dup, 1) := by decide +kernel
theorem dX11_init_88 : decode cX11_init 88 = .ok (.invokespecial 49, 3) := by decide +kernel
theorem dX11_init_91 : decode cX11_init 91 = .ok (.putfield 50, 3) := by decide +kernel
theorem dX11_init_94 : decode cX11_init 94 = .ok (.aload_n 0, 1) := by decide +kernel
theorem dX11_init_95 : decode cX11_init 95 = .ok (.new 54, 3) := by decide +kernel
theorem dX11_init_98 : decode cX11_init 98 = .ok (.dup, 1) := by decide +kernel
theorem dX11_init_99 : decode cX11_init 99 = .ok (.aload_n 0, 1) := by decide +kernel
theorem dX11_init_100 : decode cX11_init 100 = .ok (.getfield 16, 3) := by decide +kernel
theorem dX11_init_103 : decode cX11_init 103 = .ok (.aload_n 0, 1) := by decide +kernel
theorem dX11_init_104 : decode cX11_init 104 = .ok (.getfield 40, 3) := by decide +kernel
theorem dX11_init_107 : decode cX11_init 107 = .ok (.invokespecial 56, 3) := by decide +kernel
theorem dX11_init_110 : decode cX11_init 110 = .ok (.putfield 59, 3) := by decide +kernel
theorem dX11_init_113 : decode cX11_init 113 = .ok (.aload_n 0, 1) := by decide +kernel
theorem dX11_init_114 : decode cX11_init 114 = .ok (.new 63, 3) := by decide +kernel
theorem dX11_init_117 : decode cX11_init 117 = .ok (.dup, 1) := by decide +kernel
theorem dX11_init_118 : decode cX11_init 118 = .ok (.aload_n 0, 1) := by decide +kernel
theorem dX11_init_119 : decode cX11_init 119 = .ok (.getfield 16, 3) := by decide +kernel
theorem dX11_init_122 : decode cX11_init 122 = .ok (.aload_n 0, 1) := by decide +kernel
theorem dX11_init_123 : decode cX11_init 123 = .ok (.getfield 40, 3) := by decide +kernel
theorem dX11_init_126 : decode cX11_init 126 = .ok (.aload_n 0, 1) := by decide +kernel
theorem dX11_init_127 : decode cX11_init 127 = .ok (.getfield 59, 3) := by decide +kernel
theorem dX11_init_130 : decode cX11_init 130 = .ok (.invokespecial 65, 3) := by decide +kernel
theorem dX11_init_133 : decode cX11_init 133 = .ok (.putfield 68, 3) := by decide +kernel
theorem dX11_init_136 : decode cX11_init 136 = .ok (.aload_n 0, 1) := by decide +kernel
theorem dX11_init_137 : decode cX11_init 137 = .ok (.new 72, 3) := by decide +kernel
theorem dX11_init_140 : decode cX11_init 140 = .ok (.dup, 1) := by decide +kernel
theorem dX11_init_141 : decode cX11_init 141 = .ok (.aload_n 0, 1) := by decide +kernel
theorem dX11_init_142 : decode cX11_init 142 = .ok (.getfield 16, 3) := by decide +kernel
theorem dX11_init_145 : decode cX11_init 145 = .ok (.aload_n 0, 1) := by decide +kernel
theorem dX11_init_146 : decode cX11_init 146 = .ok (.getfield 40, 3) := by decide +kernel
theorem dX11_init_149 : decode cX11_init 149 = .ok (.aload_n 0, 1) := by decide +kernel
theorem dX11_init_150 : decode cX11_init 150 = .ok (.getfield 59, 3) := by decide +kernel
theorem dX11_init_153 : decode cX11_init 153 = .ok (.invokespecial 74, 3) := by decide +kernel
theorem dX11_init_156 : decode cX11_init 156 = .ok (.putfield 75, 3) := by decide +kernel
theorem dX11_init_159 : decode cX11_init 159 = .ok (.aload_n 0, 1) := by decide +kernel
theorem dX11_init_160 : decode cX11_init 160 = .ok (.new 79, 3) := by decide +kernel
theorem dX11_init_163 : decode cX11_init 163 = .ok (.dup, 1) := by decide +kernel
theorem dX11_init_164 : decode cX11_init 164 = .ok (.aload_n 0, 1) := by decide +kernel
theorem dX11_init_165 : decode cX11_init 165 = .ok (.getfield 16, 3) := by decide +kernel
theorem dX11_init_168 : decode cX11_init 168 = .ok (.aload_n 0, 1) := by decide +kernel
theorem dX11_init_169 : decode cX11_init 169 = .ok (.getfield 40, 3) := by decide +kernel
theorem dX11_init_172 : decode cX11_init 172 = .ok (.aload_n 0, 1) := by decide +kernel
theorem dX11_init_173 : decode cX11_init 173 = .ok (.getfield 59, 3) := by decide +kernel
theorem dX11_init_176 : decode cX11_init 176 = .ok (.invokespecial 81, 3) := by decide +kernel
theorem dX11_init_179 : decode cX11_init 179 = .ok (.putfield 82, 3) := by decide +kernel
theorem dX11_init_182 : decode cX11_init 182 = .ok (.aload_n 0, 1) := by decide +kernel
theorem dX11_init_183 : decode cX11_init 183 = .ok (.iconst 0, 1) := by decide +kernel
theorem dX11_init_184 : decode cX11_init 184 = .ok (.putfield 86, 3) := by decide +kernel
theorem dX11_init_187 : decode cX11_init 187 = .ok (.aload_n 0, 1) := by decide +kernel
theorem dX11_init_188 : decode cX11_init 188 = .ok (.iconst 0, 1) := by decide +kernel
theorem dX11_init_189 : decode cX11_init 189 = .ok (.putfield 90, 3) := by decide +kernel
theorem dX11_init_192 : decode cX11_init 192 = .ok (.aload_n 0, 1) := by decide +kernel
theorem dX11_init_193 : decode cX11_init 193 = .ok (.iconst (-1), 1) := by decide +kernel
theorem dX11_init_194 : decode cX11_init 194 = .ok (.putfield 93, 3) := by decide +kernel
theorem dX11_init_197 : decode cX11_init 197 = .ok (.aload_n 0, 1) := by decide +kernel
theorem dX11_init_198 : decode cX11_init 198 = .ok (.iconst 0, 1) := by decide +kernel
theorem dX11_init_199 : decode cX11_init 199 = .ok (.putfield 96, 3) := by decide +kernel
theorem dX11_init_202 : decode cX11_init 202 = .ok (.aload_n 0, 1) := by decide +kernel
theorem dX11_init_203 : decode cX11_init 203 = .ok (.getfield 40, 3) := by decide +kernel
theorem dX11_init_206 : decode cX11_init 206 = .ok (.aload_n 0, 1) := by decide +kernel
theorem dX11_init_207 : decode cX11_init 207 = .ok (.getfield 16, 3) := by decide +kernel
theorem dX11_init_210 : decode cX11_init 210 = .ok (.invokevirtual 100, 3) := by decide +kernel
theorem dX11_init_213 : decode cX11_init 213 = .ok (.return_, 1) := by decide +kernel
theorem dX11_back_0 : decode cX11_back 0 = .ok (.aload_n 0, 1) := by decide +kernel
theorem dX11_back_1 : decode cX11_back 1 = .ok (.getfield 96, 3) := by decide +kernel
theorem dX11_back_4 : decode cX11_back 4 = .ok (.ifCond .ne 5, 3) := by decide +kernel
theorem dX11_back_7 : decode cX11_back 7 = .ok (.iconst (-1), 1) := by decide +kernel
theorem dX11_back_8 : decode cX11_back 8 = .ok (.ireturn, 1) := by decide +kernel
theorem dX11_bar_0 : decode cX11_bar 0 = .ok (.aload_n 0, 1) := by decide +kernel
theorem dX11_bar_1 : decode cX11_bar 1 = .ok (.getfield 16, 3) := by decide +kernel
theorem dX11_bar_4 : decode cX11_bar 4 = .ok (.getfield 139, 3) := by decide +kernel
theorem dX11_bar_7 : decode cX11_bar 7 = .ok (.iload_n 1, 1) := by decide +kernel
theorem dX11_bar_8 : decode cX11_bar 8 = .ok (.invokevirtual 145, 3) := by decide +kernel
theorem dX11_bar_11 : decode cX11_bar 11 = .ok (.ifCond .eq 13, 3) := by decide +kernel
theorem dX11_bar_24 : decode cX11_bar 24 = .ok (.iconst (-1), 1) := by decide +kernel
theorem dX11_bar_25 : decode cX11_bar 25 = .ok (.ireturn, 1) := by decide +kernel
theorem dX11_best_0 : decode cX11_best 0 = .ok (.iload_n 1, 1) := by decide +kernel
theorem dX11_best_1 : decode cX11_best 1 = .ok (.ifCond .lt 19, 3) := by decide +kernel
theorem dX11_best_4 : decode cX11_best 4 = .ok (.iload_n 1, 1) := by decide +kernel
theorem dX11_best_5 : decode cX11_best 5 = .ok (.sipush 999, 3) := by decide +kernel
theorem dX11_best_8 : decode cX11_best 8 = .ok (.if_icmp .gt 12, 3) := by decide +kernel
theorem dX11_best_11 : decode cX11_best 11 = .ok (.iload_n 2, 1) := by decide +kernel
theorem dX11_best_12 : decode cX11_best 12 = .ok (.ifCond .lt 8, 3) := by decide +kernel
theorem dX11_best_15 : decode cX11_best 15 = .ok (.iload_n 2, 1) := by decide +kernel
theorem dX11_best_16 : decode cX11_best 16 = .ok (.iconst 1, 1) := by decide +kernel
theorem dX11_best_17 : decode cX11_best 17 = .ok (.if_icmp .le 5, 3) := by decide +kernel
theorem dX11_best_20 : decode cX11_best 20 = .ok (.iconst (-1), 1) := by decide +kernel
theorem dX11_best_21 : decode cX11_best 21 = .ok (.ireturn, 1) := by decide +kernel
theorem dX11_best_22 : decode cX11_best 22 = .ok (.aload_n 0, 1) := by decide +kernel
theorem dX11_best_23 : decode cX11_best 23 = .ok (.getfield 68, 3) := by decide +kernel
theorem dX11_best_26 : decode cX11_best 26 = .ok (.invokevirtual 267, 3) := by decide +kernel
theorem dX11_best_29 : decode cX11_best 29 = .ok (.aload_n 0, 1) := by decide +kernel
theorem dX11_best_30 : decode cX11_best 30 = .ok (.getfield 68, 3) := by decide +kernel
theorem dX11_best_33 : decode cX11_best 33 = .ok (.iload_n 1, 1) := by decide +kernel
theorem dX11_best_34 : decode cX11_best 34 = .ok (.invokevirtual 270, 3) := by decide +kernel
theorem dX11_best_37 : decode cX11_best 37 = .ok (.istore_n 3, 1) := by decide +kernel
theorem dX11_best_38 : decode cX11_best 38 = .ok (.iload_n 2, 1) := by decide +kernel
theorem dX11_best_39 : decode cX11_best 39 = .ok (.ifCond .ne 7, 3) := by decide +kernel
theorem dX11_best_42 : decode cX11_best 42 = .ok (.iload_n 3, 1) := by decide +kernel
theorem dX11_best_43 : decode cX11_best 43 = .ok (.goto 11, 3) := by decide +kernel
theorem dX11_best_46 : decode cX11_best 46 = .ok (.aload_n 0, 1) := by decide +kernel
theorem dX11_best_47 : decode cX11_best 47 = .ok (.getfield 68, 3) := by decide +kernel
theorem dX11_best_50 : decode cX11_best 50 = .ok (.iload_n 3, 1) := by decide +kernel
theorem dX11_best_51 : decode cX11_best 51 = .ok (.invokevirtual 273, 3) := by decide +kernel
theorem dX11_best_54 : decode cX11_best 54 = .ok (.ireturn, 1) := by decide +kernel
theorem dX11_bids_0 : decode cX11_bids 0 = .ok (.aload_n 0, 1) := by decide +kernel
theorem dX11_bids_1 : decode cX11_bids 1 = .ok (.getfield 16, 3) := by decide +kernel
theorem dX11_bids_4 : decode cX11_bids 4 = .ok (.getfield 142, 3) := by decide +kernel
theorem dX11_bids_7 : decode cX11_bids 7 = .ok (.iload_n 1, 1) := by decide +kernel
theorem dX11_bids_8 : decode cX11_bids 8 = .ok (.invokevirtual 145, 3) := by decide +kernel
theorem dX11_bids_11 : decode cX11_bids 11 = .ok (.ifCond .eq 17, 3) := by decide +kernel
theorem dX11_bids_28 : decode cX11_bids 28 = .ok (.iconst (-1), 1) := by decide +kernel
theorem dX11_bids_29 : decode cX11_bids 29 = .ok (.ireturn, 1) := by decide +kernel
theorem dX11_chosen_0 : decode cX11_chosen 0 = .ok (.iload_n 1, 1) := by decide +kernel
theorem dX11_chosen_1 : decode cX11_chosen 1 = .ok (.ifCond .lt 22, 3) := by decide +kernel
theorem dX11_chosen_4 : decode cX11_chosen 4 = .ok (.iload_n 1, 1) := by decide +kernel
theorem dX11_chosen_5 : decode cX11_chosen 5 = .ok (.sipush 999, 3) := by decide +kernel
theorem dX11_chosen_8 : decode cX11_chosen 8 = .ok (.if_icmp .gt 15, 3) := by decide +kernel
theorem dX11_chosen_11 : decode cX11_chosen 11 = .ok (.aload_n 0, 1) := by decide +kernel
theorem dX11_chosen_12 : decode cX11_chosen 12 = .ok (.getfield 16, 3) := by decide +kernel
theorem dX11_chosen_15 : decode cX11_chosen 15 = .ok (.iload_n 2, 1) := by decide +kernel
theorem dX11_chosen_16 : decode cX11_chosen 16 = .ok (.iload_n 3, 1) := by decide +kernel
theorem dX11_chosen_17 : decode cX11_chosen 17 = .ok (.invokevirtual 195, 3) := by decide +kernel
theorem dX11_chosen_20 : decode cX11_chosen 20 = .ok (.ifCond .ne 5, 3) := by decide +kernel
theorem dX11_chosen_23 : decode cX11_chosen 23 = .ok (.iconst (-1), 1) := by decide +kernel
theorem dX11_chosen_24 : decode cX11_chosen 24 = .ok (.ireturn, 1) := by decide +kernel
theorem dX11_count_0 : decode cX11_count 0 = .ok (.iload_n 1, 1) := by decide +kernel
theorem dX11_count_1 : decode cX11_count 1 = .ok (.tableswitch 174 0 11 #[63, 74, 85, 96, 107, 118, 126, 134, 142, 150, 155, 166], 63) := by decide +kernel
theorem dX11_count_64 : decode cX11_count 64 = .ok (.aload_n 0, 1) := by decide +kernel
theorem dX11_count_65 : decode cX11_count 65 = .ok (.getfield 16, 3) := by decide +kernel
theorem dX11_count_68 : decode cX11_count 68 = .ok (.getfield 127, 3) := by decide +kernel
theorem dX11_count_71 : decode cX11_count 71 = .ok (.getfield 292, 3) := by decide +kernel
theorem dX11_count_74 : decode cX11_count 74 = .ok (.ireturn, 1) := by decide +kernel
theorem dX11_count_75 : decode cX11_count 75 = .ok (.aload_n 0, 1) := by decide +kernel
theorem dX11_count_76 : decode cX11_count 76 = .ok (.getfield 16, 3) := by decide +kernel
theorem dX11_count_79 : decode cX11_count 79 = .ok (.getfield 136, 3) := by decide +kernel
theorem dX11_count_82 : decode cX11_count 82 = .ok (.getfield 292, 3) := by decide +kernel
theorem dX11_count_85 : decode cX11_count 85 = .ok (.ireturn, 1) := by decide +kernel
theorem dX11_count_86 : decode cX11_count 86 = .ok (.aload_n 0, 1) := by decide +kernel
theorem dX11_count_87 : decode cX11_count 87 = .ok (.getfield 16, 3) := by decide +kernel
theorem dX11_count_90 : decode cX11_count 90 = .ok (.getfield 139, 3) := by decide +kernel
theorem dX11_count_93 : decode cX11_count 93 = .ok (.getfield 292, 3) := by decide +kernel
theorem dX11_count_96 : decode cX11_count 96 = .ok (.ireturn, 1) := by decide +kernel
theorem dX11_count_97 : decode cX11_count 97 = .ok (.aload_n 0, 1) := by decide +kernel
theorem dX11_count_98 : decode cX11_count 98 = .ok (.getfield 16, 3) := by decide +kernel
theorem dX11_count_101 : decode cX11_count 101 = .ok (.getfield 142, 3) := by decide +kernel
theorem dX11_count_104 : decode cX11_count 104 = .ok (.getfield 292, 3) := by decide +kernel
theorem dX11_count_107 : decode cX11_count 107 = .ok (.ireturn, 1) := by decide +kernel
theorem dX11_count_108 : decode cX11_count 108 = .ok (.aload_n 0, 1) := by decide +kernel
theorem dX11_count_109 : decode cX11_count 109 = .ok (.getfield 16, 3) := by decide +kernel
theorem dX11_count_112 : decode cX11_count 112 = .ok (.getfield 357, 3) := by decide +kernel
theorem dX11_count_115 : decode cX11_count 115 = .ok (.getfield 361, 3) := by decide +kernel
theorem dX11_count_118 : decode cX11_count 118 = .ok (.ireturn, 1) := by decide +kernel
theorem dX11_count_119 : decode cX11_count 119 = .ok (.aload_n 0, 1) := by decide +kernel
theorem dX11_count_120 : decode cX11_count 120 = .ok (.getfield 40, 3) := by decide +kernel
theorem dX11_count_123 : decode cX11_count 123 = .ok (.getfield 227, 3) := by decide +kernel
theorem dX11_count_126 : decode cX11_count 126 = .ok (.ireturn, 1) := by decide +kernel
theorem dX11_count_127 : decode cX11_count 127 = .ok (.aload_n 0, 1) := by decide +kernel
theorem dX11_count_128 : decode cX11_count 128 = .ok (.getfield 40, 3) := by decide +kernel
theorem dX11_count_131 : decode cX11_count 131 = .ok (.getfield 239, 3) := by decide +kernel
theorem dX11_count_134 : decode cX11_count 134 = .ok (.ireturn, 1) := by decide +kernel
theorem dX11_count_135 : decode cX11_count 135 = .ok (.aload_n 0, 1) := by decide +kernel
theorem dX11_count_136 : decode cX11_count 136 = .ok (.getfield 40, 3) := by decide +kernel
theorem dX11_count_139 : decode cX11_count 139 = .ok (.getfield 246, 3) := by decide +kernel
theorem dX11_count_142 : decode cX11_count 142 = .ok (.ireturn, 1) := by decide +kernel
theorem dX11_count_143 : decode cX11_count 143 = .ok (.aload_n 0, 1) := by decide +kernel
theorem dX11_count_144 : decode cX11_count 144 = .ok (.getfield 50, 3) := by decide +kernel
theorem dX11_count_147 : decode cX11_count 147 = .ok (.getfield 121, 3) := by decide +kernel
theorem dX11_count_150 : decode cX11_count 150 = .ok (.ireturn, 1) := by decide +kernel
theorem dX11_count_151 : decode cX11_count 151 = .ok (.aload_n 0, 1) := by decide +kernel
theorem dX11_count_152 : decode cX11_count 152 = .ok (.invokevirtual 302, 3) := by decide +kernel
theorem dX11_count_155 : decode cX11_count 155 = .ok (.ireturn, 1) := by decide +kernel
theorem dX11_count_156 : decode cX11_count 156 = .ok (.aload_n 0, 1) := by decide +kernel
theorem dX11_count_157 : decode cX11_count 157 = .ok (.getfield 40, 3) := by decide +kernel
theorem dX11_count_160 : decode cX11_count 160 = .ok (.getfield 325, 3) := by decide +kernel
theorem dX11_count_163 : decode cX11_count 163 = .ok (.invokestatic 216, 3) := by decide +kernel
theorem dX11_count_166 : decode cX11_count 166 = .ok (.ireturn, 1) := by decide +kernel
theorem dX11_count_167 : decode cX11_count 167 = .ok (.aload_n 0, 1) := by decide +kernel
theorem dX11_count_168 : decode cX11_count 168 = .ok (.getfield 40, 3) := by decide +kernel
theorem dX11_count_171 : decode cX11_count 171 = .ok (.invokevirtual 364, 3) := by decide +kernel
theorem dX11_count_174 : decode cX11_count 174 = .ok (.ireturn, 1) := by decide +kernel
theorem dX11_count_175 : decode cX11_count 175 = .ok (.iconst (-1), 1) := by decide +kernel
theorem dX11_count_176 : decode cX11_count 176 = .ok (.ireturn, 1) := by decide +kernel
theorem dX11_crackBoys_0 : decode cX11_crackBoys 0 = .ok (.iconst 0, 1) := by decide +kernel
theorem dX11_crackBoys_1 : decode cX11_crackBoys 1 = .ok (.istore_n 1, 1) := by decide +kernel
theorem dX11_crackBoys_2 : decode cX11_crackBoys 2 = .ok (.iload_n 1, 1) := by decide +kernel
theorem dX11_crackBoys_3 : decode cX11_crackBoys 3 = .ok (.aload_n 0, 1) := by decide +kernel
theorem dX11_crackBoys_4 : decode cX11_crackBoys 4 = .ok (.getfield 16, 3) := by decide +kernel
theorem dX11_crackBoys_7 : decode cX11_crackBoys 7 = .ok (.getfield 136, 3) := by decide +kernel
theorem dX11_crackBoys_10 : decode cX11_crackBoys 10 = .ok (.getfield 292, 3) := by decide +kernel
theorem dX11_crackBoys_13 : decode cX11_crackBoys 13 = .ok (.if_icmp .ge 76, 3) := by decide +kernel
theorem dX11_crackBoys_89 : decode cX11_crackBoys 89 = .ok (.return_, 1) := by decide +kernel
theorem dX11_cracks_0 : decode cX11_cracks 0 = .ok (.aload_n 0, 1) := by decide +kernel
theorem dX11_cracks_1 : decode cX11_cracks 1 = .ok (.getfield 16, 3) := by decide +kernel
theorem dX11_cracks_4 : decode cX11_cracks 4 = .ok (.getfield 136, 3) := by decide +kernel
theorem dX11_cracks_7 : decode cX11_cracks 7 = .ok (.iload_n 1, 1) := by decide +kernel
theorem dX11_cracks_8 : decode cX11_cracks 8 = .ok (.invokevirtual 145, 3) := by decide +kernel
theorem dX11_cracks_11 : decode cX11_cracks 11 = .ok (.ifCond .eq 21, 3) := by decide +kernel
theorem dX11_cracks_32 : decode cX11_cracks 32 = .ok (.iconst (-1), 1) := by decide +kernel
theorem dX11_cracks_33 : decode cX11_cracks 33 = .ok (.ireturn, 1) := by decide +kernel
theorem dX11_due_0 : decode cX11_due 0 = .ok (.aload_n 0, 1) := by decide +kernel
theorem dX11_due_1 : decode cX11_due 1 = .ok (.getfield 16, 3) := by decide +kernel
theorem dX11_due_4 : decode cX11_due 4 = .ok (.iload_n 1, 1) := by decide +kernel
theorem dX11_due_5 : decode cX11_due 5 = .ok (.iload_n 2, 1) := by decide +kernel
theorem dX11_due_6 : decode cX11_due 6 = .ok (.invokevirtual 195, 3) := by decide +kernel
theorem dX11_due_9 : decode cX11_due 9 = .ok (.ifCond .eq 30, 3) := by decide +kernel
theorem dX11_due_39 : decode cX11_due 39 = .ok (.iconst (-1), 1) := by decide +kernel
theorem dX11_due_40 : decode cX11_due 40 = .ok (.ireturn, 1) := by decide +kernel
theorem dX11_easter_0 : decode cX11_easter 0 = .ok (.aload_n 0, 1) := by decide +kernel
theorem dX11_easter_1 : decode cX11_easter 1 = .ok (.getfield 16, 3) := by decide +kernel
theorem dX11_easter_4 : decode cX11_easter 4 = .ok (.iload_n 1, 1) := by decide +kernel
theorem dX11_easter_5 : decode cX11_easter 5 = .ok (.invokevirtual 280, 3) := by decide +kernel
theorem dX11_easter_8 : decode cX11_easter 8 = .ok (.ifCond .ne 5, 3) := by decide +kernel
theorem dX11_easter_11 : decode cX11_easter 11 = .ok (.iconst (-1), 1) := by decide +kernel
theorem dX11_easter_12 : decode cX11_easter 12 = .ok (.ireturn, 1) := by decide +kernel
theorem dX11_easter_13 : decode cX11_easter 13 = .ok (.aload_n 0, 1) := by decide +kernel
theorem dX11_easter_14 : decode cX11_easter 14 = .ok (.getfield 75, 3) := by decide +kernel
theorem dX11_easter_17 : decode cX11_easter 17 = .ok (.iload_n 1, 1) := by decide +kernel
theorem dX11_easter_18 : decode cX11_easter 18 = .ok (.invokevirtual 283, 3) := by decide +kernel
theorem dX11_easter_21 : decode cX11_easter 21 = .ok (.istore_n 2, 1) := by decide +kernel
theorem dX11_easter_22 : decode cX11_easter 22 = .ok (.iconst 0, 1) := by decide +kernel
theorem dX11_easter_23 : decode cX11_easter 23 = .ok (.istore_n 3, 1) := by decide +kernel
theorem dX11_easter_24 : decode cX11_easter 24 = .ok (.iload_n 3, 1) := by decide +kernel
theorem dX11_easter_25 : decode cX11_easter 25 = .ok (.aload_n 0, 1) := by decide +kernel
theorem dX11_easter_26 : decode cX11_easter 26 = .ok (.getfield 16, 3) := by decide +kernel
theorem dX11_easter_29 : decode cX11_easter 29 = .ok (.getfield 142, 3) := by decide +kernel
theorem dX11_easter_32 : decode cX11_easter 32 = .ok (.getfield 292, 3) := by decide +kernel
theorem dX11_easter_35 : decode cX11_easter 35 = .ok (.if_icmp .ge 27, 3) := by decide +kernel
theorem dX11_easter_62 : decode cX11_easter 62 = .ok (.aload_n 0, 1) := by decide +kernel
theorem dX11_easter_63 : decode cX11_easter 63 = .ok (.getfield 40, 3) := by decide +kernel
theorem dX11_easter_66 : decode cX11_easter 66 = .ok (.dup, 1) := by decide +kernel
theorem dX11_easter_67 : decode cX11_easter 67 = .ok (.getfield 239, 3) := by decide +kernel
theorem dX11_easter_70 : decode cX11_easter 70 = .ok (.iload_n 2, 1) := by decide +kernel
theorem dX11_easter_71 : decode cX11_easter 71 = .ok (.iadd, 1) := by decide +kernel
theorem dX11_easter_72 : decode cX11_easter 72 = .ok (.putfield 239, 3) := by decide +kernel
theorem dX11_easter_75 : decode cX11_easter 75 = .ok (.iload_n 2, 1) := by decide +kernel
theorem dX11_easter_76 : decode cX11_easter 76 = .ok (.ireturn, 1) := by decide +kernel
theorem dX11_entry_0 : decode cX11_entry 0 = .ok (.aload_n 0, 1) := by decide +kernel
theorem dX11_entry_1 : decode cX11_entry 1 = .ok (.iload_n 1, 1) := by decide +kernel
theorem dX11_entry_2 : decode cX11_entry 2 = .ok (.iload_n 2, 1) := by decide +kernel
theorem dX11_entry_3 : decode cX11_entry 3 = .ok (.iload_n 3, 1) := by decide +kernel
theorem dX11_entry_4 : decode cX11_entry 4 = .ok (.iload 4, 2) := by decide +kernel
theorem dX11_entry_6 : decode cX11_entry 6 = .ok (.invokevirtual 331, 3) := by decide +kernel
theorem dX11_entry_9 : decode cX11_entry 9 = .ok (.ifCond .eq 14, 3) := by decide +kernel
theorem dX11_entry_23 : decode cX11_entry 23 = .ok (.iconst (-1), 1) := by decide +kernel
theorem dX11_entry_24 : decode cX11_entry 24 = .ok (.ireturn, 1) := by decide +kernel
theorem dX11_fault_0 : decode cX11_fault 0 = .ok (.iload_n 1, 1) := by decide +kernel
theorem dX11_fault_1 : decode cX11_fault 1 = .ok (.lookupswitch 37 #[(0, 27), (1, 32)], 27) := by decide +kernel
theorem dX11_fault_28 : decode cX11_fault 28 = .ok (.aload_n 0, 1) := by decide +kernel
theorem dX11_fault_29 : decode cX11_fault 29 = .ok (.getfield 90, 3) := by decide +kernel
theorem dX11_fault_32 : decode cX11_fault 32 = .ok (.ireturn, 1) := by decide +kernel
theorem dX11_fault_33 : decode cX11_fault 33 = .ok (.aload_n 0, 1) := by decide +kernel
theorem dX11_fault_34 : decode cX11_fault 34 = .ok (.getfield 93, 3) := by decide +kernel
theorem dX11_fault_37 : decode cX11_fault 37 = .ok (.ireturn, 1) := by decide +kernel
theorem dX11_fault_38 : decode cX11_fault 38 = .ok (.iconst (-1), 1) := by decide +kernel
theorem dX11_fault_39 : decode cX11_fault 39 = .ok (.ireturn, 1) := by decide +kernel
theorem dX11_feed_0 : decode cX11_feed 0 = .ok (.aload_n 0, 1) := by decide +kernel
theorem dX11_feed_1 : decode cX11_feed 1 = .ok (.getfield 86, 3) := by decide +kernel
theorem dX11_feed_4 : decode cX11_feed 4 = .ok (.bipush 20, 2) := by decide +kernel
theorem dX11_feed_6 : decode cX11_feed 6 = .ok (.iadd, 1) := by decide +kernel
theorem dX11_feed_7 : decode cX11_feed 7 = .ok (.sipush 800, 3) := by decide +kernel
theorem dX11_feed_10 : decode cX11_feed 10 = .ok (.if_icmp .le 5, 3) := by decide +kernel
theorem dX11_feed_15 : decode cX11_feed 15 = .ok (.aload_n 0, 1) := by decide +kernel
theorem dX11_feed_16 : decode cX11_feed 16 = .ok (.iload_n 1, 1) := by decide +kernel
theorem dX11_feed_17 : decode cX11_feed 17 = .ok (.invokevirtual 104, 3) := by decide +kernel
theorem dX11_feed_20 : decode cX11_feed 20 = .ok (.aload_n 0, 1) := by decide +kernel
theorem dX11_feed_21 : decode cX11_feed 21 = .ok (.iload_n 2, 1) := by decide +kernel
theorem dX11_feed_22 : decode cX11_feed 22 = .ok (.invokevirtual 104, 3) := by decide +kernel
theorem dX11_feed_25 : decode cX11_feed 25 = .ok (.aload_n 0, 1) := by decide +kernel
theorem dX11_feed_26 : decode cX11_feed 26 = .ok (.iload_n 3, 1) := by decide +kernel
theorem dX11_feed_27 : decode cX11_feed 27 = .ok (.invokevirtual 104, 3) := by decide +kernel
theorem dX11_feed_30 : decode cX11_feed 30 = .ok (.aload_n 0, 1) := by decide +kernel
theorem dX11_feed_31 : decode cX11_feed 31 = .ok (.iload 4, 2) := by decide +kernel
theorem dX11_feed_33 : decode cX11_feed 33 = .ok (.invokevirtual 104, 3) := by decide +kernel
theorem dX11_feed_36 : decode cX11_feed 36 = .ok (.aload_n 0, 1) := by decide +kernel
theorem dX11_feed_37 : decode cX11_feed 37 = .ok (.iload 5, 2) := by decide +kernel
theorem dX11_feed_39 : decode cX11_feed 39 = .ok (.invokevirtual 104, 3) := by decide +kernel
theorem dX11_feed_42 : decode cX11_feed 42 = .ok (.aload_n 0, 1) := by decide +kernel
theorem dX11_feed_43 : decode cX11_feed 43 = .ok (.getfield 86, 3) := by decide +kernel
theorem dX11_feed_46 : decode cX11_feed 46 = .ok (.ireturn, 1) := by decide +kernel
theorem dX11_gang_0 : decode cX11_gang 0 = .ok (.aload_n 0, 1) := by decide +kernel
theorem dX11_gang_1 : decode cX11_gang 1 = .ok (.getfield 50, 3) := by decide +kernel
theorem dX11_gang_4 : decode cX11_gang 4 = .ok (.aload_n 0, 1) := by decide +kernel
theorem dX11_gang_5 : decode cX11_gang 5 = .ok (.invokevirtual 302, 3) := by decide +kernel
theorem dX11_gang_8 : decode cX11_gang 8 = .ok (.invokevirtual 306, 3) := by decide +kernel
theorem dX11_gang_11 : decode cX11_gang 11 = .ok (.lstore_n 1, 1) := by decide +kernel
theorem dX11_gang_12 : decode cX11_gang 12 = .ok (.bipush (-2), 2) := by decide +kernel
theorem dX11_gang_14 : decode cX11_gang 14 = .ok (.istore_n 3, 1) := by decide +kernel
theorem dX11_gang_15 : decode cX11_gang 15 = .ok (.bipush 7, 2) := by decide +kernel
theorem dX11_gang_17 : decode cX11_gang 17 = .ok (.istore 4, 2) := by decide +kernel
theorem dX11_gang_19 : decode cX11_gang 19 = .ok (.iconst 0, 1) := by decide +kernel
theorem dX11_gang_20 : decode cX11_gang 20 = .ok (.istore 5, 2) := by decide +kernel
theorem dX11_gang_22 : decode cX11_gang 22 = .ok (.iload 5, 2) := by decide +kernel
theorem dX11_gang_24 : decode cX11_gang 24 = .ok (.iconst 1, 1) := by decide +kernel
theorem dX11_gang_25 : decode cX11_gang 25 = .ok (.aload_n 0, 1) := by decide +kernel
theorem dX11_gang_26 : decode cX11_gang 26 = .ok (.getfield 16, 3) := by decide +kernel
theorem dX11_gang_29 : decode cX11_gang 29 = .ok (.getfield 136, 3) := by decide +kernel
theorem dX11_gang_32 : decode cX11_gang 32 = .ok (.getfield 292, 3) := by decide +kernel
theorem dX11_gang_35 : decode cX11_gang 35 = .ok (.ishl, 1) := by decide +kernel
theorem dX11_gang_36 : decode cX11_gang 36 = .ok (.if_icmp .ge 60, 3) := by decide +kernel
theorem dX11_gang_39 : decode cX11_gang 39 = .ok (.iload 5, 2) := by decide +kernel
theorem dX11_gang_41 : decode cX11_gang 41 = .ok (.invokestatic 216, 3) := by decide +kernel
theorem dX11_gang_44 : decode cX11_gang 44 = .ok (.istore 6, 2) := by decide +kernel
theorem dX11_gang_46 : decode cX11_gang 46 = .ok (.iload 6, 2) := by decide +kernel
theorem dX11_gang_48 : decode cX11_gang 48 = .ok (.iload 4, 2) := by decide +kernel
theorem dX11_gang_50 : decode cX11_gang 50 = .ok (.if_icmp .ge 40, 3) := by decide +kernel
theorem dX11_gang_53 : decode cX11_gang 53 = .ok (.iload 5, 2) := by decide +kernel
theorem dX11_gang_55 : decode cX11_gang 55 = .ok (.aload_n 0, 1) := by decide +kernel
theorem dX11_gang_56 : decode cX11_gang 56 = .ok (.getfield 40, 3) := by decide +kernel
theorem dX11_gang_59 : decode cX11_gang 59 = .ok (.getfield 325, 3) := by decide +kernel
theorem dX11_gang_62 : decode cX11_gang 62 = .ok (.iand, 1) := by decide +kernel
theorem dX11_gang_63 : decode cX11_gang 63 = .ok (.ifCond .ne 27, 3) := by decide +kernel
theorem dX11_gang_66 : decode cX11_gang 66 = .ok (.lload_n 1, 1) := by decide +kernel
theorem dX11_gang_67 : decode cX11_gang 67 = .ok (.aload_n 0, 1) := by decide +kernel
theorem dX11_gang_68 : decode cX11_gang 68 = .ok (.iload 5, 2) := by decide +kernel
theorem dX11_gang_70 : decode cX11_gang 70 = .ok (.invokevirtual 328, 3) := by decide +kernel
theorem dX11_gang_73 : decode cX11_gang 73 = .ok (.ldc2_w 313, 3) := by decide +kernel
theorem dX11_gang_76 : decode cX11_gang 76 = .ok (.lxor, 1) := by decide +kernel
theorem dX11_gang_77 : decode cX11_gang 77 = .ok (.land, 1) := by decide +kernel
theorem dX11_gang_78 : decode cX11_gang 78 = .ok (.lconst 0, 1) := by decide +kernel
theorem dX11_gang_79 : decode cX11_gang 79 = .ok (.lcmp, 1) := by decide +kernel
theorem dX11_gang_80 : decode cX11_gang 80 = .ok (.ifCond .ne 10, 3) := by decide +kernel
theorem dX11_gang_83 : decode cX11_gang 83 = .ok (.iload 6, 2) := by decide +kernel
theorem dX11_gang_85 : decode cX11_gang 85 = .ok (.istore 4, 2) := by decide +kernel
theorem dX11_gang_87 : decode cX11_gang 87 = .ok (.iload 5, 2) := by decide +kernel
theorem dX11_gang_89 : decode cX11_gang 89 = .ok (.istore_n 3, 1) := by decide +kernel
theorem dX11_gang_90 : decode cX11_gang 90 = .ok (.iinc 5 1, 3) := by decide +kernel
theorem dX11_gang_93 : decode cX11_gang 93 = .ok (.goto (-71), 3) := by decide +kernel
theorem dX11_gang_96 : decode cX11_gang 96 = .ok (.iload_n 3, 1) := by decide +kernel
theorem dX11_gang_97 : decode cX11_gang 97 = .ok (.ireturn, 1) := by decide +kernel
theorem dX11_hum_0 : decode cX11_hum 0 = .ok (.iload_n 1, 1) := by decide +kernel
theorem dX11_hum_1 : decode cX11_hum 1 = .ok (.iconst 1, 1) := by decide +kernel
theorem dX11_hum_2 : decode cX11_hum 2 = .ok (.if_icmp .lt 20, 3) := by decide +kernel
theorem dX11_hum_5 : decode cX11_hum 5 = .ok (.iload_n 1, 1) := by decide +kernel
theorem dX11_hum_6 : decode cX11_hum 6 = .ok (.bipush 40, 2) := by decide +kernel
theorem dX11_hum_8 : decode cX11_hum 8 = .ok (.if_icmp .gt 14, 3) := by decide +kernel
theorem dX11_hum_11 : decode cX11_hum 11 = .ok (.aload_n 0, 1) := by decide +kernel
theorem dX11_hum_12 : decode cX11_hum 12 = .ok (.getfield 50, 3) := by decide +kernel
theorem dX11_hum_15 : decode cX11_hum 15 = .ok (.iload_n 1, 1) := by decide +kernel
theorem dX11_hum_16 : decode cX11_hum 16 = .ok (.invokevirtual 296, 3) := by decide +kernel
theorem dX11_hum_19 : decode cX11_hum 19 = .ok (.goto 4, 3) := by decide +kernel
theorem dX11_hum_22 : decode cX11_hum 22 = .ok (.iconst (-1), 1) := by decide +kernel
theorem dX11_hum_23 : decode cX11_hum 23 = .ok (.ireturn, 1) := by decide +kernel
theorem dX11_isRound_0 : decode cX11_isRound 0 = .ok (.aload_n 0, 1) := by decide +kernel
theorem dX11_isRound_1 : decode cX11_isRound 1 = .ok (.getfield 16, 3) := by decide +kernel
theorem dX11_isRound_4 : decode cX11_isRound 4 = .ok (.iload_n 1, 1) := by decide +kernel
theorem dX11_isRound_5 : decode cX11_isRound 5 = .ok (.iload_n 2, 1) := by decide +kernel
theorem dX11_isRound_6 : decode cX11_isRound 6 = .ok (.invokevirtual 195, 3) := by decide +kernel
theorem dX11_isRound_9 : decode cX11_isRound 9 = .ok (.ifCond .eq 30, 3) := by decide +kernel
theorem dX11_isRound_39 : decode cX11_isRound 39 = .ok (.iconst 0, 1) := by decide +kernel
theorem dX11_isRound_40 : decode cX11_isRound 40 = .ok (.ireturn, 1) := by decide +kernel
theorem dX11_keep_0 : decode cX11_keep 0 = .ok (.aload_n 0, 1) := by decide +kernel
theorem dX11_keep_1 : decode cX11_keep 1 = .ok (.getfield 44, 3) := by decide +kernel
theorem dX11_keep_4 : decode cX11_keep 4 = .ok (.aload_n 0, 1) := by decide +kernel
theorem dX11_keep_5 : decode cX11_keep 5 = .ok (.getfield 40, 3) := by decide +kernel
theorem dX11_keep_8 : decode cX11_keep 8 = .ok (.invokevirtual 354, 3) := by decide +kernel
theorem dX11_keep_11 : decode cX11_keep 11 = .ok (.aload_n 0, 1) := by decide +kernel
theorem dX11_keep_12 : decode cX11_keep 12 = .ok (.iconst 1, 1) := by decide +kernel
theorem dX11_keep_13 : decode cX11_keep 13 = .ok (.putfield 96, 3) := by decide +kernel
theorem dX11_keep_16 : decode cX11_keep 16 = .ok (.aload_n 0, 1) := by decide +kernel
theorem dX11_keep_17 : decode cX11_keep 17 = .ok (.getfield 40, 3) := by decide +kernel
theorem dX11_keep_20 : decode cX11_keep 20 = .ok (.getfield 227, 3) := by decide +kernel
theorem dX11_keep_23 : decode cX11_keep 23 = .ok (.ireturn, 1) := by decide +kernel
theorem dX11_known_0 : decode cX11_known 0 = .ok (.iload_n 1, 1) := by decide +kernel
theorem dX11_known_1 : decode cX11_known 1 = .ok (.iconst (-1), 1) := by decide +kernel
theorem dX11_known_2 : decode cX11_known 2 = .ok (.if_icmp .lt 14, 3) := by decide +kernel
theorem dX11_known_5 : decode cX11_known 5 = .ok (.iload_n 1, 1) := by decide +kernel
theorem dX11_known_6 : decode cX11_known 6 = .ok (.aload_n 0, 1) := by decide +kernel
theorem dX11_known_7 : decode cX11_known 7 = .ok (.getfield 50, 3) := by decide +kernel
theorem dX11_known_10 : decode cX11_known 10 = .ok (.getfield 121, 3) := by decide +kernel
theorem dX11_known_13 : decode cX11_known 13 = .ok (.if_icmp .le 5, 3) := by decide +kernel
theorem dX11_known_16 : decode cX11_known 16 = .ok (.iconst 0, 1) := by decide +kernel
theorem dX11_known_17 : decode cX11_known 17 = .ok (.ireturn, 1) := by decide +kernel
theorem dX11_known_18 : decode cX11_known 18 = .ok (.aload_n 0, 1) := by decide +kernel
theorem dX11_known_19 : decode cX11_known 19 = .ok (.getfield 40, 3) := by decide +kernel
theorem dX11_known_22 : decode cX11_known 22 = .ok (.iload_n 1, 1) := by decide +kernel
theorem dX11_known_23 : decode cX11_known 23 = .ok (.putfield 299, 3) := by decide +kernel
theorem dX11_known_26 : decode cX11_known 26 = .ok (.iconst 1, 1) := by decide +kernel
theorem dX11_known_27 : decode cX11_known 27 = .ok (.ireturn, 1) := by decide +kernel
theorem dX11_knownCount_0 : decode cX11_knownCount 0 = .ok (.aload_n 0, 1) := by decide +kernel
theorem dX11_knownCount_1 : decode cX11_knownCount 1 = .ok (.getfield 40, 3) := by decide +kernel
theorem dX11_knownCount_4 : decode cX11_knownCount 4 = .ok (.getfield 299, 3) := by decide +kernel
theorem dX11_knownCount_7 : decode cX11_knownCount 7 = .ok (.iconst (-1), 1) := by decide +kernel
theorem dX11_knownCount_8 : decode cX11_knownCount 8 = .ok (.if_icmp .ne 13, 3) := by decide +kernel
theorem dX11_knownCount_11 : decode cX11_knownCount 11 = .ok (.aload_n 0, 1) := by decide +kernel
theorem dX11_knownCount_12 : decode cX11_knownCount 12 = .ok (.getfield 50, 3) := by decide +kernel
theorem dX11_knownCount_15 : decode cX11_knownCount 15 = .ok (.getfield 121, 3) := by decide +kernel
theorem dX11_knownCount_18 : decode cX11_knownCount 18 = .ok (.goto 10, 3) := by decide +kernel
theorem dX11_knownCount_28 : decode cX11_knownCount 28 = .ok (.ireturn, 1) := by decide +kernel
theorem dX11_named_0 : decode cX11_named 0 = .ok (.iload_n 1, 1) := by decide +kernel
theorem dX11_named_1 : decode cX11_named 1 = .ok (.tableswitch 79 0 3 #[31, 43, 55, 67], 31) := by decide +kernel
theorem dX11_named_32 : decode cX11_named 32 = .ok (.aload_n 0, 1) := by decide +kernel
theorem dX11_named_33 : decode cX11_named 33 = .ok (.getfield 16, 3) := by decide +kernel
theorem dX11_named_36 : decode cX11_named 36 = .ok (.getfield 127, 3) := by decide +kernel
theorem dX11_named_39 : decode cX11_named 39 = .ok (.iload_n 2, 1) := by decide +kernel
theorem dX11_named_40 : decode cX11_named 40 = .ok (.invokevirtual 131, 3) := by decide +kernel
theorem dX11_named_43 : decode cX11_named 43 = .ok (.ireturn, 1) := by decide +kernel
theorem dX11_named_44 : decode cX11_named 44 = .ok (.aload_n 0, 1) := by decide +kernel
theorem dX11_named_45 : decode cX11_named 45 = .ok (.getfield 16, 3) := by decide +kernel
theorem dX11_named_48 : decode cX11_named 48 = .ok (.getfield 136, 3) := by decide +kernel
theorem dX11_named_51 : decode cX11_named 51 = .ok (.iload_n 2, 1) := by decide +kernel
theorem dX11_named_52 : decode cX11_named 52 = .ok (.invokevirtual 131, 3) := by decide +kernel
theorem dX11_named_55 : decode cX11_named 55 = .ok (.ireturn, 1) := by decide +kernel
theorem dX11_named_56 : decode cX11_named 56 = .ok (.aload_n 0, 1) := by decide +kernel
theorem dX11_named_57 : decode cX11_named 57 = .ok (.getfield 16, 3) := by decide +kernel
theorem dX11_named_60 : decode cX11_named 60 = .ok (.getfield 139, 3) := by decide +kernel
theorem dX11_named_63 : decode cX11_named 63 = .ok (.iload_n 2, 1) := by decide +kernel
theorem dX11_named_64 : decode cX11_named 64 = .ok (.invokevirtual 131, 3) := by decide +kernel
theorem dX11_named_67 : decode cX11_named 67 = .ok (.ireturn, 1) := by decide +kernel
theorem dX11_named_68 : decode cX11_named 68 = .ok (.aload_n 0, 1) := by decide +kernel
theorem dX11_named_69 : decode cX11_named 69 = .ok (.getfield 16, 3) := by decide +kernel
theorem dX11_named_72 : decode cX11_named 72 = .ok (.getfield 142, 3) := by decide +kernel
theorem dX11_named_75 : decode cX11_named 75 = .ok (.iload_n 2, 1) := by decide +kernel
theorem dX11_named_76 : decode cX11_named 76 = .ok (.invokevirtual 131, 3) := by decide +kernel
theorem dX11_named_79 : decode cX11_named 79 = .ok (.ireturn, 1) := by decide +kernel
theorem dX11_named_80 : decode cX11_named 80 = .ok (.iconst (-1), 1) := by decide +kernel
theorem dX11_named_81 : decode cX11_named 81 = .ok (.ireturn, 1) := by decide +kernel
theorem dX11_odds_0 : decode cX11_odds 0 = .ok (.aload_n 0, 1) := by decide +kernel
theorem dX11_odds_1 : decode cX11_odds 1 = .ok (.getfield 16, 3) := by decide +kernel
theorem dX11_odds_4 : decode cX11_odds 4 = .ok (.getfield 136, 3) := by decide +kernel
theorem dX11_odds_7 : decode cX11_odds 7 = .ok (.iload_n 1, 1) := by decide +kernel
theorem dX11_odds_8 : decode cX11_odds 8 = .ok (.invokevirtual 145, 3) := by decide +kernel
theorem dX11_odds_11 : decode cX11_odds 11 = .ok (.ifCond .eq 12, 3) := by decide +kernel
theorem dX11_odds_23 : decode cX11_odds 23 = .ok (.iconst (-1), 1) := by decide +kernel
theorem dX11_odds_24 : decode cX11_odds 24 = .ok (.ireturn, 1) := by decide +kernel
theorem dX11_pay_0 : decode cX11_pay 0 = .ok (.aload_n 0, 1) := by decide +kernel
theorem dX11_pay_1 : decode cX11_pay 1 = .ok (.getfield 16, 3) := by decide +kernel
theorem dX11_pay_4 : decode cX11_pay 4 = .ok (.getfield 127, 3) := by decide +kernel
theorem dX11_pay_7 : decode cX11_pay 7 = .ok (.iload_n 1, 1) := by decide +kernel
theorem dX11_pay_8 : decode cX11_pay 8 = .ok (.invokevirtual 145, 3) := by decide +kernel
theorem dX11_pay_11 : decode cX11_pay 11 = .ok (.ifCond .ne 5, 3) := by decide +kernel
theorem dX11_pay_14 : decode cX11_pay 14 = .ok (.iconst (-1), 1) := by decide +kernel
theorem dX11_pay_15 : decode cX11_pay 15 = .ok (.ireturn, 1) := by decide +kernel
theorem dX11_pitch_0 : decode cX11_pitch 0 = .ok (.aload_n 0, 1) := by decide +kernel
theorem dX11_pitch_1 : decode cX11_pitch 1 = .ok (.getfield 16, 3) := by decide +kernel
theorem dX11_pitch_4 : decode cX11_pitch 4 = .ok (.iload_n 1, 1) := by decide +kernel
theorem dX11_pitch_5 : decode cX11_pitch 5 = .ok (.iload_n 2, 1) := by decide +kernel
theorem dX11_pitch_6 : decode cX11_pitch 6 = .ok (.invokevirtual 195, 3) := by decide +kernel
theorem dX11_pitch_9 : decode cX11_pitch 9 = .ok (.ifCond .ne 5, 3) := by decide +kernel
theorem dX11_pitch_12 : decode cX11_pitch 12 = .ok (.iconst (-1), 1) := by decide +kernel
theorem dX11_pitch_13 : decode cX11_pitch 13 = .ok (.ireturn, 1) := by decide +kernel
theorem dX11_reachOf_0 : decode cX11_reachOf 0 = .ok (.lconst 0, 1) := by decide +kernel
theorem dX11_reachOf_1 : decode cX11_reachOf 1 = .ok (.lstore_n 2, 1) := by decide +kernel
theorem dX11_reachOf_2 : decode cX11_reachOf 2 = .ok (.iconst 0, 1) := by decide +kernel
theorem dX11_reachOf_3 : decode cX11_reachOf 3 = .ok (.istore 4, 2) := by decide +kernel
theorem dX11_reachOf_5 : decode cX11_reachOf 5 = .ok (.iload 4, 2) := by decide +kernel
theorem dX11_reachOf_7 : decode cX11_reachOf 7 = .ok (.aload_n 0, 1) := by decide +kernel
theorem dX11_reachOf_8 : decode cX11_reachOf 8 = .ok (.getfield 16, 3) := by decide +kernel
theorem dX11_reachOf_11 : decode cX11_reachOf 11 = .ok (.getfield 136, 3) := by decide +kernel
theorem dX11_reachOf_14 : decode cX11_reachOf 14 = .ok (.getfield 292, 3) := by decide +kernel
theorem dX11_reachOf_17 : decode cX11_reachOf 17 = .ok (.if_icmp .ge 30, 3) := by decide +kernel
theorem dX11_reachOf_47 : decode cX11_reachOf 47 = .ok (.lload_n 2, 1) := by decide +kernel
theorem dX11_reachOf_48 : decode cX11_reachOf 48 = .ok (.lreturn, 1) := by decide +kernel
theorem dX11_redeem_0 : decode cX11_redeem 0 = .ok (.aload_n 0, 1) := by decide +kernel
theorem dX11_redeem_1 : decode cX11_redeem 1 = .ok (.getfield 16, 3) := by decide +kernel
theorem dX11_redeem_4 : decode cX11_redeem 4 = .ok (.iload_n 1, 1) := by decide +kernel
theorem dX11_redeem_5 : decode cX11_redeem 5 = .ok (.iload_n 2, 1) := by decide +kernel
theorem dX11_redeem_6 : decode cX11_redeem 6 = .ok (.invokevirtual 195, 3) := by decide +kernel
theorem dX11_redeem_9 : decode cX11_redeem 9 = .ok (.ifCond .eq 28, 3) := by decide +kernel
theorem dX11_redeem_37 : decode cX11_redeem 37 = .ok (.iconst (-1), 1) := by decide +kernel
theorem dX11_redeem_38 : decode cX11_redeem 38 = .ok (.ireturn, 1) := by decide +kernel
theorem dX11_round_0 : decode cX11_round 0 = .ok (.aload_n 0, 1) := by decide +kernel
theorem dX11_round_1 : decode cX11_round 1 = .ok (.iload_n 1, 1) := by decide +kernel
theorem dX11_round_2 : decode cX11_round 2 = .ok (.iload_n 2, 1) := by decide +kernel
theorem dX11_round_3 : decode cX11_round 3 = .ok (.iload_n 3, 1) := by decide +kernel
theorem dX11_round_4 : decode cX11_round 4 = .ok (.iload 4, 2) := by decide +kernel
theorem dX11_round_6 : decode cX11_round 6 = .ok (.invokevirtual 331, 3) := by decide +kernel
theorem dX11_round_9 : decode cX11_round 9 = .ok (.ifCond .ne 5, 3) := by decide +kernel
theorem dX11_round_12 : decode cX11_round 12 = .ok (.iconst (-1), 1) := by decide +kernel
theorem dX11_round_13 : decode cX11_round 13 = .ok (.ireturn, 1) := by decide +kernel
theorem dX11_run_0 : decode cX11_run 0 = .ok (.aload_n 0, 1) := by decide +kernel
theorem dX11_run_1 : decode cX11_run 1 = .ok (.getfield 16, 3) := by decide +kernel
theorem dX11_run_4 : decode cX11_run 4 = .ok (.getfield 127, 3) := by decide +kernel
theorem dX11_run_7 : decode cX11_run 7 = .ok (.iload_n 1, 1) := by decide +kernel
theorem dX11_run_8 : decode cX11_run 8 = .ok (.invokevirtual 145, 3) := by decide +kernel
theorem dX11_run_11 : decode cX11_run 11 = .ok (.ifCond .ne 5, 3) := by decide +kernel
theorem dX11_run_14 : decode cX11_run 14 = .ok (.iconst (-1), 1) := by decide +kernel
theorem dX11_run_15 : decode cX11_run 15 = .ok (.ireturn, 1) := by decide +kernel
theorem dX11_sings_0 : decode cX11_sings 0 = .ok (.aload_n 0, 1) := by decide +kernel
theorem dX11_sings_1 : decode cX11_sings 1 = .ok (.getfield 16, 3) := by decide +kernel
theorem dX11_sings_4 : decode cX11_sings 4 = .ok (.iload_n 1, 1) := by decide +kernel
theorem dX11_sings_5 : decode cX11_sings 5 = .ok (.iload_n 2, 1) := by decide +kernel
theorem dX11_sings_6 : decode cX11_sings 6 = .ok (.invokevirtual 195, 3) := by decide +kernel
theorem dX11_sings_9 : decode cX11_sings 9 = .ok (.ifCond .ne 5, 3) := by decide +kernel
theorem dX11_sings_12 : decode cX11_sings 12 = .ok (.iconst (-1), 1) := by decide +kernel
theorem dX11_sings_13 : decode cX11_sings 13 = .ok (.ireturn, 1) := by decide +kernel
theorem dX11_sold_0 : decode cX11_sold 0 = .ok (.aload_n 0, 1) := by decide +kernel
theorem dX11_sold_1 : decode cX11_sold 1 = .ok (.getfield 16, 3) := by decide +kernel
theorem dX11_sold_4 : decode cX11_sold 4 = .ok (.iload_n 1, 1) := by decide +kernel
theorem dX11_sold_5 : decode cX11_sold 5 = .ok (.invokevirtual 280, 3) := by decide +kernel
theorem dX11_sold_8 : decode cX11_sold 8 = .ok (.ifCond .eq 26, 3) := by decide +kernel
theorem dX11_sold_11 : decode cX11_sold 11 = .ok (.aload_n 0, 1) := by decide +kernel
theorem dX11_sold_12 : decode cX11_sold 12 = .ok (.getfield 16, 3) := by decide +kernel
theorem dX11_sold_15 : decode cX11_sold 15 = .ok (.getfield 139, 3) := by decide +kernel
theorem dX11_sold_18 : decode cX11_sold 18 = .ok (.iload_n 2, 1) := by decide +kernel
theorem dX11_sold_19 : decode cX11_sold 19 = .ok (.invokevirtual 145, 3) := by decide +kernel
theorem dX11_sold_22 : decode cX11_sold 22 = .ok (.ifCond .eq 12, 3) := by decide +kernel
theorem dX11_sold_34 : decode cX11_sold 34 = .ok (.iconst (-1), 1) := by decide +kernel
theorem dX11_sold_35 : decode cX11_sold 35 = .ok (.ireturn, 1) := by decide +kernel
theorem dX11_sounds_0 : decode cX11_sounds 0 = .ok (.aload_n 0, 1) := by decide +kernel
theorem dX11_sounds_1 : decode cX11_sounds 1 = .ok (.getfield 16, 3) := by decide +kernel
theorem dX11_sounds_4 : decode cX11_sounds 4 = .ok (.iload_n 1, 1) := by decide +kernel
theorem dX11_sounds_5 : decode cX11_sounds 5 = .ok (.iload_n 2, 1) := by decide +kernel
theorem dX11_sounds_6 : decode cX11_sounds 6 = .ok (.invokevirtual 195, 3) := by decide +kernel
theorem dX11_sounds_9 : decode cX11_sounds 9 = .ok (.ifCond .eq 17, 3) := by decide +kernel
theorem dX11_sounds_26 : decode cX11_sounds 26 = .ok (.iconst (-1), 1) := by decide +kernel
theorem dX11_sounds_27 : decode cX11_sounds 27 = .ok (.ireturn, 1) := by decide +kernel
theorem dX11_strike_0 : decode cX11_strike 0 = .ok (.iload_n 1, 1) := by decide +kernel
theorem dX11_strike_1 : decode cX11_strike 1 = .ok (.ifCond .lt 27, 3) := by decide +kernel
theorem dX11_strike_4 : decode cX11_strike 4 = .ok (.iload_n 1, 1) := by decide +kernel
theorem dX11_strike_5 : decode cX11_strike 5 = .ok (.aload_n 0, 1) := by decide +kernel
theorem dX11_strike_6 : decode cX11_strike 6 = .ok (.getfield 50, 3) := by decide +kernel
theorem dX11_strike_9 : decode cX11_strike 9 = .ok (.getfield 121, 3) := by decide +kernel
theorem dX11_strike_12 : decode cX11_strike 12 = .ok (.if_icmp .ge 16, 3) := by decide +kernel
theorem dX11_strike_28 : decode cX11_strike 28 = .ok (.iconst (-1), 1) := by decide +kernel
theorem dX11_strike_29 : decode cX11_strike 29 = .ok (.ireturn, 1) := by decide +kernel
theorem dX11_sunday_0 : decode cX11_sunday 0 = .ok (.iconst 0, 1) := by decide +kernel
theorem dX11_sunday_1 : decode cX11_sunday 1 = .ok (.istore_n 1, 1) := by decide +kernel
theorem dX11_sunday_2 : decode cX11_sunday 2 = .ok (.iconst 0, 1) := by decide +kernel
theorem dX11_sunday_3 : decode cX11_sunday 3 = .ok (.istore_n 2, 1) := by decide +kernel
theorem dX11_sunday_4 : decode cX11_sunday 4 = .ok (.iload_n 2, 1) := by decide +kernel
theorem dX11_sunday_5 : decode cX11_sunday 5 = .ok (.aload_n 0, 1) := by decide +kernel
theorem dX11_sunday_6 : decode cX11_sunday 6 = .ok (.getfield 40, 3) := by decide +kernel
theorem dX11_sunday_9 : decode cX11_sunday 9 = .ok (.getfield 246, 3) := by decide +kernel
theorem dX11_sunday_12 : decode cX11_sunday 12 = .ok (.if_icmp .ge 25, 3) := by decide +kernel
theorem dX11_sunday_37 : decode cX11_sunday 37 = .ok (.aload_n 0, 1) := by decide +kernel
theorem dX11_sunday_38 : decode cX11_sunday 38 = .ok (.getfield 40, 3) := by decide +kernel
theorem dX11_sunday_41 : decode cX11_sunday 41 = .ok (.invokevirtual 261, 3) := by decide +kernel
theorem dX11_sunday_44 : decode cX11_sunday 44 = .ok (.aload_n 0, 1) := by decide +kernel
theorem dX11_sunday_45 : decode cX11_sunday 45 = .ok (.invokevirtual 264, 3) := by decide +kernel
theorem dX11_sunday_48 : decode cX11_sunday 48 = .ok (.aload_n 0, 1) := by decide +kernel
theorem dX11_sunday_49 : decode cX11_sunday 49 = .ok (.getfield 40, 3) := by decide +kernel
theorem dX11_sunday_52 : decode cX11_sunday 52 = .ok (.dup, 1) := by decide +kernel
theorem dX11_sunday_53 : decode cX11_sunday 53 = .ok (.getfield 227, 3) := by decide +kernel
theorem dX11_sunday_56 : decode cX11_sunday 56 = .ok (.iconst 1, 1) := by decide +kernel
theorem dX11_sunday_57 : decode cX11_sunday 57 = .ok (.iadd, 1) := by decide +kernel
theorem dX11_sunday_58 : decode cX11_sunday 58 = .ok (.putfield 227, 3) := by decide +kernel
theorem dX11_sunday_61 : decode cX11_sunday 61 = .ok (.aload_n 0, 1) := by decide +kernel
theorem dX11_sunday_62 : decode cX11_sunday 62 = .ok (.getfield 68, 3) := by decide +kernel
theorem dX11_sunday_65 : decode cX11_sunday 65 = .ok (.iconst 0, 1) := by decide +kernel
theorem dX11_sunday_66 : decode cX11_sunday 66 = .ok (.putfield 124, 3) := by decide +kernel
theorem dX11_sunday_69 : decode cX11_sunday 69 = .ok (.iload_n 1, 1) := by decide +kernel
theorem dX11_sunday_70 : decode cX11_sunday 70 = .ok (.ireturn, 1) := by decide +kernel
theorem dX11_tapeNumber_0 : decode cX11_tapeNumber 0 = .ok (.bipush 24, 2) := by decide +kernel
theorem dX11_tapeNumber_2 : decode cX11_tapeNumber 2 = .ok (.istore_n 2, 1) := by decide +kernel
theorem dX11_tapeNumber_3 : decode cX11_tapeNumber 3 = .ok (.iload_n 2, 1) := by decide +kernel
theorem dX11_tapeNumber_4 : decode cX11_tapeNumber 4 = .ok (.ifCond .lt 42, 3) := by decide +kernel
theorem dX11_tapeNumber_7 : decode cX11_tapeNumber 7 = .ok (.aload_n 0, 1) := by decide +kernel
theorem dX11_tapeNumber_8 : decode cX11_tapeNumber 8 = .ok (.getfield 86, 3) := by decide +kernel
theorem dX11_tapeNumber_11 : decode cX11_tapeNumber 11 = .ok (.sipush 800, 3) := by decide +kernel
theorem dX11_tapeNumber_14 : decode cX11_tapeNumber 14 = .ok (.if_icmp .ge 32, 3) := by decide +kernel
theorem dX11_tapeNumber_17 : decode cX11_tapeNumber 17 = .ok (.aload_n 0, 1) := by decide +kernel
theorem dX11_tapeNumber_18 : decode cX11_tapeNumber 18 = .ok (.getfield 9, 3) := by decide +kernel
theorem dX11_tapeNumber_21 : decode cX11_tapeNumber 21 = .ok (.aload_n 0, 1) := by decide +kernel
theorem dX11_tapeNumber_22 : decode cX11_tapeNumber 22 = .ok (.getfield 86, 3) := by decide +kernel
theorem dX11_tapeNumber_25 : decode cX11_tapeNumber 25 = .ok (.iload_n 1, 1) := by decide +kernel
theorem dX11_tapeNumber_26 : decode cX11_tapeNumber 26 = .ok (.iload_n 2, 1) := by decide +kernel
theorem dX11_tapeNumber_27 : decode cX11_tapeNumber 27 = .ok (.ishr, 1) := by decide +kernel
theorem dX11_tapeNumber_28 : decode cX11_tapeNumber 28 = .ok (.i2b, 1) := by decide +kernel
theorem dX11_tapeNumber_29 : decode cX11_tapeNumber 29 = .ok (.bastore, 1) := by decide +kernel
theorem dX11_tapeNumber_30 : decode cX11_tapeNumber 30 = .ok (.aload_n 0, 1) := by decide +kernel
theorem dX11_tapeNumber_31 : decode cX11_tapeNumber 31 = .ok (.dup, 1) := by decide +kernel
theorem dX11_tapeNumber_32 : decode cX11_tapeNumber 32 = .ok (.getfield 86, 3) := by decide +kernel
theorem dX11_tapeNumber_35 : decode cX11_tapeNumber 35 = .ok (.iconst 1, 1) := by decide +kernel
theorem dX11_tapeNumber_36 : decode cX11_tapeNumber 36 = .ok (.iadd, 1) := by decide +kernel
theorem dX11_tapeNumber_37 : decode cX11_tapeNumber 37 = .ok (.putfield 86, 3) := by decide +kernel
theorem dX11_tapeNumber_40 : decode cX11_tapeNumber 40 = .ok (.iinc 2 (-8), 3) := by decide +kernel
theorem dX11_tapeNumber_43 : decode cX11_tapeNumber 43 = .ok (.goto (-40), 3) := by decide +kernel
theorem dX11_tapeNumber_46 : decode cX11_tapeNumber 46 = .ok (.return_, 1) := by decide +kernel
theorem dX11_tavern_0 : decode cX11_tavern 0 = .ok (.aload_n 0, 1) := by decide +kernel
theorem dX11_tavern_1 : decode cX11_tavern 1 = .ok (.getfield 16, 3) := by decide +kernel
theorem dX11_tavern_4 : decode cX11_tavern 4 = .ok (.getfield 127, 3) := by decide +kernel
theorem dX11_tavern_7 : decode cX11_tavern 7 = .ok (.iload_n 1, 1) := by decide +kernel
theorem dX11_tavern_8 : decode cX11_tavern 8 = .ok (.invokevirtual 145, 3) := by decide +kernel
theorem dX11_tavern_11 : decode cX11_tavern 11 = .ok (.ifCond .ne 5, 3) := by decide +kernel
theorem dX11_tavern_14 : decode cX11_tavern 14 = .ok (.iconst (-1), 1) := by decide +kernel
theorem dX11_tavern_15 : decode cX11_tavern 15 = .ok (.ireturn, 1) := by decide +kernel
theorem dX11_text_0 : decode cX11_text 0 = .ok (.iload_n 1, 1) := by decide +kernel
theorem dX11_text_1 : decode cX11_text 1 = .ok (.ifCond .lt 11, 3) := by decide +kernel
theorem dX11_text_4 : decode cX11_text 4 = .ok (.iload_n 1, 1) := by decide +kernel
theorem dX11_text_5 : decode cX11_text 5 = .ok (.aload_n 0, 1) := by decide +kernel
theorem dX11_text_6 : decode cX11_text 6 = .ok (.getfield 86, 3) := by decide +kernel
theorem dX11_text_9 : decode cX11_text 9 = .ok (.if_icmp .le 6, 3) := by decide +kernel
theorem dX11_text_12 : decode cX11_text 12 = .ok (.bipush (-2), 2) := by decide +kernel
theorem dX11_text_14 : decode cX11_text 14 = .ok (.ireturn, 1) := by decide +kernel
theorem dX11_text_15 : decode cX11_text 15 = .ok (.aload_n 0, 1) := by decide +kernel
theorem dX11_text_16 : decode cX11_text 16 = .ok (.getfield 33, 3) := by decide +kernel
theorem dX11_text_19 : decode cX11_text 19 = .ok (.iload_n 1, 1) := by decide +kernel
theorem dX11_text_20 : decode cX11_text 20 = .ok (.invokevirtual 108, 3) := by decide +kernel
theorem dX11_text_23 : decode cX11_text 23 = .ok (.istore_n 2, 1) := by decide +kernel
theorem dX11_text_24 : decode cX11_text 24 = .ok (.aload_n 0, 1) := by decide +kernel
theorem dX11_text_25 : decode cX11_text 25 = .ok (.iconst 0, 1) := by decide +kernel
theorem dX11_text_26 : decode cX11_text 26 = .ok (.putfield 86, 3) := by decide +kernel
theorem dX11_text_29 : decode cX11_text 29 = .ok (.aload_n 0, 1) := by decide +kernel
theorem dX11_text_30 : decode cX11_text 30 = .ok (.aload_n 0, 1) := by decide +kernel
theorem dX11_text_31 : decode cX11_text 31 = .ok (.getfield 33, 3) := by decide +kernel
theorem dX11_text_34 : decode cX11_text 34 = .ok (.getfield 112, 3) := by decide +kernel
theorem dX11_text_37 : decode cX11_text 37 = .ok (.getfield 116, 3) := by decide +kernel
theorem dX11_text_40 : decode cX11_text 40 = .ok (.putfield 90, 3) := by decide +kernel
theorem dX11_text_43 : decode cX11_text 43 = .ok (.aload_n 0, 1) := by decide +kernel
theorem dX11_text_44 : decode cX11_text 44 = .ok (.aload_n 0, 1) := by decide +kernel
theorem dX11_text_45 : decode cX11_text 45 = .ok (.getfield 33, 3) := by decide +kernel
theorem dX11_text_48 : decode cX11_text 48 = .ok (.getfield 112, 3) := by decide +kernel
theorem dX11_text_51 : decode cX11_text 51 = .ok (.getfield 117, 3) := by decide +kernel
theorem dX11_text_54 : decode cX11_text 54 = .ok (.putfield 93, 3) := by decide +kernel
theorem dX11_text_57 : decode cX11_text 57 = .ok (.aload_n 0, 1) := by decide +kernel
theorem dX11_text_58 : decode cX11_text 58 = .ok (.getfield 90, 3) := by decide +kernel
theorem dX11_text_61 : decode cX11_text 61 = .ok (.ifCond .eq 5, 3) := by decide +kernel
theorem dX11_text_66 : decode cX11_text 66 = .ok (.aload_n 0, 1) := by decide +kernel
theorem dX11_text_67 : decode cX11_text 67 = .ok (.getfield 16, 3) := by decide +kernel
theorem dX11_text_70 : decode cX11_text 70 = .ok (.aload_n 0, 1) := by decide +kernel
theorem dX11_text_71 : decode cX11_text 71 = .ok (.getfield 20, 3) := by decide +kernel
theorem dX11_text_74 : decode cX11_text 74 = .ok (.invokevirtual 118, 3) := by decide +kernel
theorem dX11_text_77 : decode cX11_text 77 = .ok (.aload_n 0, 1) := by decide +kernel
theorem dX11_text_78 : decode cX11_text 78 = .ok (.getfield 40, 3) := by decide +kernel
theorem dX11_text_81 : decode cX11_text 81 = .ok (.aload_n 0, 1) := by decide +kernel
theorem dX11_text_82 : decode cX11_text 82 = .ok (.getfield 16, 3) := by decide +kernel
theorem dX11_text_85 : decode cX11_text 85 = .ok (.invokevirtual 100, 3) := by decide +kernel
theorem dX11_text_88 : decode cX11_text 88 = .ok (.aload_n 0, 1) := by decide +kernel
theorem dX11_text_89 : decode cX11_text 89 = .ok (.getfield 50, 3) := by decide +kernel
theorem dX11_text_92 : decode cX11_text 92 = .ok (.iconst 0, 1) := by decide +kernel
theorem dX11_text_93 : decode cX11_text 93 = .ok (.putfield 121, 3) := by decide +kernel
theorem dX11_text_96 : decode cX11_text 96 = .ok (.aload_n 0, 1) := by decide +kernel
theorem dX11_text_97 : decode cX11_text 97 = .ok (.iconst 0, 1) := by decide +kernel
theorem dX11_text_98 : decode cX11_text 98 = .ok (.putfield 96, 3) := by decide +kernel
theorem dX11_text_101 : decode cX11_text 101 = .ok (.aload_n 0, 1) := by decide +kernel
theorem dX11_text_102 : decode cX11_text 102 = .ok (.getfield 68, 3) := by decide +kernel
theorem dX11_text_105 : decode cX11_text 105 = .ok (.iconst 0, 1) := by decide +kernel
theorem dX11_text_106 : decode cX11_text 106 = .ok (.putfield 124, 3) := by decide +kernel
theorem dX11_text_109 : decode cX11_text 109 = .ok (.iload_n 2, 1) := by decide +kernel
theorem dX11_text_110 : decode cX11_text 110 = .ok (.ireturn, 1) := by decide +kernel
theorem dX11_thieves_0 : decode cX11_thieves 0 = .ok (.aload_n 0, 1) := by decide +kernel
theorem dX11_thieves_1 : decode cX11_thieves 1 = .ok (.getfield 50, 3) := by decide +kernel
theorem dX11_thieves_4 : decode cX11_thieves 4 = .ok (.aload_n 0, 1) := by decide +kernel
theorem dX11_thieves_5 : decode cX11_thieves 5 = .ok (.invokevirtual 302, 3) := by decide +kernel
theorem dX11_thieves_8 : decode cX11_thieves 8 = .ok (.invokevirtual 306, 3) := by decide +kernel
theorem dX11_thieves_11 : decode cX11_thieves 11 = .ok (.lstore_n 1, 1) := by decide +kernel
theorem dX11_thieves_12 : decode cX11_thieves 12 = .ok (.iconst 0, 1) := by decide +kernel
theorem dX11_thieves_13 : decode cX11_thieves 13 = .ok (.istore_n 3, 1) := by decide +kernel
theorem dX11_thieves_14 : decode cX11_thieves 14 = .ok (.iconst 0, 1) := by decide +kernel
theorem dX11_thieves_15 : decode cX11_thieves 15 = .ok (.istore 4, 2) := by decide +kernel
theorem dX11_thieves_17 : decode cX11_thieves 17 = .ok (.iload 4, 2) := by decide +kernel
theorem dX11_thieves_19 : decode cX11_thieves 19 = .ok (.aload_n 0, 1) := by decide +kernel
theorem dX11_thieves_20 : decode cX11_thieves 20 = .ok (.getfield 16, 3) := by decide +kernel
theorem dX11_thieves_23 : decode cX11_thieves 23 = .ok (.getfield 136, 3) := by decide +kernel
theorem dX11_thieves_26 : decode cX11_thieves 26 = .ok (.getfield 292, 3) := by decide +kernel
theorem dX11_thieves_29 : decode cX11_thieves 29 = .ok (.if_icmp .ge 48, 3) := by decide +kernel
theorem dX11_thieves_77 : decode cX11_thieves 77 = .ok (.iload_n 3, 1) := by decide +kernel
theorem dX11_thieves_78 : decode cX11_thieves 78 = .ok (.ireturn, 1) := by decide +kernel
theorem dX11_undo_0 : decode cX11_undo 0 = .ok (.aload_n 0, 1) := by decide +kernel
theorem dX11_undo_1 : decode cX11_undo 1 = .ok (.getfield 40, 3) := by decide +kernel
theorem dX11_undo_4 : decode cX11_undo 4 = .ok (.getfield 246, 3) := by decide +kernel
theorem dX11_undo_7 : decode cX11_undo 7 = .ok (.ifCond .ne 5, 3) := by decide +kernel
theorem dX11_undo_10 : decode cX11_undo 10 = .ok (.iconst (-1), 1) := by decide +kernel
theorem dX11_undo_11 : decode cX11_undo 11 = .ok (.ireturn, 1) := by decide +kernel
theorem dX11_verse_0 : decode cX11_verse 0 = .ok (.aload_n 0, 1) := by decide +kernel
theorem dX11_verse_1 : decode cX11_verse 1 = .ok (.getfield 16, 3) := by decide +kernel
theorem dX11_verse_4 : decode cX11_verse 4 = .ok (.getfield 139, 3) := by decide +kernel
theorem dX11_verse_7 : decode cX11_verse 7 = .ok (.iload_n 1, 1) := by decide +kernel
theorem dX11_verse_8 : decode cX11_verse 8 = .ok (.invokevirtual 145, 3) := by decide +kernel
theorem dX11_verse_11 : decode cX11_verse 11 = .ok (.ifCond .ne 5, 3) := by decide +kernel
theorem dX11_verse_14 : decode cX11_verse 14 = .ok (.iconst (-1), 1) := by decide +kernel
theorem dX11_verse_15 : decode cX11_verse 15 = .ok (.ireturn, 1) := by decide +kernel
theorem dX11_whole_0 : decode cX11_whole 0 = .ok (.aload_n 0, 1) := by decide +kernel
theorem dX11_whole_1 : decode cX11_whole 1 = .ok (.getfield 16, 3) := by decide +kernel
theorem dX11_whole_4 : decode cX11_whole 4 = .ok (.getfield 136, 3) := by decide +kernel
theorem dX11_whole_7 : decode cX11_whole 7 = .ok (.iload_n 1, 1) := by decide +kernel
theorem dX11_whole_8 : decode cX11_whole 8 = .ok (.invokevirtual 145, 3) := by decide +kernel
theorem dX11_whole_11 : decode cX11_whole 11 = .ok (.ifCond .eq 22, 3) := by decide +kernel
theorem dX11_whole_33 : decode cX11_whole 33 = .ok (.ldc2_w 313, 3) := by decide +kernel
theorem dX11_whole_36 : decode cX11_whole 36 = .ok (.lreturn, 1) := by decide +kernel
theorem dX0_init_0 : decode cX0_init 0 = .ok (.aload_n 0, 1) := by decide +kernel
theorem dX0_init_1 : decode cX0_init 1 = .ok (.invokespecial 3, 3) := by decide +kernel
theorem dX0_init_4 : decode cX0_init 4 = .ok (.aload_n 0, 1) := by decide +kernel
theorem dX0_init_5 : decode cX0_init 5 = .ok (.bipush 6, 2) := by decide +kernel
theorem dX0_init_7 : decode cX0_init 7 = .ok (.newarray .int, 2) := by decide +kernel
theorem dX0_init_9 : decode cX0_init 9 = .ok (.putfield 9, 3) := by decide +kernel
theorem dX0_init_12 : decode cX0_init 12 = .ok (.aload_n 0, 1) := by decide +kernel
theorem dX0_init_13 : decode cX0_init 13 = .ok (.iconst 4, 1) := by decide +kernel
theorem dX0_init_14 : decode cX0_init 14 = .ok (.newarray .int, 2) := by decide +kernel
theorem dX0_init_16 : decode cX0_init 16 = .ok (.putfield 15, 3) := by decide +kernel
theorem dX0_init_19 : decode cX0_init 19 = .ok (.aload_n 0, 1) := by decide +kernel
theorem dX0_init_20 : decode cX0_init 20 = .ok (.iconst 4, 1) := by decide +kernel
theorem dX0_init_21 : decode cX0_init 21 = .ok (.newarray .int, 2) := by decide +kernel
theorem dX0_init_23 : decode cX0_init 23 = .ok (.putfield 18, 3) := by decide +kernel
theorem dX0_init_26 : decode cX0_init 26 = .ok (.aload_n 0, 1) := by decide +kernel
theorem dX0_init_27 : decode cX0_init 27 = .ok (.iconst 0, 1) := by decide +kernel
theorem dX0_init_28 : decode cX0_init 28 = .ok (.putfield 21, 3) := by decide +kernel
theorem dX0_init_31 : decode cX0_init 31 = .ok (.aload_n 0, 1) := by decide +kernel
theorem dX0_init_32 : decode cX0_init 32 = .ok (.iconst 0, 1) := by decide +kernel
theorem dX0_init_33 : decode cX0_init 33 = .ok (.putfield 25, 3) := by decide +kernel
theorem dX0_init_36 : decode cX0_init 36 = .ok (.aload_n 0, 1) := by decide +kernel
theorem dX0_init_37 : decode cX0_init 37 = .ok (.iconst 0, 1) := by decide +kernel
theorem dX0_init_38 : decode cX0_init 38 = .ok (.putfield 28, 3) := by decide +kernel
theorem dX0_init_41 : decode cX0_init 41 = .ok (.aload_n 0, 1) := by decide +kernel
theorem dX0_init_42 : decode cX0_init 42 = .ok (.ldc 31, 2) := by decide +kernel
theorem dX0_init_44 : decode cX0_init 44 = .ok (.putfield 32, 3) := by decide +kernel
theorem dX0_init_47 : decode cX0_init 47 = .ok (.aload_n 0, 1) := by decide +kernel
theorem dX0_init_48 : decode cX0_init 48 = .ok (.aload_n 1, 1) := by decide +kernel
theorem dX0_init_49 : decode cX0_init 49 = .ok (.putfield 35, 3) := by decide +kernel
theorem dX0_init_52 : decode cX0_init 52 = .ok (.aload_n 0, 1) := by decide +kernel
theorem dX0_init_53 : decode cX0_init 53 = .ok (.aload_n 2, 1) := by decide +kernel
theorem dX0_init_54 : decode cX0_init 54 = .ok (.putfield 39, 3) := by decide +kernel
theorem dX0_init_57 : decode cX0_init 57 = .ok (.aload_n 0, 1) := by decide +kernel
theorem dX0_init_58 : decode cX0_init 58 = .ok (.aload_n 3, 1) := by decide +kernel
theorem dX0_init_59 : decode cX0_init 59 = .ok (.putfield 43, 3) := by decide +kernel
theorem dX0_init_62 : decode cX0_init 62 = .ok (.return_, 1) := by decide +kernel
theorem dX1_init_0 : decode cX1_init 0 = .ok (.aload_n 0, 1) := by decide +kernel
theorem dX1_init_1 : decode cX1_init 1 = .ok (.invokespecial 5, 3) := by decide +kernel
theorem dX1_init_4 : decode cX1_init 4 = .ok (.aload_n 0, 1) := by decide +kernel
theorem dX1_init_5 : decode cX1_init 5 = .ok (.bipush 72, 2) := by decide +kernel
theorem dX1_init_7 : decode cX1_init 7 = .ok (.newarray .int, 2) := by decide +kernel
theorem dX1_init_9 : decode cX1_init 9 = .ok (.putfield 11, 3) := by decide +kernel
theorem dX1_init_12 : decode cX1_init 12 = .ok (.aload_n 0, 1) := by decide +kernel
theorem dX1_init_13 : decode cX1_init 13 = .ok (.bipush 72, 2) := by decide +kernel
theorem dX1_init_15 : decode cX1_init 15 = .ok (.newarray .int, 2) := by decide +kernel
theorem dX1_init_17 : decode cX1_init 17 = .ok (.putfield 15, 3) := by decide +kernel
theorem dX1_init_20 : decode cX1_init 20 = .ok (.aload_n 0, 1) := by decide +kernel
theorem dX1_init_21 : decode cX1_init 21 = .ok (.bipush 25, 2) := by decide +kernel
theorem dX1_init_23 : decode cX1_init 23 = .ok (.newarray .int, 2) := by decide +kernel
theorem dX1_init_25 : decode cX1_init 25 = .ok (.putfield 18, 3) := by decide +kernel
theorem dX1_init_28 : decode cX1_init 28 = .ok (.aload_n 0, 1) := by decide +kernel
theorem dX1_init_29 : decode cX1_init 29 = .ok (.iconst 5, 1) := by decide +kernel
theorem dX1_init_30 : decode cX1_init 30 = .ok (.bipush 97, 2) := by decide +kernel
theorem dX1_init_32 : decode cX1_init 32 = .ok (.multianewarray 21 2, 4) := by decide +kernel
theorem dX1_init_36 : decode cX1_init 36 = .ok (.putfield 23, 3) := by decide +kernel
theorem dX1_init_39 : decode cX1_init 39 = .ok (.aload_n 0, 1) := by decide +kernel
theorem dX1_init_40 : decode cX1_init 40 = .ok (.bipush 12, 2) := by decide +kernel
theorem dX1_init_42 : decode cX1_init 42 = .ok (.newarray .int, 2) := by decide +kernel
theorem dX1_init_44 : decode cX1_init 44 = .ok (.putfield 26, 3) := by decide +kernel
theorem dX1_init_47 : decode cX1_init 47 = .ok (.aload_n 0, 1) := by decide +kernel
theorem dX1_init_48 : decode cX1_init 48 = .ok (.iconst 0, 1) := by decide +kernel
theorem dX1_init_49 : decode cX1_init 49 = .ok (.putfield 29, 3) := by decide +kernel
theorem dX1_init_52 : decode cX1_init 52 = .ok (.aload_n 0, 1) := by decide +kernel
theorem dX1_init_53 : decode cX1_init 53 = .ok (.iconst 0, 1) := by decide +kernel
theorem dX1_init_54 : decode cX1_init 54 = .ok (.putfield 33, 3) := by decide +kernel
theorem dX1_init_57 : decode cX1_init 57 = .ok (.aload_n 0, 1) := by decide +kernel
theorem dX1_init_58 : decode cX1_init 58 = .ok (.iconst 0, 1) := by decide +kernel
theorem dX1_init_59 : decode cX1_init 59 = .ok (.putfield 36, 3) := by decide +kernel
theorem dX1_init_62 : decode cX1_init 62 = .ok (.aload_n 0, 1) := by decide +kernel
theorem dX1_init_63 : decode cX1_init 63 = .ok (.aload_n 1, 1) := by decide +kernel
theorem dX1_init_64 : decode cX1_init 64 = .ok (.putfield 40, 3) := by decide +kernel
theorem dX1_init_67 : decode cX1_init 67 = .ok (.aload_n 0, 1) := by decide +kernel
theorem dX1_init_68 : decode cX1_init 68 = .ok (.aload_n 2, 1) := by decide +kernel
theorem dX1_init_69 : decode cX1_init 69 = .ok (.putfield 44, 3) := by decide +kernel
theorem dX1_init_72 : decode cX1_init 72 = .ok (.aload_n 0, 1) := by decide +kernel
theorem dX1_init_73 : decode cX1_init 73 = .ok (.aload_n 3, 1) := by decide +kernel
theorem dX1_init_74 : decode cX1_init 74 = .ok (.putfield 48, 3) := by decide +kernel
theorem dX1_init_77 : decode cX1_init 77 = .ok (.return_, 1) := by decide +kernel
theorem dX1_crownsFor_0 : decode cX1_crownsFor 0 = .ok (.aload_n 0, 1) := by decide +kernel
theorem dX1_crownsFor_1 : decode cX1_crownsFor 1 = .ok (.getfield 23, 3) := by decide +kernel
theorem dX1_crownsFor_4 : decode cX1_crownsFor 4 = .ok (.iconst 0, 1) := by decide +kernel
theorem dX1_crownsFor_5 : decode cX1_crownsFor 5 = .ok (.aaload, 1) := by decide +kernel
theorem dX1_crownsFor_6 : decode cX1_crownsFor 6 = .ok (.iload_n 1, 1) := by decide +kernel
theorem dX1_crownsFor_7 : decode cX1_crownsFor 7 = .ok (.iaload, 1) := by decide +kernel
theorem dX1_crownsFor_8 : decode cX1_crownsFor 8 = .ok (.ireturn, 1) := by decide +kernel
theorem dX1_mostNotes_0 : decode cX1_mostNotes 0 = .ok (.bipush 96, 2) := by decide +kernel
theorem dX1_mostNotes_2 : decode cX1_mostNotes 2 = .ok (.istore_n 2, 1) := by decide +kernel
theorem dX1_mostNotes_3 : decode cX1_mostNotes 3 = .ok (.iload_n 2, 1) := by decide +kernel
theorem dX1_mostNotes_4 : decode cX1_mostNotes 4 = .ok (.ifCond .le 23, 3) := by decide +kernel
theorem dX1_mostNotes_7 : decode cX1_mostNotes 7 = .ok (.aload_n 0, 1) := by decide +kernel
theorem dX1_mostNotes_8 : decode cX1_mostNotes 8 = .ok (.getfield 23, 3) := by decide +kernel
theorem dX1_mostNotes_11 : decode cX1_mostNotes 11 = .ok (.iconst 0, 1) := by decide +kernel
theorem dX1_mostNotes_12 : decode cX1_mostNotes 12 = .ok (.aaload, 1) := by decide +kernel
theorem dX1_mostNotes_13 : decode cX1_mostNotes 13 = .ok (.iload_n 2, 1) := by decide +kernel
theorem dX1_mostNotes_14 : decode cX1_mostNotes 14 = .ok (.iaload, 1) := by decide +kernel
theorem dX1_mostNotes_15 : decode cX1_mostNotes 15 = .ok (.iload_n 1, 1) := by decide +kernel
theorem dX1_mostNotes_16 : decode cX1_mostNotes 16 = .ok (.if_icmp .gt 5, 3) := by decide +kernel
theorem dX1_mostNotes_21 : decode cX1_mostNotes 21 = .ok (.iinc 2 (-1), 3) := by decide +kernel
theorem dX1_mostNotes_24 : decode cX1_mostNotes 24 = .ok (.goto (-21), 3) := by decide +kernel
theorem dX1_mostNotes_27 : decode cX1_mostNotes 27 = .ok (.iconst 0, 1) := by decide +kernel
theorem dX1_mostNotes_28 : decode cX1_mostNotes 28 = .ok (.ireturn, 1) := by decide +kernel
theorem dX1_weigh_0 : decode cX1_weigh 0 = .ok (.aload_n 0, 1) := by decide +kernel
theorem dX1_weigh_1 : decode cX1_weigh 1 = .ok (.getfield 36, 3) := by decide +kernel
theorem dX1_weigh_4 : decode cX1_weigh 4 = .ok (.ifCond .eq 4, 3) := by decide +kernel
theorem dX1_weigh_8 : decode cX1_weigh 8 = .ok (.aload_n 0, 1) := by decide +kernel
theorem dX1_weigh_9 : decode cX1_weigh 9 = .ok (.iconst 1, 1) := by decide +kernel
theorem dX1_weigh_10 : decode cX1_weigh 10 = .ok (.putfield 36, 3) := by decide +kernel
theorem dX1_weigh_13 : decode cX1_weigh 13 = .ok (.aload_n 0, 1) := by decide +kernel
theorem dX1_weigh_14 : decode cX1_weigh 14 = .ok (.getfield 40, 3) := by decide +kernel
theorem dX1_weigh_17 : decode cX1_weigh 17 = .ok (.getfield 52, 3) := by decide +kernel
theorem dX1_weigh_20 : decode cX1_weigh 20 = .ok (.getfield 58, 3) := by decide +kernel
theorem dX1_weigh_23 : decode cX1_weigh 23 = .ok (.istore_n 1, 1) := by decide +kernel
theorem dX1_weigh_24 : decode cX1_weigh 24 = .ok (.aload_n 0, 1) := by decide +kernel
theorem dX1_weigh_25 : decode cX1_weigh 25 = .ok (.getfield 23, 3) := by decide +kernel
theorem dX1_weigh_28 : decode cX1_weigh 28 = .ok (.iload_n 1, 1) := by decide +kernel
theorem dX1_weigh_29 : decode cX1_weigh 29 = .ok (.aaload, 1) := by decide +kernel
theorem dX1_weigh_30 : decode cX1_weigh 30 = .ok (.ldc 63, 2) := by decide +kernel
theorem dX1_weigh_32 : decode cX1_weigh 32 = .ok (.invokestatic 64, 3) := by decide +kernel
theorem dX1_weigh_35 : decode cX1_weigh 35 = .ok (.aload_n 0, 1) := by decide +kernel
theorem dX1_weigh_36 : decode cX1_weigh 36 = .ok (.getfield 23, 3) := by decide +kernel
theorem dX1_weigh_39 : decode cX1_weigh 39 = .ok (.iload_n 1, 1) := by decide +kernel
theorem dX1_weigh_40 : decode cX1_weigh 40 = .ok (.aaload, 1) := by decide +kernel
theorem dX1_weigh_41 : decode cX1_weigh 41 = .ok (.iconst 0, 1) := by decide +kernel
theorem dX1_weigh_42 : decode cX1_weigh 42 = .ok (.iconst 0, 1) := by decide +kernel
theorem dX1_weigh_43 : decode cX1_weigh 43 = .ok (.iastore, 1) := by decide +kernel
theorem dX1_weigh_44 : decode cX1_weigh 44 = .ok (.iload_n 1, 1) := by decide +kernel
theorem dX1_weigh_45 : decode cX1_weigh 45 = .ok (.iconst 1, 1) := by decide +kernel
theorem dX1_weigh_46 : decode cX1_weigh 46 = .ok (.isub, 1) := by decide +kernel
theorem dX1_weigh_47 : decode cX1_weigh 47 = .ok (.istore_n 2, 1) := by decide +kernel
theorem dX1_weigh_48 : decode cX1_weigh 48 = .ok (.iload_n 2, 1) := by decide +kernel
theorem dX1_weigh_49 : decode cX1_weigh 49 = .ok (.ifCond .lt 46, 3) := by decide +kernel
theorem dX1_weigh_95 : decode cX1_weigh 95 = .ok (.return_, 1) := by decide +kernel
theorem dX2_init_0 : decode cX2_init 0 = .ok (.aload_n 0, 1) := by decide +kernel
theorem dX2_init_1 : decode cX2_init 1 = .ok (.invokespecial 3, 3) := by decide +kernel
theorem dX2_init_4 : decode cX2_init 4 = .ok (.aload_n 0, 1) := by decide +kernel
theorem dX2_init_5 : decode cX2_init 5 = .ok (.bipush 64, 2) := by decide +kernel
theorem dX2_init_7 : decode cX2_init 7 = .ok (.newarray .int, 2) := by decide +kernel
theorem dX2_init_9 : decode cX2_init 9 = .ok (.putfield 9, 3) := by decide +kernel
theorem dX2_init_12 : decode cX2_init 12 = .ok (.aload_n 0, 1) := by decide +kernel
theorem dX2_init_13 : decode cX2_init 13 = .ok (.bipush 64, 2) := by decide +kernel
theorem dX2_init_15 : decode cX2_init 15 = .ok (.newarray .int, 2) := by decide +kernel
theorem dX2_init_17 : decode cX2_init 17 = .ok (.putfield 15, 3) := by decide +kernel
theorem dX2_init_20 : decode cX2_init 20 = .ok (.aload_n 0, 1) := by decide +kernel
theorem dX2_init_21 : decode cX2_init 21 = .ok (.iconst 5, 1) := by decide +kernel
theorem dX2_init_22 : decode cX2_init 22 = .ok (.newarray .int, 2) := by decide +kernel
theorem dX2_init_24 : decode cX2_init 24 = .ok (.putfield 18, 3) := by decide +kernel
theorem dX2_init_27 : decode cX2_init 27 = .ok (.aload_n 0, 1) := by decide +kernel
theorem dX2_init_28 : decode cX2_init 28 = .ok (.iconst 5, 1) := by decide +kernel
theorem dX2_init_29 : decode cX2_init 29 = .ok (.newarray .int, 2) := by decide +kernel
theorem dX2_init_31 : decode cX2_init 31 = .ok (.putfield 21, 3) := by decide +kernel
theorem dX2_init_34 : decode cX2_init 34 = .ok (.aload_n 0, 1) := by decide +kernel
theorem dX2_init_35 : decode cX2_init 35 = .ok (.iconst 0, 1) := by decide +kernel
theorem dX2_init_36 : decode cX2_init 36 = .ok (.putfield 24, 3) := by decide +kernel
theorem dX2_init_39 : decode cX2_init 39 = .ok (.aload_n 0, 1) := by decide +kernel
theorem dX2_init_40 : decode cX2_init 40 = .ok (.bipush 72, 2) := by decide +kernel
theorem dX2_init_42 : decode cX2_init 42 = .ok (.newarray .int, 2) := by decide +kernel
theorem dX2_init_44 : decode cX2_init 44 = .ok (.putfield 28, 3) := by decide +kernel
theorem dX2_init_47 : decode cX2_init 47 = .ok (.aload_n 0, 1) := by decide +kernel
theorem dX2_init_48 : decode cX2_init 48 = .ok (.iconst 0, 1) := by decide +kernel
theorem dX2_init_49 : decode cX2_init 49 = .ok (.putfield 31, 3) := by decide +kernel
theorem dX2_init_52 : decode cX2_init 52 = .ok (.aload_n 0, 1) := by decide +kernel
theorem dX2_init_53 : decode cX2_init 53 = .ok (.iconst 0, 1) := by decide +kernel
theorem dX2_init_54 : decode cX2_init 54 = .ok (.putfield 34, 3) := by decide +kernel
theorem dX2_init_57 : decode cX2_init 57 = .ok (.aload_n 0, 1) := by decide +kernel
theorem dX2_init_58 : decode cX2_init 58 = .ok (.iconst 0, 1) := by decide +kernel
theorem dX2_init_59 : decode cX2_init 59 = .ok (.putfield 37, 3) := by decide +kernel
theorem dX2_init_62 : decode cX2_init 62 = .ok (.aload_n 0, 1) := by decide +kernel
theorem dX2_init_63 : decode cX2_init 63 = .ok (.iconst 1, 1) := by decide +kernel
theorem dX2_init_64 : decode cX2_init 64 = .ok (.putfield 40, 3) := by decide +kernel
theorem dX2_init_67 : decode cX2_init 67 = .ok (.return_, 1) := by decide +kernel
theorem dX2_clear_0 : decode cX2_clear 0 = .ok (.aload_n 0, 1) := by decide +kernel
theorem dX2_clear_1 : decode cX2_clear 1 = .ok (.iconst 0, 1) := by decide +kernel
theorem dX2_clear_2 : decode cX2_clear 2 = .ok (.putfield 24, 3) := by decide +kernel
theorem dX2_clear_5 : decode cX2_clear 5 = .ok (.aload_n 0, 1) := by decide +kernel
theorem dX2_clear_6 : decode cX2_clear 6 = .ok (.iconst 0, 1) := by decide +kernel
theorem dX2_clear_7 : decode cX2_clear 7 = .ok (.putfield 37, 3) := by decide +kernel
theorem dX2_clear_10 : decode cX2_clear 10 = .ok (.aload_n 0, 1) := by decide +kernel
theorem dX2_clear_11 : decode cX2_clear 11 = .ok (.getfield 18, 3) := by decide +kernel
theorem dX2_clear_14 : decode cX2_clear 14 = .ok (.iconst 0, 1) := by decide +kernel
theorem dX2_clear_15 : decode cX2_clear 15 = .ok (.invokestatic 44, 3) := by decide +kernel
theorem dX2_clear_18 : decode cX2_clear 18 = .ok (.aload_n 0, 1) := by decide +kernel
theorem dX2_clear_19 : decode cX2_clear 19 = .ok (.getfield 21, 3) := by decide +kernel
theorem dX2_clear_22 : decode cX2_clear 22 = .ok (.iconst 0, 1) := by decide +kernel
theorem dX2_clear_23 : decode cX2_clear 23 = .ok (.invokestatic 44, 3) := by decide +kernel
theorem dX2_clear_26 : decode cX2_clear 26 = .ok (.return_, 1) := by decide +kernel
theorem dX2_take_0 : decode cX2_take 0 = .ok (.aload_n 1, 1) := by decide +kernel
theorem dX2_take_1 : decode cX2_take 1 = .ok (.getfield 9, 3) := by decide +kernel
theorem dX2_take_4 : decode cX2_take 4 = .ok (.iconst 0, 1) := by decide +kernel
theorem dX2_take_5 : decode cX2_take 5 = .ok (.aload_n 0, 1) := by decide +kernel
theorem dX2_take_6 : decode cX2_take 6 = .ok (.getfield 9, 3) := by decide +kernel
theorem dX2_take_9 : decode cX2_take 9 = .ok (.iconst 0, 1) := by decide +kernel
theorem dX2_take_10 : decode cX2_take 10 = .ok (.aload_n 0, 1) := by decide +kernel
theorem dX2_take_11 : decode cX2_take 11 = .ok (.getfield 9, 3) := by decide +kernel
theorem dX2_take_14 : decode cX2_take 14 = .ok (.arraylength, 1) := by decide +kernel
theorem dX2_take_15 : decode cX2_take 15 = .ok (.invokestatic 50, 3) := by decide +kernel
theorem dX2_take_18 : decode cX2_take 18 = .ok (.aload_n 1, 1) := by decide +kernel
theorem dX2_take_19 : decode cX2_take 19 = .ok (.getfield 15, 3) := by decide +kernel
theorem dX2_take_22 : decode cX2_take 22 = .ok (.iconst 0, 1) := by decide +kernel
theorem dX2_take_23 : decode cX2_take 23 = .ok (.aload_n 0, 1) := by decide +kernel
theorem dX2_take_24 : decode cX2_take 24 = .ok (.getfield 15, 3) := by decide +kernel
theorem dX2_take_27 : decode cX2_take 27 = .ok (.iconst 0, 1) := by decide +kernel
theorem dX2_take_28 : decode cX2_take 28 = .ok (.aload_n 0, 1) := by decide +kernel
theorem dX2_take_29 : decode cX2_take 29 = .ok (.getfield 15, 3) := by decide +kernel
theorem dX2_take_32 : decode cX2_take 32 = .ok (.arraylength, 1) := by decide +kernel
theorem dX2_take_33 : decode cX2_take 33 = .ok (.invokestatic 50, 3) := by decide +kernel
theorem dX2_take_36 : decode cX2_take 36 = .ok (.aload_n 1, 1) := by decide +kernel
theorem dX2_take_37 : decode cX2_take 37 = .ok (.getfield 18, 3) := by decide +kernel
theorem dX2_take_40 : decode cX2_take 40 = .ok (.iconst 0, 1) := by decide +kernel
theorem dX2_take_41 : decode cX2_take 41 = .ok (.aload_n 0, 1) := by decide +kernel
theorem dX2_take_42 : decode cX2_take 42 = .ok (.getfield 18, 3) := by decide +kernel
theorem dX2_take_45 : decode cX2_take 45 = .ok (.iconst 0, 1) := by decide +kernel
theorem dX2_take_46 : decode cX2_take 46 = .ok (.aload_n 0, 1) := by decide +kernel
theorem dX2_take_47 : decode cX2_take 47 = .ok (.getfield 18, 3) := by decide +kernel
theorem dX2_take_50 : decode cX2_take 50 = .ok (.arraylength, 1) := by decide +kernel
theorem dX2_take_51 : decode cX2_take 51 = .ok (.invokestatic 50, 3) := by decide +kernel
theorem dX2_take_54 : decode cX2_take 54 = .ok (.aload_n 1, 1) := by decide +kernel
theorem dX2_take_55 : decode cX2_take 55 = .ok (.getfield 21, 3) := by decide +kernel
theorem dX2_take_58 : decode cX2_take 58 = .ok (.iconst 0, 1) := by decide +kernel
theorem dX2_take_59 : decode cX2_take 59 = .ok (.aload_n 0, 1) := by decide +kernel
theorem dX2_take_60 : decode cX2_take 60 = .ok (.getfield 21, 3) := by decide +kernel
theorem dX2_take_63 : decode cX2_take 63 = .ok (.iconst 0, 1) := by decide +kernel
theorem dX2_take_64 : decode cX2_take 64 = .ok (.aload_n 0, 1) := by decide +kernel
theorem dX2_take_65 : decode cX2_take 65 = .ok (.getfield 21, 3) := by decide +kernel
theorem dX2_take_68 : decode cX2_take 68 = .ok (.arraylength, 1) := by decide +kernel
theorem dX2_take_69 : decode cX2_take 69 = .ok (.invokestatic 50, 3) := by decide +kernel
theorem dX2_take_72 : decode cX2_take 72 = .ok (.aload_n 0, 1) := by decide +kernel
theorem dX2_take_73 : decode cX2_take 73 = .ok (.aload_n 1, 1) := by decide +kernel
theorem dX2_take_74 : decode cX2_take 74 = .ok (.getfield 24, 3) := by decide +kernel
theorem dX2_take_77 : decode cX2_take 77 = .ok (.putfield 24, 3) := by decide +kernel
theorem dX2_take_80 : decode cX2_take 80 = .ok (.return_, 1) := by decide +kernel
theorem dX3_init_0 : decode cX3_init 0 = .ok (.aload_n 0, 1) := by decide +kernel
theorem dX3_init_1 : decode cX3_init 1 = .ok (.invokespecial 3, 3) := by decide +kernel
theorem dX3_init_4 : decode cX3_init 4 = .ok (.aload_n 0, 1) := by decide +kernel
theorem dX3_init_5 : decode cX3_init 5 = .ok (.bipush 24, 2) := by decide +kernel
theorem dX3_init_7 : decode cX3_init 7 = .ok (.newarray .int, 2) := by decide +kernel
theorem dX3_init_9 : decode cX3_init 9 = .ok (.putfield 9, 3) := by decide +kernel
theorem dX3_init_12 : decode cX3_init 12 = .ok (.aload_n 0, 1) := by decide +kernel
theorem dX3_init_13 : decode cX3_init 13 = .ok (.iconst 0, 1) := by decide +kernel
theorem dX3_init_14 : decode cX3_init 14 = .ok (.putfield 15, 3) := by decide +kernel
theorem dX3_init_17 : decode cX3_init 17 = .ok (.return_, 1) := by decide +kernel
theorem dX3_add_0 : decode cX3_add 0 = .ok (.aload_n 0, 1) := by decide +kernel
theorem dX3_add_1 : decode cX3_add 1 = .ok (.getfield 15, 3) := by decide +kernel
theorem dX3_add_4 : decode cX3_add 4 = .ok (.bipush 24, 2) := by decide +kernel
theorem dX3_add_6 : decode cX3_add 6 = .ok (.if_icmp .lt 5, 3) := by decide +kernel
theorem dX3_add_11 : decode cX3_add 11 = .ok (.aload_n 0, 1) := by decide +kernel
theorem dX3_add_12 : decode cX3_add 12 = .ok (.getfield 9, 3) := by decide +kernel
theorem dX3_add_15 : decode cX3_add 15 = .ok (.aload_n 0, 1) := by decide +kernel
theorem dX3_add_16 : decode cX3_add 16 = .ok (.getfield 15, 3) := by decide +kernel
theorem dX3_add_19 : decode cX3_add 19 = .ok (.iload_n 1, 1) := by decide +kernel
theorem dX3_add_20 : decode cX3_add 20 = .ok (.iastore, 1) := by decide +kernel
theorem dX3_add_21 : decode cX3_add 21 = .ok (.aload_n 0, 1) := by decide +kernel
theorem dX3_add_22 : decode cX3_add 22 = .ok (.dup, 1) := by decide +kernel
theorem dX3_add_23 : decode cX3_add 23 = .ok (.getfield 15, 3) := by decide +kernel
theorem dX3_add_26 : decode cX3_add 26 = .ok (.iconst 1, 1) := by decide +kernel
theorem dX3_add_27 : decode cX3_add 27 = .ok (.iadd, 1) := by decide +kernel
theorem dX3_add_28 : decode cX3_add 28 = .ok (.putfield 15, 3) := by decide +kernel
theorem dX3_add_31 : decode cX3_add 31 = .ok (.aload_n 0, 1) := by decide +kernel
theorem dX3_add_32 : decode cX3_add 32 = .ok (.getfield 15, 3) := by decide +kernel
theorem dX3_add_35 : decode cX3_add 35 = .ok (.iconst 1, 1) := by decide +kernel
theorem dX3_add_36 : decode cX3_add 36 = .ok (.isub, 1) := by decide +kernel
theorem dX3_add_37 : decode cX3_add 37 = .ok (.ireturn, 1) := by decide +kernel
theorem dX3_pitches_0 : decode cX3_pitches 0 = .ok (.iconst 0, 1) := by decide +kernel
theorem dX3_pitches_1 : decode cX3_pitches 1 = .ok (.istore_n 2, 1) := by decide +kernel
theorem dX3_pitches_2 : decode cX3_pitches 2 = .ok (.lconst 0, 1) := by decide +kernel
theorem dX3_pitches_3 : decode cX3_pitches 3 = .ok (.lstore_n 3, 1) := by decide +kernel
theorem dX3_pitches_4 : decode cX3_pitches 4 = .ok (.iload_n 1, 1) := by decide +kernel
theorem dX3_pitches_5 : decode cX3_pitches 5 = .ok (.aload_n 0, 1) := by decide +kernel
theorem dX3_pitches_6 : decode cX3_pitches 6 = .ok (.getfield 15, 3) := by decide +kernel
theorem dX3_pitches_9 : decode cX3_pitches 9 = .ok (.invokestatic 19, 3) := by decide +kernel
theorem dX3_pitches_12 : decode cX3_pitches 12 = .ok (.iconst 1, 1) := by decide +kernel
theorem dX3_pitches_13 : decode cX3_pitches 13 = .ok (.isub, 1) := by decide +kernel
theorem dX3_pitches_14 : decode cX3_pitches 14 = .ok (.istore 5, 2) := by decide +kernel
theorem dX3_pitches_16 : decode cX3_pitches 16 = .ok (.iload 5, 2) := by decide +kernel
theorem dX3_pitches_18 : decode cX3_pitches 18 = .ok (.ifCond .lt 57, 3) := by decide +kernel
theorem dX3_pitches_75 : decode cX3_pitches 75 = .ok (.lload_n 3, 1) := by decide +kernel
theorem dX3_pitches_76 : decode cX3_pitches 76 = .ok (.lreturn, 1) := by decide +kernel
theorem dX4_init_0 : decode cX4_init 0 = .ok (.aload_n 0, 1) := by decide +kernel
theorem dX4_init_1 : decode cX4_init 1 = .ok (.invokespecial 3, 3) := by decide +kernel
theorem dX4_init_4 : decode cX4_init 4 = .ok (.aload_n 0, 1) := by decide +kernel
theorem dX4_init_5 : decode cX4_init 5 = .ok (.new 9, 3) := by decide +kernel
theorem dX4_init_8 : decode cX4_init 8 = .ok (.dup, 1) := by decide +kernel
theorem dX4_init_9 : decode cX4_init 9 = .ok (.iconst 3, 1) := by decide +kernel
theorem dX4_init_10 : decode cX4_init 10 = .ok (.invokespecial 11, 3) := by decide +kernel
theorem dX4_init_13 : decode cX4_init 13 = .ok (.putfield 14, 3) := by decide +kernel
theorem dX4_init_16 : decode cX4_init 16 = .ok (.aload_n 0, 1) := by decide +kernel
theorem dX4_init_17 : decode cX4_init 17 = .ok (.new 9, 3) := by decide +kernel
theorem dX4_init_20 : decode cX4_init 20 = .ok (.dup, 1) := by decide +kernel
theorem dX4_init_21 : decode cX4_init 21 = .ok (.bipush 6, 2) := by decide +kernel
theorem dX4_init_23 : decode cX4_init 23 = .ok (.invokespecial 11, 3) := by decide +kernel
theorem dX4_init_26 : decode cX4_init 26 = .ok (.putfield 20, 3) := by decide +kernel
theorem dX4_init_29 : decode cX4_init 29 = .ok (.aload_n 0, 1) := by decide +kernel
theorem dX4_init_30 : decode cX4_init 30 = .ok (.new 9, 3) := by decide +kernel
theorem dX4_init_33 : decode cX4_init 33 = .ok (.dup, 1) := by decide +kernel
theorem dX4_init_34 : decode cX4_init 34 = .ok (.iconst 4, 1) := by decide +kernel
theorem dX4_init_35 : decode cX4_init 35 = .ok (.invokespecial 11, 3) := by decide +kernel
theorem dX4_init_38 : decode cX4_init 38 = .ok (.putfield 23, 3) := by decide +kernel
theorem dX4_init_41 : decode cX4_init 41 = .ok (.aload_n 0, 1) := by decide +kernel
theorem dX4_init_42 : decode cX4_init 42 = .ok (.new 9, 3) := by decide +kernel
theorem dX4_init_45 : decode cX4_init 45 = .ok (.dup, 1) := by decide +kernel
theorem dX4_init_46 : decode cX4_init 46 = .ok (.iconst 3, 1) := by decide +kernel
theorem dX4_init_47 : decode cX4_init 47 = .ok (.invokespecial 11, 3) := by decide +kernel
theorem dX4_init_50 : decode cX4_init 50 = .ok (.putfield 26, 3) := by decide +kernel
theorem dX4_init_53 : decode cX4_init 53 = .ok (.aload_n 0, 1) := by decide +kernel
theorem dX4_init_54 : decode cX4_init 54 = .ok (.iconst 3, 1) := by decide +kernel
theorem dX4_init_55 : decode cX4_init 55 = .ok (.newarray .int, 2) := by decide +kernel
theorem dX4_init_57 : decode cX4_init 57 = .ok (.putfield 29, 3) := by decide +kernel
theorem dX4_init_60 : decode cX4_init 60 = .ok (.aload_n 0, 1) := by decide +kernel
theorem dX4_init_61 : decode cX4_init 61 = .ok (.iconst 3, 1) := by decide +kernel
theorem dX4_init_62 : decode cX4_init 62 = .ok (.newarray .int, 2) := by decide +kernel
theorem dX4_init_64 : decode cX4_init 64 = .ok (.putfield 33, 3) := by decide +kernel
theorem dX4_init_67 : decode cX4_init 67 = .ok (.aload_n 0, 1) := by decide +kernel
theorem dX4_init_68 : decode cX4_init 68 = .ok (.bipush 6, 2) := by decide +kernel
theorem dX4_init_70 : decode cX4_init 70 = .ok (.newarray .int, 2) := by decide +kernel
theorem dX4_init_72 : decode cX4_init 72 = .ok (.putfield 36, 3) := by decide +kernel
theorem dX4_init_75 : decode cX4_init 75 = .ok (.aload_n 0, 1) := by decide +kernel
theorem dX4_init_76 : decode cX4_init 76 = .ok (.bipush 6, 2) := by decide +kernel
theorem dX4_init_78 : decode cX4_init 78 = .ok (.newarray .int, 2) := by decide +kernel
theorem dX4_init_80 : decode cX4_init 80 = .ok (.putfield 39, 3) := by decide +kernel
theorem dX4_init_83 : decode cX4_init 83 = .ok (.aload_n 0, 1) := by decide +kernel
theorem dX4_init_84 : decode cX4_init 84 = .ok (.bipush 6, 2) := by decide +kernel
theorem dX4_init_86 : decode cX4_init 86 = .ok (.newarray .int, 2) := by decide +kernel
theorem dX4_init_88 : decode cX4_init 88 = .ok (.putfield 42, 3) := by decide +kernel
theorem dX4_init_91 : decode cX4_init 91 = .ok (.aload_n 0, 1) := by decide +kernel
theorem dX4_init_92 : decode cX4_init 92 = .ok (.bipush 6, 2) := by decide +kernel
theorem dX4_init_94 : decode cX4_init 94 = .ok (.newarray .int, 2) := by decide +kernel
theorem dX4_init_96 : decode cX4_init 96 = .ok (.putfield 45, 3) := by decide +kernel
theorem dX4_init_99 : decode cX4_init 99 = .ok (.aload_n 0, 1) := by decide +kernel
theorem dX4_init_100 : decode cX4_init 100 = .ok (.bipush 6, 2) := by decide +kernel
theorem dX4_init_102 : decode cX4_init 102 = .ok (.newarray .int, 2) := by decide +kernel
theorem dX4_init_104 : decode cX4_init 104 = .ok (.putfield 48, 3) := by decide +kernel
theorem dX4_init_107 : decode cX4_init 107 = .ok (.aload_n 0, 1) := by decide +kernel
theorem dX4_init_108 : decode cX4_init 108 = .ok (.iconst 4, 1) := by decide +kernel
theorem dX4_init_109 : decode cX4_init 109 = .ok (.newarray .int, 2) := by decide +kernel
theorem dX4_init_111 : decode cX4_init 111 = .ok (.putfield 51, 3) := by decide +kernel
theorem dX4_init_114 : decode cX4_init 114 = .ok (.aload_n 0, 1) := by decide +kernel
theorem dX4_init_115 : decode cX4_init 115 = .ok (.bipush 12, 2) := by decide +kernel
theorem dX4_init_117 : decode cX4_init 117 = .ok (.newarray .int, 2) := by decide +kernel
theorem dX4_init_119 : decode cX4_init 119 = .ok (.putfield 54, 3) := by decide +kernel
theorem dX4_init_122 : decode cX4_init 122 = .ok (.aload_n 0, 1) := by decide +kernel
theorem dX4_init_123 : decode cX4_init 123 = .ok (.bipush 96, 2) := by decide +kernel
theorem dX4_init_125 : decode cX4_init 125 = .ok (.newarray .int, 2) := by decide +kernel
theorem dX4_init_127 : decode cX4_init 127 = .ok (.putfield 57, 3) := by decide +kernel
theorem dX4_init_130 : decode cX4_init 130 = .ok (.aload_n 0, 1) := by decide +kernel
theorem dX4_init_131 : decode cX4_init 131 = .ok (.iconst 3, 1) := by decide +kernel
theorem dX4_init_132 : decode cX4_init 132 = .ok (.newarray .int, 2) := by decide +kernel
theorem dX4_init_134 : decode cX4_init 134 = .ok (.putfield 60, 3) := by decide +kernel
theorem dX4_init_137 : decode cX4_init 137 = .ok (.aload_n 0, 1) := by decide +kernel
theorem dX4_init_138 : decode cX4_init 138 = .ok (.new 63, 3) := by decide +kernel
theorem dX4_init_141 : decode cX4_init 141 = .ok (.dup, 1) := by decide +kernel
theorem dX4_init_142 : decode cX4_init 142 = .ok (.invokespecial 65, 3) := by decide +kernel
theorem dX4_init_145 : decode cX4_init 145 = .ok (.putfield 66, 3) := by decide +kernel
theorem dX4_init_148 : decode cX4_init 148 = .ok (.aload_n 0, 1) := by decide +kernel
theorem dX4_init_149 : decode cX4_init 149 = .ok (.iconst 0, 1) := by decide +kernel
theorem dX4_init_150 : decode cX4_init 150 = .ok (.putfield 70, 3) := by decide +kernel
theorem dX4_init_153 : decode cX4_init 153 = .ok (.aload_n 0, 1) := by decide +kernel
theorem dX4_init_154 : decode cX4_init 154 = .ok (.iconst 0, 1) := by decide +kernel
theorem dX4_init_155 : decode cX4_init 155 = .ok (.putfield 74, 3) := by decide +kernel
theorem dX4_init_158 : decode cX4_init 158 = .ok (.aload_n 0, 1) := by decide +kernel
theorem dX4_init_159 : decode cX4_init 159 = .ok (.iconst 0, 1) := by decide +kernel
theorem dX4_init_160 : decode cX4_init 160 = .ok (.putfield 77, 3) := by decide +kernel
theorem dX4_init_163 : decode cX4_init 163 = .ok (.return_, 1) := by decide +kernel
theorem dX4_clear_0 : decode cX4_clear 0 = .ok (.aload_n 0, 1) := by decide +kernel
theorem dX4_clear_1 : decode cX4_clear 1 = .ok (.getfield 14, 3) := by decide +kernel
theorem dX4_clear_4 : decode cX4_clear 4 = .ok (.iconst 0, 1) := by decide +kernel
theorem dX4_clear_5 : decode cX4_clear 5 = .ok (.putfield 80, 3) := by decide +kernel
theorem dX4_clear_8 : decode cX4_clear 8 = .ok (.aload_n 0, 1) := by decide +kernel
theorem dX4_clear_9 : decode cX4_clear 9 = .ok (.getfield 20, 3) := by decide +kernel
theorem dX4_clear_12 : decode cX4_clear 12 = .ok (.iconst 0, 1) := by decide +kernel
theorem dX4_clear_13 : decode cX4_clear 13 = .ok (.putfield 80, 3) := by decide +kernel
theorem dX4_clear_16 : decode cX4_clear 16 = .ok (.aload_n 0, 1) := by decide +kernel
theorem dX4_clear_17 : decode cX4_clear 17 = .ok (.getfield 23, 3) := by decide +kernel
theorem dX4_clear_20 : decode cX4_clear 20 = .ok (.iconst 0, 1) := by decide +kernel
theorem dX4_clear_21 : decode cX4_clear 21 = .ok (.putfield 80, 3) := by decide +kernel
theorem dX4_clear_24 : decode cX4_clear 24 = .ok (.aload_n 0, 1) := by decide +kernel
theorem dX4_clear_25 : decode cX4_clear 25 = .ok (.getfield 26, 3) := by decide +kernel
theorem dX4_clear_28 : decode cX4_clear 28 = .ok (.iconst 0, 1) := by decide +kernel
theorem dX4_clear_29 : decode cX4_clear 29 = .ok (.putfield 80, 3) := by decide +kernel
theorem dX4_clear_32 : decode cX4_clear 32 = .ok (.aload_n 0, 1) := by decide +kernel
theorem dX4_clear_33 : decode cX4_clear 33 = .ok (.getfield 66, 3) := by decide +kernel
theorem dX4_clear_36 : decode cX4_clear 36 = .ok (.invokevirtual 83, 3) := by decide +kernel
theorem dX4_clear_39 : decode cX4_clear 39 = .ok (.aload_n 0, 1) := by decide +kernel
theorem dX4_clear_40 : decode cX4_clear 40 = .ok (.iconst 0, 1) := by decide +kernel
theorem dX4_clear_41 : decode cX4_clear 41 = .ok (.putfield 70, 3) := by decide +kernel
theorem dX4_clear_44 : decode cX4_clear 44 = .ok (.aload_n 0, 1) := by decide +kernel
theorem dX4_clear_45 : decode cX4_clear 45 = .ok (.iconst 0, 1) := by decide +kernel
theorem dX4_clear_46 : decode cX4_clear 46 = .ok (.putfield 74, 3) := by decide +kernel
theorem dX4_clear_49 : decode cX4_clear 49 = .ok (.aload_n 0, 1) := by decide +kernel
theorem dX4_clear_50 : decode cX4_clear 50 = .ok (.iconst 0, 1) := by decide +kernel
theorem dX4_clear_51 : decode cX4_clear 51 = .ok (.putfield 77, 3) := by decide +kernel
end
section
theorem dX4_clear_54 : decode cX4_clear 54 = .ok (.return_, 1) := by decide +kernel
theorem dX4_hasPart_0 : decode cX4_hasPart 0 = .ok (.aload_n 0, 1) := by decide +kernel
theorem dX4_hasPart_1 : decode cX4_hasPart 1 = .ok (.getfield 23, 3) := by decide +kernel
theorem dX4_hasPart_4 : decode cX4_hasPart 4 = .ok (.iload_n 1, 1) := by decide +kernel
theorem dX4_hasPart_5 : decode cX4_hasPart 5 = .ok (.invokevirtual 99, 3) := by decide +kernel
theorem dX4_hasPart_8 : decode cX4_hasPart 8 = .ok (.ifCond .eq 21, 3) := by decide +kernel
theorem dX4_hasPart_29 : decode cX4_hasPart 29 = .ok (.iconst 0, 1) := by decide +kernel
theorem dX4_hasPart_30 : decode cX4_hasPart 30 = .ok (.ireturn, 1) := by decide +kernel
theorem dX4_hasVerses_0 : decode cX4_hasVerses 0 = .ok (.iload_n 1, 1) := by decide +kernel
theorem dX4_hasVerses_1 : decode cX4_hasVerses 1 = .ok (.ifCond .lt 20, 3) := by decide +kernel
theorem dX4_hasVerses_4 : decode cX4_hasVerses 4 = .ok (.iload_n 1, 1) := by decide +kernel
theorem dX4_hasVerses_5 : decode cX4_hasVerses 5 = .ok (.iconst 1, 1) := by decide +kernel
theorem dX4_hasVerses_6 : decode cX4_hasVerses 6 = .ok (.aload_n 0, 1) := by decide +kernel
theorem dX4_hasVerses_7 : decode cX4_hasVerses 7 = .ok (.getfield 23, 3) := by decide +kernel
theorem dX4_hasVerses_10 : decode cX4_hasVerses 10 = .ok (.getfield 80, 3) := by decide +kernel
theorem dX4_hasVerses_13 : decode cX4_hasVerses 13 = .ok (.ishl, 1) := by decide +kernel
theorem dX4_hasVerses_14 : decode cX4_hasVerses 14 = .ok (.if_icmp .ge 7, 3) := by decide +kernel
theorem dX4_hasVerses_17 : decode cX4_hasVerses 17 = .ok (.iconst 1, 1) := by decide +kernel
theorem dX4_hasVerses_18 : decode cX4_hasVerses 18 = .ok (.goto 4, 3) := by decide +kernel
theorem dX4_hasVerses_21 : decode cX4_hasVerses 21 = .ok (.iconst 0, 1) := by decide +kernel
theorem dX4_hasVerses_22 : decode cX4_hasVerses 22 = .ok (.ireturn, 1) := by decide +kernel
theorem dX4_take_0 : decode cX4_take 0 = .ok (.aload_n 0, 1) := by decide +kernel
theorem dX4_take_1 : decode cX4_take 1 = .ok (.getfield 14, 3) := by decide +kernel
theorem dX4_take_4 : decode cX4_take 4 = .ok (.aload_n 1, 1) := by decide +kernel
theorem dX4_take_5 : decode cX4_take 5 = .ok (.getfield 14, 3) := by decide +kernel
theorem dX4_take_8 : decode cX4_take 8 = .ok (.invokevirtual 86, 3) := by decide +kernel
theorem dX4_take_11 : decode cX4_take 11 = .ok (.aload_n 0, 1) := by decide +kernel
theorem dX4_take_12 : decode cX4_take 12 = .ok (.getfield 20, 3) := by decide +kernel
theorem dX4_take_15 : decode cX4_take 15 = .ok (.aload_n 1, 1) := by decide +kernel
theorem dX4_take_16 : decode cX4_take 16 = .ok (.getfield 20, 3) := by decide +kernel
theorem dX4_take_19 : decode cX4_take 19 = .ok (.invokevirtual 86, 3) := by decide +kernel
theorem dX4_take_22 : decode cX4_take 22 = .ok (.aload_n 0, 1) := by decide +kernel
theorem dX4_take_23 : decode cX4_take 23 = .ok (.getfield 23, 3) := by decide +kernel
theorem dX4_take_26 : decode cX4_take 26 = .ok (.aload_n 1, 1) := by decide +kernel
theorem dX4_take_27 : decode cX4_take 27 = .ok (.getfield 23, 3) := by decide +kernel
theorem dX4_take_30 : decode cX4_take 30 = .ok (.invokevirtual 86, 3) := by decide +kernel
theorem dX4_take_33 : decode cX4_take 33 = .ok (.aload_n 0, 1) := by decide +kernel
theorem dX4_take_34 : decode cX4_take 34 = .ok (.getfield 26, 3) := by decide +kernel
theorem dX4_take_37 : decode cX4_take 37 = .ok (.aload_n 1, 1) := by decide +kernel
theorem dX4_take_38 : decode cX4_take 38 = .ok (.getfield 26, 3) := by decide +kernel
theorem dX4_take_41 : decode cX4_take 41 = .ok (.invokevirtual 86, 3) := by decide +kernel
theorem dX4_take_44 : decode cX4_take 44 = .ok (.aload_n 1, 1) := by decide +kernel
theorem dX4_take_45 : decode cX4_take 45 = .ok (.getfield 29, 3) := by decide +kernel
theorem dX4_take_48 : decode cX4_take 48 = .ok (.iconst 0, 1) := by decide +kernel
theorem dX4_take_49 : decode cX4_take 49 = .ok (.aload_n 0, 1) := by decide +kernel
theorem dX4_take_50 : decode cX4_take 50 = .ok (.getfield 29, 3) := by decide +kernel
theorem dX4_take_53 : decode cX4_take 53 = .ok (.iconst 0, 1) := by decide +kernel
theorem dX4_take_54 : decode cX4_take 54 = .ok (.aload_n 0, 1) := by decide +kernel
theorem dX4_take_55 : decode cX4_take 55 = .ok (.getfield 29, 3) := by decide +kernel
theorem dX4_take_58 : decode cX4_take 58 = .ok (.arraylength, 1) := by decide +kernel
theorem dX4_take_59 : decode cX4_take 59 = .ok (.invokestatic 90, 3) := by decide +kernel
theorem dX4_take_62 : decode cX4_take 62 = .ok (.aload_n 1, 1) := by decide +kernel
theorem dX4_take_63 : decode cX4_take 63 = .ok (.getfield 33, 3) := by decide +kernel
theorem dX4_take_66 : decode cX4_take 66 = .ok (.iconst 0, 1) := by decide +kernel
theorem dX4_take_67 : decode cX4_take 67 = .ok (.aload_n 0, 1) := by decide +kernel
theorem dX4_take_68 : decode cX4_take 68 = .ok (.getfield 33, 3) := by decide +kernel
theorem dX4_take_71 : decode cX4_take 71 = .ok (.iconst 0, 1) := by decide +kernel
theorem dX4_take_72 : decode cX4_take 72 = .ok (.aload_n 0, 1) := by decide +kernel
theorem dX4_take_73 : decode cX4_take 73 = .ok (.getfield 33, 3) := by decide +kernel
theorem dX4_take_76 : decode cX4_take 76 = .ok (.arraylength, 1) := by decide +kernel
theorem dX4_take_77 : decode cX4_take 77 = .ok (.invokestatic 90, 3) := by decide +kernel
theorem dX4_take_80 : decode cX4_take 80 = .ok (.aload_n 1, 1) := by decide +kernel
theorem dX4_take_81 : decode cX4_take 81 = .ok (.getfield 36, 3) := by decide +kernel
theorem dX4_take_84 : decode cX4_take 84 = .ok (.iconst 0, 1) := by decide +kernel
theorem dX4_take_85 : decode cX4_take 85 = .ok (.aload_n 0, 1) := by decide +kernel
theorem dX4_take_86 : decode cX4_take 86 = .ok (.getfield 36, 3) := by decide +kernel
theorem dX4_take_89 : decode cX4_take 89 = .ok (.iconst 0, 1) := by decide +kernel
theorem dX4_take_90 : decode cX4_take 90 = .ok (.aload_n 0, 1) := by decide +kernel
theorem dX4_take_91 : decode cX4_take 91 = .ok (.getfield 36, 3) := by decide +kernel
theorem dX4_take_94 : decode cX4_take 94 = .ok (.arraylength, 1) := by decide +kernel
theorem dX4_take_95 : decode cX4_take 95 = .ok (.invokestatic 90, 3) := by decide +kernel
theorem dX4_take_98 : decode cX4_take 98 = .ok (.aload_n 1, 1) := by decide +kernel
theorem dX4_take_99 : decode cX4_take 99 = .ok (.getfield 39, 3) := by decide +kernel
theorem dX4_take_102 : decode cX4_take 102 = .ok (.iconst 0, 1) := by decide +kernel
theorem dX4_take_103 : decode cX4_take 103 = .ok (.aload_n 0, 1) := by decide +kernel
theorem dX4_take_104 : decode cX4_take 104 = .ok (.getfield 39, 3) := by decide +kernel
theorem dX4_take_107 : decode cX4_take 107 = .ok (.iconst 0, 1) := by decide +kernel
theorem dX4_take_108 : decode cX4_take 108 = .ok (.aload_n 0, 1) := by decide +kernel
theorem dX4_take_109 : decode cX4_take 109 = .ok (.getfield 39, 3) := by decide +kernel
theorem dX4_take_112 : decode cX4_take 112 = .ok (.arraylength, 1) := by decide +kernel
theorem dX4_take_113 : decode cX4_take 113 = .ok (.invokestatic 90, 3) := by decide +kernel
theorem dX4_take_116 : decode cX4_take 116 = .ok (.aload_n 1, 1) := by decide +kernel
theorem dX4_take_117 : decode cX4_take 117 = .ok (.getfield 42, 3) := by decide +kernel
theorem dX4_take_120 : decode cX4_take 120 = .ok (.iconst 0, 1) := by decide +kernel
theorem dX4_take_121 : decode cX4_take 121 = .ok (.aload_n 0, 1) := by decide +kernel
theorem dX4_take_122 : decode cX4_take 122 = .ok (.getfield 42, 3) := by decide +kernel
theorem dX4_take_125 : decode cX4_take 125 = .ok (.iconst 0, 1) := by decide +kernel
theorem dX4_take_126 : decode cX4_take 126 = .ok (.aload_n 0, 1) := by decide +kernel
theorem dX4_take_127 : decode cX4_take 127 = .ok (.getfield 42, 3) := by decide +kernel
theorem dX4_take_130 : decode cX4_take 130 = .ok (.arraylength, 1) := by decide +kernel
theorem dX4_take_131 : decode cX4_take 131 = .ok (.invokestatic 90, 3) := by decide +kernel
theorem dX4_take_134 : decode cX4_take 134 = .ok (.aload_n 1, 1) := by decide +kernel
theorem dX4_take_135 : decode cX4_take 135 = .ok (.getfield 45, 3) := by decide +kernel
theorem dX4_take_138 : decode cX4_take 138 = .ok (.iconst 0, 1) := by decide +kernel
theorem dX4_take_139 : decode cX4_take 139 = .ok (.aload_n 0, 1) := by decide +kernel
theorem dX4_take_140 : decode cX4_take 140 = .ok (.getfield 45, 3) := by decide +kernel
theorem dX4_take_143 : decode cX4_take 143 = .ok (.iconst 0, 1) := by decide +kernel
theorem dX4_take_144 : decode cX4_take 144 = .ok (.aload_n 0, 1) := by decide +kernel
theorem dX4_take_145 : decode cX4_take 145 = .ok (.getfield 45, 3) := by decide +kernel
theorem dX4_take_148 : decode cX4_take 148 = .ok (.arraylength, 1) := by decide +kernel
theorem dX4_take_149 : decode cX4_take 149 = .ok (.invokestatic 90, 3) := by decide +kernel
theorem dX4_take_152 : decode cX4_take 152 = .ok (.aload_n 1, 1) := by decide +kernel
theorem dX4_take_153 : decode cX4_take 153 = .ok (.getfield 48, 3) := by decide +kernel
theorem dX4_take_156 : decode cX4_take 156 = .ok (.iconst 0, 1) := by decide +kernel
theorem dX4_take_157 : decode cX4_take 157 = .ok (.aload_n 0, 1) := by decide +kernel
theorem dX4_take_158 : decode cX4_take 158 = .ok (.getfield 48, 3) := by decide +kernel
theorem dX4_take_161 : decode cX4_take 161 = .ok (.iconst 0, 1) := by decide +kernel
theorem dX4_take_162 : decode cX4_take 162 = .ok (.aload_n 0, 1) := by decide +kernel
theorem dX4_take_163 : decode cX4_take 163 = .ok (.getfield 48, 3) := by decide +kernel
theorem dX4_take_166 : decode cX4_take 166 = .ok (.arraylength, 1) := by decide +kernel
theorem dX4_take_167 : decode cX4_take 167 = .ok (.invokestatic 90, 3) := by decide +kernel
theorem dX4_take_170 : decode cX4_take 170 = .ok (.aload_n 1, 1) := by decide +kernel
theorem dX4_take_171 : decode cX4_take 171 = .ok (.getfield 51, 3) := by decide +kernel
theorem dX4_take_174 : decode cX4_take 174 = .ok (.iconst 0, 1) := by decide +kernel
theorem dX4_take_175 : decode cX4_take 175 = .ok (.aload_n 0, 1) := by decide +kernel
theorem dX4_take_176 : decode cX4_take 176 = .ok (.getfield 51, 3) := by decide +kernel
theorem dX4_take_179 : decode cX4_take 179 = .ok (.iconst 0, 1) := by decide +kernel
theorem dX4_take_180 : decode cX4_take 180 = .ok (.aload_n 0, 1) := by decide +kernel
theorem dX4_take_181 : decode cX4_take 181 = .ok (.getfield 51, 3) := by decide +kernel
theorem dX4_take_184 : decode cX4_take 184 = .ok (.arraylength, 1) := by decide +kernel
theorem dX4_take_185 : decode cX4_take 185 = .ok (.invokestatic 90, 3) := by decide +kernel
theorem dX4_take_188 : decode cX4_take 188 = .ok (.aload_n 1, 1) := by decide +kernel
theorem dX4_take_189 : decode cX4_take 189 = .ok (.getfield 54, 3) := by decide +kernel
theorem dX4_take_192 : decode cX4_take 192 = .ok (.iconst 0, 1) := by decide +kernel
theorem dX4_take_193 : decode cX4_take 193 = .ok (.aload_n 0, 1) := by decide +kernel
theorem dX4_take_194 : decode cX4_take 194 = .ok (.getfield 54, 3) := by decide +kernel
theorem dX4_take_197 : decode cX4_take 197 = .ok (.iconst 0, 1) := by decide +kernel
theorem dX4_take_198 : decode cX4_take 198 = .ok (.aload_n 0, 1) := by decide +kernel
theorem dX4_take_199 : decode cX4_take 199 = .ok (.getfield 54, 3) := by decide +kernel
theorem dX4_take_202 : decode cX4_take 202 = .ok (.arraylength, 1) := by decide +kernel
theorem dX4_take_203 : decode cX4_take 203 = .ok (.invokestatic 90, 3) := by decide +kernel
theorem dX4_take_206 : decode cX4_take 206 = .ok (.aload_n 1, 1) := by decide +kernel
theorem dX4_take_207 : decode cX4_take 207 = .ok (.getfield 57, 3) := by decide +kernel
theorem dX4_take_210 : decode cX4_take 210 = .ok (.iconst 0, 1) := by decide +kernel
theorem dX4_take_211 : decode cX4_take 211 = .ok (.aload_n 0, 1) := by decide +kernel
theorem dX4_take_212 : decode cX4_take 212 = .ok (.getfield 57, 3) := by decide +kernel
theorem dX4_take_215 : decode cX4_take 215 = .ok (.iconst 0, 1) := by decide +kernel
theorem dX4_take_216 : decode cX4_take 216 = .ok (.aload_n 0, 1) := by decide +kernel
theorem dX4_take_217 : decode cX4_take 217 = .ok (.getfield 57, 3) := by decide +kernel
theorem dX4_take_220 : decode cX4_take 220 = .ok (.arraylength, 1) := by decide +kernel
theorem dX4_take_221 : decode cX4_take 221 = .ok (.invokestatic 90, 3) := by decide +kernel
theorem dX4_take_224 : decode cX4_take 224 = .ok (.aload_n 1, 1) := by decide +kernel
theorem dX4_take_225 : decode cX4_take 225 = .ok (.getfield 60, 3) := by decide +kernel
theorem dX4_take_228 : decode cX4_take 228 = .ok (.iconst 0, 1) := by decide +kernel
theorem dX4_take_229 : decode cX4_take 229 = .ok (.aload_n 0, 1) := by decide +kernel
theorem dX4_take_230 : decode cX4_take 230 = .ok (.getfield 60, 3) := by decide +kernel
theorem dX4_take_233 : decode cX4_take 233 = .ok (.iconst 0, 1) := by decide +kernel
theorem dX4_take_234 : decode cX4_take 234 = .ok (.aload_n 0, 1) := by decide +kernel
theorem dX4_take_235 : decode cX4_take 235 = .ok (.getfield 60, 3) := by decide +kernel
theorem dX4_take_238 : decode cX4_take 238 = .ok (.arraylength, 1) := by decide +kernel
theorem dX4_take_239 : decode cX4_take 239 = .ok (.invokestatic 90, 3) := by decide +kernel
theorem dX4_take_242 : decode cX4_take 242 = .ok (.aload_n 0, 1) := by decide +kernel
theorem dX4_take_243 : decode cX4_take 243 = .ok (.getfield 66, 3) := by decide +kernel
theorem dX4_take_246 : decode cX4_take 246 = .ok (.aload_n 1, 1) := by decide +kernel
theorem dX4_take_247 : decode cX4_take 247 = .ok (.getfield 66, 3) := by decide +kernel
theorem dX4_take_250 : decode cX4_take 250 = .ok (.invokevirtual 96, 3) := by decide +kernel
theorem dX4_take_253 : decode cX4_take 253 = .ok (.aload_n 0, 1) := by decide +kernel
theorem dX4_take_254 : decode cX4_take 254 = .ok (.aload_n 1, 1) := by decide +kernel
theorem dX4_take_255 : decode cX4_take 255 = .ok (.getfield 70, 3) := by decide +kernel
theorem dX4_take_258 : decode cX4_take 258 = .ok (.putfield 70, 3) := by decide +kernel
theorem dX4_take_261 : decode cX4_take 261 = .ok (.aload_n 0, 1) := by decide +kernel
theorem dX4_take_262 : decode cX4_take 262 = .ok (.aload_n 1, 1) := by decide +kernel
theorem dX4_take_263 : decode cX4_take 263 = .ok (.getfield 74, 3) := by decide +kernel
theorem dX4_take_266 : decode cX4_take 266 = .ok (.putfield 74, 3) := by decide +kernel
theorem dX4_take_269 : decode cX4_take 269 = .ok (.aload_n 0, 1) := by decide +kernel
theorem dX4_take_270 : decode cX4_take 270 = .ok (.aload_n 1, 1) := by decide +kernel
theorem dX4_take_271 : decode cX4_take 271 = .ok (.getfield 77, 3) := by decide +kernel
theorem dX4_take_274 : decode cX4_take 274 = .ok (.putfield 77, 3) := by decide +kernel
theorem dX4_take_277 : decode cX4_take 277 = .ok (.return_, 1) := by decide +kernel
theorem dX5_init_0 : decode cX5_init 0 = .ok (.aload_n 0, 1) := by decide +kernel
theorem dX5_init_1 : decode cX5_init 1 = .ok (.invokespecial 3, 3) := by decide +kernel
theorem dX5_init_4 : decode cX5_init 4 = .ok (.aload_n 0, 1) := by decide +kernel
theorem dX5_init_5 : decode cX5_init 5 = .ok (.bipush 7, 2) := by decide +kernel
theorem dX5_init_7 : decode cX5_init 7 = .ok (.newarray .long, 2) := by decide +kernel
theorem dX5_init_9 : decode cX5_init 9 = .ok (.putfield 9, 3) := by decide +kernel
theorem dX5_init_12 : decode cX5_init 12 = .ok (.aload_n 0, 1) := by decide +kernel
theorem dX5_init_13 : decode cX5_init 13 = .ok (.bipush 64, 2) := by decide +kernel
theorem dX5_init_15 : decode cX5_init 15 = .ok (.newarray .long, 2) := by decide +kernel
theorem dX5_init_17 : decode cX5_init 17 = .ok (.putfield 15, 3) := by decide +kernel
theorem dX5_init_20 : decode cX5_init 20 = .ok (.aload_n 0, 1) := by decide +kernel
theorem dX5_init_21 : decode cX5_init 21 = .ok (.iconst 0, 1) := by decide +kernel
theorem dX5_init_22 : decode cX5_init 22 = .ok (.putfield 18, 3) := by decide +kernel
theorem dX5_init_25 : decode cX5_init 25 = .ok (.aload_n 0, 1) := by decide +kernel
theorem dX5_init_26 : decode cX5_init 26 = .ok (.iconst 0, 1) := by decide +kernel
theorem dX5_init_27 : decode cX5_init 27 = .ok (.putfield 22, 3) := by decide +kernel
theorem dX5_init_30 : decode cX5_init 30 = .ok (.aload_n 0, 1) := by decide +kernel
theorem dX5_init_31 : decode cX5_init 31 = .ok (.aload_n 1, 1) := by decide +kernel
theorem dX5_init_32 : decode cX5_init 32 = .ok (.putfield 26, 3) := by decide +kernel
theorem dX5_init_35 : decode cX5_init 35 = .ok (.aload_n 0, 1) := by decide +kernel
theorem dX5_init_36 : decode cX5_init 36 = .ok (.aload_n 2, 1) := by decide +kernel
theorem dX5_init_37 : decode cX5_init 37 = .ok (.putfield 30, 3) := by decide +kernel
theorem dX5_init_40 : decode cX5_init 40 = .ok (.return_, 1) := by decide +kernel
theorem dX6_init_0 : decode cX6_init 0 = .ok (.aload_n 0, 1) := by decide +kernel
theorem dX6_init_1 : decode cX6_init 1 = .ok (.invokespecial 3, 3) := by decide +kernel
theorem dX6_init_4 : decode cX6_init 4 = .ok (.aload_n 0, 1) := by decide +kernel
theorem dX6_init_5 : decode cX6_init 5 = .ok (.iconst 0, 1) := by decide +kernel
theorem dX6_init_6 : decode cX6_init 6 = .ok (.putfield 9, 3) := by decide +kernel
theorem dX6_init_9 : decode cX6_init 9 = .ok (.aload_n 0, 1) := by decide +kernel
theorem dX6_init_10 : decode cX6_init 10 = .ok (.iload_n 1, 1) := by decide +kernel
theorem dX6_init_11 : decode cX6_init 11 = .ok (.newarray .int, 2) := by decide +kernel
theorem dX6_init_13 : decode cX6_init 13 = .ok (.putfield 15, 3) := by decide +kernel
theorem dX6_init_16 : decode cX6_init 16 = .ok (.return_, 1) := by decide +kernel
theorem dX6_find_0 : decode cX6_find 0 = .ok (.iconst 0, 1) := by decide +kernel
theorem dX6_find_1 : decode cX6_find 1 = .ok (.istore_n 2, 1) := by decide +kernel
theorem dX6_find_2 : decode cX6_find 2 = .ok (.iload_n 2, 1) := by decide +kernel
theorem dX6_find_3 : decode cX6_find 3 = .ok (.aload_n 0, 1) := by decide +kernel
theorem dX6_find_4 : decode cX6_find 4 = .ok (.getfield 9, 3) := by decide +kernel
theorem dX6_find_7 : decode cX6_find 7 = .ok (.if_icmp .ge 21, 3) := by decide +kernel
theorem dX6_find_28 : decode cX6_find 28 = .ok (.iconst (-1), 1) := by decide +kernel
theorem dX6_find_29 : decode cX6_find 29 = .ok (.ireturn, 1) := by decide +kernel
theorem dX6_holds_0 : decode cX6_holds 0 = .ok (.iload_n 1, 1) := by decide +kernel
theorem dX6_holds_1 : decode cX6_holds 1 = .ok (.ifCond .lt 15, 3) := by decide +kernel
theorem dX6_holds_4 : decode cX6_holds 4 = .ok (.iload_n 1, 1) := by decide +kernel
theorem dX6_holds_5 : decode cX6_holds 5 = .ok (.aload_n 0, 1) := by decide +kernel
theorem dX6_holds_6 : decode cX6_holds 6 = .ok (.getfield 9, 3) := by decide +kernel
theorem dX6_holds_9 : decode cX6_holds 9 = .ok (.if_icmp .ge 7, 3) := by decide +kernel
theorem dX6_holds_16 : decode cX6_holds 16 = .ok (.iconst 0, 1) := by decide +kernel
theorem dX6_holds_17 : decode cX6_holds 17 = .ok (.ireturn, 1) := by decide +kernel
theorem dX6_take_0 : decode cX6_take 0 = .ok (.aload_n 1, 1) := by decide +kernel
theorem dX6_take_1 : decode cX6_take 1 = .ok (.getfield 15, 3) := by decide +kernel
theorem dX6_take_4 : decode cX6_take 4 = .ok (.iconst 0, 1) := by decide +kernel
theorem dX6_take_5 : decode cX6_take 5 = .ok (.aload_n 0, 1) := by decide +kernel
theorem dX6_take_6 : decode cX6_take 6 = .ok (.getfield 15, 3) := by decide +kernel
theorem dX6_take_9 : decode cX6_take 9 = .ok (.iconst 0, 1) := by decide +kernel
theorem dX6_take_10 : decode cX6_take 10 = .ok (.aload_n 0, 1) := by decide +kernel
theorem dX6_take_11 : decode cX6_take 11 = .ok (.getfield 15, 3) := by decide +kernel
theorem dX6_take_14 : decode cX6_take 14 = .ok (.arraylength, 1) := by decide +kernel
theorem dX6_take_15 : decode cX6_take 15 = .ok (.invokestatic 23, 3) := by decide +kernel
theorem dX6_take_18 : decode cX6_take 18 = .ok (.aload_n 0, 1) := by decide +kernel
theorem dX6_take_19 : decode cX6_take 19 = .ok (.aload_n 1, 1) := by decide +kernel
theorem dX6_take_20 : decode cX6_take 20 = .ok (.getfield 9, 3) := by decide +kernel
theorem dX6_take_23 : decode cX6_take 23 = .ok (.putfield 9, 3) := by decide +kernel
theorem dX6_take_26 : decode cX6_take 26 = .ok (.return_, 1) := by decide +kernel
theorem dX7_init_0 : decode cX7_init 0 = .ok (.aload_n 0, 1) := by decide +kernel
theorem dX7_init_1 : decode cX7_init 1 = .ok (.invokespecial 3, 3) := by decide +kernel
theorem dX7_init_4 : decode cX7_init 4 = .ok (.aload_n 0, 1) := by decide +kernel
theorem dX7_init_5 : decode cX7_init 5 = .ok (.iconst 4, 1) := by decide +kernel
theorem dX7_init_6 : decode cX7_init 6 = .ok (.newarray .int, 2) := by decide +kernel
theorem dX7_init_8 : decode cX7_init 8 = .ok (.putfield 9, 3) := by decide +kernel
theorem dX7_init_11 : decode cX7_init 11 = .ok (.aload_n 0, 1) := by decide +kernel
theorem dX7_init_12 : decode cX7_init 12 = .ok (.iconst 4, 1) := by decide +kernel
theorem dX7_init_13 : decode cX7_init 13 = .ok (.newarray .int, 2) := by decide +kernel
theorem dX7_init_15 : decode cX7_init 15 = .ok (.putfield 15, 3) := by decide +kernel
theorem dX7_init_18 : decode cX7_init 18 = .ok (.aload_n 0, 1) := by decide +kernel
theorem dX7_init_19 : decode cX7_init 19 = .ok (.iconst 3, 1) := by decide +kernel
theorem dX7_init_20 : decode cX7_init 20 = .ok (.newarray .int, 2) := by decide +kernel
theorem dX7_init_22 : decode cX7_init 22 = .ok (.putfield 18, 3) := by decide +kernel
theorem dX7_init_25 : decode cX7_init 25 = .ok (.aload_n 0, 1) := by decide +kernel
theorem dX7_init_26 : decode cX7_init 26 = .ok (.aload_n 1, 1) := by decide +kernel
theorem dX7_init_27 : decode cX7_init 27 = .ok (.putfield 21, 3) := by decide +kernel
theorem dX7_init_30 : decode cX7_init 30 = .ok (.aload_n 0, 1) := by decide +kernel
theorem dX7_init_31 : decode cX7_init 31 = .ok (.aload_n 2, 1) := by decide +kernel
theorem dX7_init_32 : decode cX7_init 32 = .ok (.putfield 25, 3) := by decide +kernel
theorem dX7_init_35 : decode cX7_init 35 = .ok (.aload_n 0, 1) := by decide +kernel
theorem dX7_init_36 : decode cX7_init 36 = .ok (.aload_n 3, 1) := by decide +kernel
theorem dX7_init_37 : decode cX7_init 37 = .ok (.putfield 29, 3) := by decide +kernel
theorem dX7_init_40 : decode cX7_init 40 = .ok (.return_, 1) := by decide +kernel
theorem dX7_hold_0 : decode cX7_hold 0 = .ok (.aload_n 0, 1) := by decide +kernel
theorem dX7_hold_1 : decode cX7_hold 1 = .ok (.getfield 25, 3) := by decide +kernel
theorem dX7_hold_4 : decode cX7_hold 4 = .ok (.getfield 33, 3) := by decide +kernel
theorem dX7_hold_7 : decode cX7_hold 7 = .ok (.iconst 0, 1) := by decide +kernel
theorem dX7_hold_8 : decode cX7_hold 8 = .ok (.aload_n 0, 1) := by decide +kernel
theorem dX7_hold_9 : decode cX7_hold 9 = .ok (.getfield 18, 3) := by decide +kernel
theorem dX7_hold_12 : decode cX7_hold 12 = .ok (.iconst 0, 1) := by decide +kernel
theorem dX7_hold_13 : decode cX7_hold 13 = .ok (.aload_n 0, 1) := by decide +kernel
theorem dX7_hold_14 : decode cX7_hold 14 = .ok (.getfield 18, 3) := by decide +kernel
theorem dX7_hold_17 : decode cX7_hold 17 = .ok (.arraylength, 1) := by decide +kernel
theorem dX7_hold_18 : decode cX7_hold 18 = .ok (.invokestatic 38, 3) := by decide +kernel
theorem dX7_hold_21 : decode cX7_hold 21 = .ok (.iconst 0, 1) := by decide +kernel
theorem dX7_hold_22 : decode cX7_hold 22 = .ok (.istore_n 2, 1) := by decide +kernel
theorem dX7_hold_23 : decode cX7_hold 23 = .ok (.iconst 0, 1) := by decide +kernel
theorem dX7_hold_24 : decode cX7_hold 24 = .ok (.istore_n 3, 1) := by decide +kernel
theorem dX7_hold_25 : decode cX7_hold 25 = .ok (.iload_n 3, 1) := by decide +kernel
theorem dX7_hold_26 : decode cX7_hold 26 = .ok (.aload_n 0, 1) := by decide +kernel
theorem dX7_hold_27 : decode cX7_hold 27 = .ok (.getfield 21, 3) := by decide +kernel
theorem dX7_hold_30 : decode cX7_hold 30 = .ok (.getfield 44, 3) := by decide +kernel
theorem dX7_hold_33 : decode cX7_hold 33 = .ok (.getfield 50, 3) := by decide +kernel
theorem dX7_hold_36 : decode cX7_hold 36 = .ok (.if_icmp .ge 45, 3) := by decide +kernel
theorem dX7_hold_81 : decode cX7_hold 81 = .ok (.iload_n 2, 1) := by decide +kernel
theorem dX7_hold_82 : decode cX7_hold 82 = .ok (.ireturn, 1) := by decide +kernel
theorem dX8_init_0 : decode cX8_init 0 = .ok (.aload_n 0, 1) := by decide +kernel
theorem dX8_init_1 : decode cX8_init 1 = .ok (.invokespecial 3, 3) := by decide +kernel
theorem dX8_init_4 : decode cX8_init 4 = .ok (.aload_n 0, 1) := by decide +kernel
theorem dX8_init_5 : decode cX8_init 5 = .ok (.iconst 0, 1) := by decide +kernel
theorem dX8_init_6 : decode cX8_init 6 = .ok (.putfield 9, 3) := by decide +kernel
theorem dX8_init_9 : decode cX8_init 9 = .ok (.aload_n 0, 1) := by decide +kernel
theorem dX8_init_10 : decode cX8_init 10 = .ok (.iconst 0, 1) := by decide +kernel
theorem dX8_init_11 : decode cX8_init 11 = .ok (.putfield 15, 3) := by decide +kernel
theorem dX8_init_14 : decode cX8_init 14 = .ok (.aload_n 0, 1) := by decide +kernel
theorem dX8_init_15 : decode cX8_init 15 = .ok (.aload_n 1, 1) := by decide +kernel
theorem dX8_init_16 : decode cX8_init 16 = .ok (.putfield 18, 3) := by decide +kernel
theorem dX8_init_19 : decode cX8_init 19 = .ok (.aload_n 0, 1) := by decide +kernel
theorem dX8_init_20 : decode cX8_init 20 = .ok (.aload_n 2, 1) := by decide +kernel
theorem dX8_init_21 : decode cX8_init 21 = .ok (.putfield 22, 3) := by decide +kernel
theorem dX8_init_24 : decode cX8_init 24 = .ok (.return_, 1) := by decide +kernel
theorem dX8_tell_0 : decode cX8_tell 0 = .ok (.aload_n 0, 1) := by decide +kernel
theorem dX8_tell_1 : decode cX8_tell 1 = .ok (.getfield 22, 3) := by decide +kernel
theorem dX8_tell_4 : decode cX8_tell 4 = .ok (.invokevirtual 26, 3) := by decide +kernel
theorem dX8_tell_7 : decode cX8_tell 7 = .ok (.aload_n 0, 1) := by decide +kernel
theorem dX8_tell_8 : decode cX8_tell 8 = .ok (.iconst 0, 1) := by decide +kernel
theorem dX8_tell_9 : decode cX8_tell 9 = .ok (.putfield 9, 3) := by decide +kernel
theorem dX8_tell_12 : decode cX8_tell 12 = .ok (.aload_n 0, 1) := by decide +kernel
theorem dX8_tell_13 : decode cX8_tell 13 = .ok (.iconst 0, 1) := by decide +kernel
theorem dX8_tell_14 : decode cX8_tell 14 = .ok (.putfield 15, 3) := by decide +kernel
theorem dX8_tell_17 : decode cX8_tell 17 = .ok (.aload_n 0, 1) := by decide +kernel
theorem dX8_tell_18 : decode cX8_tell 18 = .ok (.getfield 18, 3) := by decide +kernel
theorem dX8_tell_21 : decode cX8_tell 21 = .ok (.iload_n 1, 1) := by decide +kernel
theorem dX8_tell_22 : decode cX8_tell 22 = .ok (.invokevirtual 31, 3) := by decide +kernel
theorem dX8_tell_25 : decode cX8_tell 25 = .ok (.iconst 0, 1) := by decide +kernel
theorem dX8_tell_26 : decode cX8_tell 26 = .ok (.istore_n 2, 1) := by decide +kernel
theorem dX8_tell_27 : decode cX8_tell 27 = .ok (.iconst 0, 1) := by decide +kernel
theorem dX8_tell_28 : decode cX8_tell 28 = .ok (.istore_n 3, 1) := by decide +kernel
theorem dX8_tell_29 : decode cX8_tell 29 = .ok (.iload_n 3, 1) := by decide +kernel
theorem dX8_tell_30 : decode cX8_tell 30 = .ok (.sipush 800, 3) := by decide +kernel
theorem dX8_tell_33 : decode cX8_tell 33 = .ok (.if_icmp .gt 187, 3) := by decide +kernel
theorem dX8_tell_36 : decode cX8_tell 36 = .ok (.aload_n 0, 1) := by decide +kernel
theorem dX8_tell_37 : decode cX8_tell 37 = .ok (.getfield 18, 3) := by decide +kernel
theorem dX8_tell_40 : decode cX8_tell 40 = .ok (.getfield 37, 3) := by decide +kernel
theorem dX8_tell_43 : decode cX8_tell 43 = .ok (.ifCond .eq 177, 3) := by decide +kernel
theorem dX8_tell_220 : decode cX8_tell 220 = .ok (.iload_n 2, 1) := by decide +kernel
theorem dX8_tell_221 : decode cX8_tell 221 = .ok (.ireturn, 1) := by decide +kernel
theorem dX9_init_0 : decode cX9_init 0 = .ok (.aload_n 0, 1) := by decide +kernel
theorem dX9_init_1 : decode cX9_init 1 = .ok (.invokespecial 3, 3) := by decide +kernel
theorem dX9_init_4 : decode cX9_init 4 = .ok (.aload_n 0, 1) := by decide +kernel
theorem dX9_init_5 : decode cX9_init 5 = .ok (.bipush 23, 2) := by decide +kernel
theorem dX9_init_7 : decode cX9_init 7 = .ok (.newarray .int, 2) := by decide +kernel
theorem dX9_init_9 : decode cX9_init 9 = .ok (.putfield 9, 3) := by decide +kernel
theorem dX9_init_12 : decode cX9_init 12 = .ok (.aload_n 0, 1) := by decide +kernel
theorem dX9_init_13 : decode cX9_init 13 = .ok (.iconst 0, 1) := by decide +kernel
theorem dX9_init_14 : decode cX9_init 14 = .ok (.putfield 15, 3) := by decide +kernel
theorem dX9_init_17 : decode cX9_init 17 = .ok (.aload_n 0, 1) := by decide +kernel
theorem dX9_init_18 : decode cX9_init 18 = .ok (.iconst 0, 1) := by decide +kernel
theorem dX9_init_19 : decode cX9_init 19 = .ok (.putfield 19, 3) := by decide +kernel
theorem dX9_init_22 : decode cX9_init 22 = .ok (.aload_n 0, 1) := by decide +kernel
theorem dX9_init_23 : decode cX9_init 23 = .ok (.iconst 0, 1) := by decide +kernel
theorem dX9_init_24 : decode cX9_init 24 = .ok (.putfield 22, 3) := by decide +kernel
theorem dX9_init_27 : decode cX9_init 27 = .ok (.aload_n 0, 1) := by decide +kernel
theorem dX9_init_28 : decode cX9_init 28 = .ok (.iconst 0, 1) := by decide +kernel
theorem dX9_init_29 : decode cX9_init 29 = .ok (.putfield 25, 3) := by decide +kernel
theorem dX9_init_32 : decode cX9_init 32 = .ok (.aload_n 0, 1) := by decide +kernel
theorem dX9_init_33 : decode cX9_init 33 = .ok (.iconst 0, 1) := by decide +kernel
theorem dX9_init_34 : decode cX9_init 34 = .ok (.putfield 28, 3) := by decide +kernel
theorem dX9_init_37 : decode cX9_init 37 = .ok (.aload_n 0, 1) := by decide +kernel
theorem dX9_init_38 : decode cX9_init 38 = .ok (.iconst 0, 1) := by decide +kernel
theorem dX9_init_39 : decode cX9_init 39 = .ok (.putfield 31, 3) := by decide +kernel
theorem dX9_init_42 : decode cX9_init 42 = .ok (.aload_n 0, 1) := by decide +kernel
theorem dX9_init_43 : decode cX9_init 43 = .ok (.iconst (-1), 1) := by decide +kernel
theorem dX9_init_44 : decode cX9_init 44 = .ok (.putfield 34, 3) := by decide +kernel
theorem dX9_init_47 : decode cX9_init 47 = .ok (.aload_n 0, 1) := by decide +kernel
theorem dX9_init_48 : decode cX9_init 48 = .ok (.aload_n 1, 1) := by decide +kernel
theorem dX9_init_49 : decode cX9_init 49 = .ok (.putfield 37, 3) := by decide +kernel
theorem dX9_init_52 : decode cX9_init 52 = .ok (.aload_n 0, 1) := by decide +kernel
theorem dX9_init_53 : decode cX9_init 53 = .ok (.ldc 41, 2) := by decide +kernel
theorem dX9_init_55 : decode cX9_init 55 = .ok (.iconst 0, 1) := by decide +kernel
theorem dX9_init_56 : decode cX9_init 56 = .ok (.invokevirtual 43, 3) := by decide +kernel
theorem dX9_init_59 : decode cX9_init 59 = .ok (.aload_n 0, 1) := by decide +kernel
theorem dX9_init_60 : decode cX9_init 60 = .ok (.ldc 47, 2) := by decide +kernel
theorem dX9_init_62 : decode cX9_init 62 = .ok (.bipush 13, 2) := by decide +kernel
theorem dX9_init_64 : decode cX9_init 64 = .ok (.invokevirtual 43, 3) := by decide +kernel
theorem dX9_init_67 : decode cX9_init 67 = .ok (.return_, 1) := by decide +kernel
theorem dX9_next_0 : decode cX9_next 0 = .ok (.aload_n 0, 1) := by decide +kernel
theorem dX9_next_1 : decode cX9_next 1 = .ok (.getfield 31, 3) := by decide +kernel
theorem dX9_next_4 : decode cX9_next 4 = .ok (.ifCond .eq 4, 3) := by decide +kernel
theorem dX9_next_8 : decode cX9_next 8 = .ok (.aload_n 0, 1) := by decide +kernel
theorem dX9_next_9 : decode cX9_next 9 = .ok (.getfield 19, 3) := by decide +kernel
theorem dX9_next_12 : decode cX9_next 12 = .ok (.aload_n 0, 1) := by decide +kernel
theorem dX9_next_13 : decode cX9_next 13 = .ok (.getfield 15, 3) := by decide +kernel
theorem dX9_next_16 : decode cX9_next 16 = .ok (.if_icmp .ge 44, 3) := by decide +kernel
theorem dX9_next_60 : decode cX9_next 60 = .ok (.aload_n 0, 1) := by decide +kernel
theorem dX9_next_61 : decode cX9_next 61 = .ok (.aload_n 0, 1) := by decide +kernel
theorem dX9_next_62 : decode cX9_next 62 = .ok (.getfield 19, 3) := by decide +kernel
theorem dX9_next_65 : decode cX9_next 65 = .ok (.putfield 25, 3) := by decide +kernel
theorem dX9_next_68 : decode cX9_next 68 = .ok (.aload_n 0, 1) := by decide +kernel
theorem dX9_next_69 : decode cX9_next 69 = .ok (.iconst 0, 1) := by decide +kernel
theorem dX9_next_70 : decode cX9_next 70 = .ok (.putfield 28, 3) := by decide +kernel
theorem dX9_next_73 : decode cX9_next 73 = .ok (.aload_n 0, 1) := by decide +kernel
theorem dX9_next_74 : decode cX9_next 74 = .ok (.getfield 19, 3) := by decide +kernel
theorem dX9_next_77 : decode cX9_next 77 = .ok (.aload_n 0, 1) := by decide +kernel
theorem dX9_next_78 : decode cX9_next 78 = .ok (.getfield 15, 3) := by decide +kernel
theorem dX9_next_81 : decode cX9_next 81 = .ok (.if_icmp .lt 11, 3) := by decide +kernel
theorem dX9_next_84 : decode cX9_next 84 = .ok (.aload_n 0, 1) := by decide +kernel
theorem dX9_next_85 : decode cX9_next 85 = .ok (.iconst 0, 1) := by decide +kernel
theorem dX9_next_86 : decode cX9_next 86 = .ok (.putfield 22, 3) := by decide +kernel
theorem dX9_next_89 : decode cX9_next 89 = .ok (.goto 51, 3) := by decide +kernel
theorem dX9_next_140 : decode cX9_next 140 = .ok (.return_, 1) := by decide +kernel
theorem dX9_packWords_0 : decode cX9_packWords 0 = .ok (.iload_n 2, 1) := by decide +kernel
theorem dX9_packWords_1 : decode cX9_packWords 1 = .ok (.istore_n 3, 1) := by decide +kernel
theorem dX9_packWords_2 : decode cX9_packWords 2 = .ok (.bipush 25, 2) := by decide +kernel
theorem dX9_packWords_4 : decode cX9_packWords 4 = .ok (.istore 4, 2) := by decide +kernel
theorem dX9_packWords_6 : decode cX9_packWords 6 = .ok (.iconst 0, 1) := by decide +kernel
theorem dX9_packWords_7 : decode cX9_packWords 7 = .ok (.istore 5, 2) := by decide +kernel
theorem dX9_packWords_9 : decode cX9_packWords 9 = .ok (.iload 5, 2) := by decide +kernel
theorem dX9_packWords_11 : decode cX9_packWords 11 = .ok (.aload_n 1, 1) := by decide +kernel
theorem dX9_packWords_12 : decode cX9_packWords 12 = .ok (.invokevirtual 49, 3) := by decide +kernel
theorem dX9_packWords_15 : decode cX9_packWords 15 = .ok (.if_icmp .ge 62, 3) := by decide +kernel
theorem dX9_packWords_18 : decode cX9_packWords 18 = .ok (.iload_n 3, 1) := by decide +kernel
theorem dX9_packWords_19 : decode cX9_packWords 19 = .ok (.bipush 23, 2) := by decide +kernel
theorem dX9_packWords_21 : decode cX9_packWords 21 = .ok (.if_icmp .ge 56, 3) := by decide +kernel
theorem dX9_packWords_24 : decode cX9_packWords 24 = .ok (.aload_n 1, 1) := by decide +kernel
theorem dX9_packWords_25 : decode cX9_packWords 25 = .ok (.iload 5, 2) := by decide +kernel
theorem dX9_packWords_27 : decode cX9_packWords 27 = .ok (.invokevirtual 55, 3) := by decide +kernel
theorem dX9_packWords_30 : decode cX9_packWords 30 = .ok (.istore 6, 2) := by decide +kernel
theorem dX9_packWords_32 : decode cX9_packWords 32 = .ok (.iload 6, 2) := by decide +kernel
theorem dX9_packWords_34 : decode cX9_packWords 34 = .ok (.bipush 32, 2) := by decide +kernel
theorem dX9_packWords_36 : decode cX9_packWords 36 = .ok (.if_icmp .ne 13, 3) := by decide +kernel
theorem dX9_packWords_39 : decode cX9_packWords 39 = .ok (.iinc 3 1, 3) := by decide +kernel
theorem dX9_packWords_42 : decode cX9_packWords 42 = .ok (.bipush 25, 2) := by decide +kernel
theorem dX9_packWords_44 : decode cX9_packWords 44 = .ok (.istore 4, 2) := by decide +kernel
theorem dX9_packWords_46 : decode cX9_packWords 46 = .ok (.goto 25, 3) := by decide +kernel
theorem dX9_packWords_49 : decode cX9_packWords 49 = .ok (.aload_n 0, 1) := by decide +kernel
theorem dX9_packWords_50 : decode cX9_packWords 50 = .ok (.getfield 9, 3) := by decide +kernel
theorem dX9_packWords_53 : decode cX9_packWords 53 = .ok (.iload_n 3, 1) := by decide +kernel
theorem dX9_packWords_54 : decode cX9_packWords 54 = .ok (.dup2, 1) := by decide +kernel
theorem dX9_packWords_55 : decode cX9_packWords 55 = .ok (.iaload, 1) := by decide +kernel
theorem dX9_packWords_56 : decode cX9_packWords 56 = .ok (.iload 6, 2) := by decide +kernel
theorem dX9_packWords_58 : decode cX9_packWords 58 = .ok (.bipush 97, 2) := by decide +kernel
theorem dX9_packWords_60 : decode cX9_packWords 60 = .ok (.isub, 1) := by decide +kernel
theorem dX9_packWords_61 : decode cX9_packWords 61 = .ok (.iconst 1, 1) := by decide +kernel
theorem dX9_packWords_62 : decode cX9_packWords 62 = .ok (.iadd, 1) := by decide +kernel
theorem dX9_packWords_63 : decode cX9_packWords 63 = .ok (.iload 4, 2) := by decide +kernel
theorem dX9_packWords_65 : decode cX9_packWords 65 = .ok (.ishl, 1) := by decide +kernel
theorem dX9_packWords_66 : decode cX9_packWords 66 = .ok (.ior, 1) := by decide +kernel
theorem dX9_packWords_67 : decode cX9_packWords 67 = .ok (.iastore, 1) := by decide +kernel
theorem dX9_packWords_68 : decode cX9_packWords 68 = .ok (.iinc 4 (-5), 3) := by decide +kernel
theorem dX9_packWords_71 : decode cX9_packWords 71 = .ok (.iinc 5 1, 3) := by decide +kernel
theorem dX9_packWords_74 : decode cX9_packWords 74 = .ok (.goto (-65), 3) := by decide +kernel
theorem dX9_packWords_77 : decode cX9_packWords 77 = .ok (.return_, 1) := by decide +kernel
theorem dX9_start_0 : decode cX9_start 0 = .ok (.aload_n 0, 1) := by decide +kernel
theorem dX9_start_1 : decode cX9_start 1 = .ok (.iload_n 1, 1) := by decide +kernel
theorem dX9_start_2 : decode cX9_start 2 = .ok (.aload_n 0, 1) := by decide +kernel
theorem dX9_start_3 : decode cX9_start 3 = .ok (.getfield 37, 3) := by decide +kernel
theorem dX9_start_6 : decode cX9_start 6 = .ok (.arraylength, 1) := by decide +kernel
theorem dX9_start_7 : decode cX9_start 7 = .ok (.invokestatic 59, 3) := by decide +kernel
theorem dX9_start_10 : decode cX9_start 10 = .ok (.putfield 15, 3) := by decide +kernel
theorem dX9_start_13 : decode cX9_start 13 = .ok (.aload_n 0, 1) := by decide +kernel
theorem dX9_start_14 : decode cX9_start 14 = .ok (.iconst 0, 1) := by decide +kernel
theorem dX9_start_15 : decode cX9_start 15 = .ok (.putfield 19, 3) := by decide +kernel
theorem dX9_start_18 : decode cX9_start 18 = .ok (.aload_n 0, 1) := by decide +kernel
theorem dX9_start_19 : decode cX9_start 19 = .ok (.iconst 0, 1) := by decide +kernel
theorem dX9_start_20 : decode cX9_start 20 = .ok (.putfield 31, 3) := by decide +kernel
theorem dX9_start_23 : decode cX9_start 23 = .ok (.aload_n 0, 1) := by decide +kernel
theorem dX9_start_24 : decode cX9_start 24 = .ok (.iconst (-1), 1) := by decide +kernel
theorem dX9_start_25 : decode cX9_start 25 = .ok (.putfield 34, 3) := by decide +kernel
theorem dX9_start_28 : decode cX9_start 28 = .ok (.aload_n 0, 1) := by decide +kernel
theorem dX9_start_29 : decode cX9_start 29 = .ok (.invokevirtual 65, 3) := by decide +kernel
theorem dX9_start_32 : decode cX9_start 32 = .ok (.return_, 1) := by decide +kernel
theorem dX10_init_0 : decode cX10_init 0 = .ok (.aload_n 0, 1) := by decide +kernel
theorem dX10_init_1 : decode cX10_init 1 = .ok (.invokespecial 3, 3) := by decide +kernel
theorem dX10_init_4 : decode cX10_init 4 = .ok (.aload_n 0, 1) := by decide +kernel
theorem dX10_init_5 : decode cX10_init 5 = .ok (.iconst 3, 1) := by decide +kernel
theorem dX10_init_6 : decode cX10_init 6 = .ok (.newarray .int, 2) := by decide +kernel
theorem dX10_init_8 : decode cX10_init 8 = .ok (.putfield 9, 3) := by decide +kernel
theorem dX10_init_11 : decode cX10_init 11 = .ok (.aload_n 0, 1) := by decide +kernel
theorem dX10_init_12 : decode cX10_init 12 = .ok (.bipush 6, 2) := by decide +kernel
theorem dX10_init_14 : decode cX10_init 14 = .ok (.newarray .int, 2) := by decide +kernel
theorem dX10_init_16 : decode cX10_init 16 = .ok (.putfield 15, 3) := by decide +kernel
theorem dX10_init_19 : decode cX10_init 19 = .ok (.aload_n 0, 1) := by decide +kernel
theorem dX10_init_20 : decode cX10_init 20 = .ok (.iconst 3, 1) := by decide +kernel
theorem dX10_init_21 : decode cX10_init 21 = .ok (.newarray .int, 2) := by decide +kernel
theorem dX10_init_23 : decode cX10_init 23 = .ok (.putfield 18, 3) := by decide +kernel
theorem dX10_init_26 : decode cX10_init 26 = .ok (.aload_n 0, 1) := by decide +kernel
theorem dX10_init_27 : decode cX10_init 27 = .ok (.bipush 12, 2) := by decide +kernel
theorem dX10_init_29 : decode cX10_init 29 = .ok (.newarray .int, 2) := by decide +kernel
theorem dX10_init_31 : decode cX10_init 31 = .ok (.putfield 21, 3) := by decide +kernel
theorem dX10_init_34 : decode cX10_init 34 = .ok (.aload_n 0, 1) := by decide +kernel
theorem dX10_init_35 : decode cX10_init 35 = .ok (.bipush 12, 2) := by decide +kernel
theorem dX10_init_37 : decode cX10_init 37 = .ok (.newarray .int, 2) := by decide +kernel
theorem dX10_init_39 : decode cX10_init 39 = .ok (.putfield 24, 3) := by decide +kernel
theorem dX10_init_42 : decode cX10_init 42 = .ok (.aload_n 0, 1) := by decide +kernel
theorem dX10_init_43 : decode cX10_init 43 = .ok (.bipush 12, 2) := by decide +kernel
theorem dX10_init_45 : decode cX10_init 45 = .ok (.newarray .int, 2) := by decide +kernel
theorem dX10_init_47 : decode cX10_init 47 = .ok (.putfield 27, 3) := by decide +kernel
theorem dX10_init_50 : decode cX10_init 50 = .ok (.aload_n 0, 1) := by decide +kernel
theorem dX10_init_51 : decode cX10_init 51 = .ok (.iconst 0, 1) := by decide +kernel
theorem dX10_init_52 : decode cX10_init 52 = .ok (.putfield 30, 3) := by decide +kernel
theorem dX10_init_55 : decode cX10_init 55 = .ok (.aload_n 0, 1) := by decide +kernel
theorem dX10_init_56 : decode cX10_init 56 = .ok (.iconst 0, 1) := by decide +kernel
theorem dX10_init_57 : decode cX10_init 57 = .ok (.putfield 34, 3) := by decide +kernel
theorem dX10_init_60 : decode cX10_init 60 = .ok (.aload_n 0, 1) := by decide +kernel
theorem dX10_init_61 : decode cX10_init 61 = .ok (.iconst 0, 1) := by decide +kernel
theorem dX10_init_62 : decode cX10_init 62 = .ok (.putfield 37, 3) := by decide +kernel
theorem dX10_init_65 : decode cX10_init 65 = .ok (.aload_n 0, 1) := by decide +kernel
theorem dX10_init_66 : decode cX10_init 66 = .ok (.iconst 0, 1) := by decide +kernel
theorem dX10_init_67 : decode cX10_init 67 = .ok (.putfield 40, 3) := by decide +kernel
theorem dX10_init_70 : decode cX10_init 70 = .ok (.aload_n 0, 1) := by decide +kernel
theorem dX10_init_71 : decode cX10_init 71 = .ok (.iconst 0, 1) := by decide +kernel
theorem dX10_init_72 : decode cX10_init 72 = .ok (.putfield 43, 3) := by decide +kernel
theorem dX10_init_75 : decode cX10_init 75 = .ok (.aload_n 0, 1) := by decide +kernel
theorem dX10_init_76 : decode cX10_init 76 = .ok (.iconst (-1), 1) := by decide +kernel
theorem dX10_init_77 : decode cX10_init 77 = .ok (.putfield 46, 3) := by decide +kernel
theorem dX10_init_80 : decode cX10_init 80 = .ok (.aload_n 0, 1) := by decide +kernel
theorem dX10_init_81 : decode cX10_init 81 = .ok (.iconst 0, 1) := by decide +kernel
theorem dX10_init_82 : decode cX10_init 82 = .ok (.putfield 49, 3) := by decide +kernel
theorem dX10_init_85 : decode cX10_init 85 = .ok (.return_, 1) := by decide +kernel
theorem dX10_allCoin_0 : decode cX10_allCoin 0 = .ok (.aload_n 0, 1) := by decide +kernel
theorem dX10_allCoin_1 : decode cX10_allCoin 1 = .ok (.getfield 37, 3) := by decide +kernel
theorem dX10_allCoin_4 : decode cX10_allCoin 4 = .ok (.aload_n 0, 1) := by decide +kernel
theorem dX10_allCoin_5 : decode cX10_allCoin 5 = .ok (.getfield 40, 3) := by decide +kernel
theorem dX10_allCoin_8 : decode cX10_allCoin 8 = .ok (.iadd, 1) := by decide +kernel
theorem dX10_allCoin_9 : decode cX10_allCoin 9 = .ok (.istore_n 1, 1) := by decide +kernel
theorem dX10_allCoin_10 : decode cX10_allCoin 10 = .ok (.aload_n 0, 1) := by decide +kernel
theorem dX10_allCoin_11 : decode cX10_allCoin 11 = .ok (.getfield 9, 3) := by decide +kernel
theorem dX10_allCoin_14 : decode cX10_allCoin 14 = .ok (.astore_n 2, 1) := by decide +kernel
theorem dX10_allCoin_15 : decode cX10_allCoin 15 = .ok (.aload_n 2, 1) := by decide +kernel
theorem dX10_allCoin_16 : decode cX10_allCoin 16 = .ok (.arraylength, 1) := by decide +kernel
theorem dX10_allCoin_17 : decode cX10_allCoin 17 = .ok (.istore_n 3, 1) := by decide +kernel
theorem dX10_allCoin_18 : decode cX10_allCoin 18 = .ok (.iconst 0, 1) := by decide +kernel
theorem dX10_allCoin_19 : decode cX10_allCoin 19 = .ok (.istore 4, 2) := by decide +kernel
theorem dX10_allCoin_21 : decode cX10_allCoin 21 = .ok (.iload 4, 2) := by decide +kernel
theorem dX10_allCoin_23 : decode cX10_allCoin 23 = .ok (.iload_n 3, 1) := by decide +kernel
theorem dX10_allCoin_24 : decode cX10_allCoin 24 = .ok (.if_icmp .ge 20, 3) := by decide +kernel
theorem dX10_allCoin_27 : decode cX10_allCoin 27 = .ok (.aload_n 2, 1) := by decide +kernel
theorem dX10_allCoin_28 : decode cX10_allCoin 28 = .ok (.iload 4, 2) := by decide +kernel
theorem dX10_allCoin_30 : decode cX10_allCoin 30 = .ok (.iaload, 1) := by decide +kernel
theorem dX10_allCoin_31 : decode cX10_allCoin 31 = .ok (.istore 5, 2) := by decide +kernel
theorem dX10_allCoin_33 : decode cX10_allCoin 33 = .ok (.iload_n 1, 1) := by decide +kernel
theorem dX10_allCoin_34 : decode cX10_allCoin 34 = .ok (.iload 5, 2) := by decide +kernel
theorem dX10_allCoin_36 : decode cX10_allCoin 36 = .ok (.iadd, 1) := by decide +kernel
theorem dX10_allCoin_37 : decode cX10_allCoin 37 = .ok (.istore_n 1, 1) := by decide +kernel
theorem dX10_allCoin_38 : decode cX10_allCoin 38 = .ok (.iinc 4 1, 3) := by decide +kernel
theorem dX10_allCoin_41 : decode cX10_allCoin 41 = .ok (.goto (-20), 3) := by decide +kernel
theorem dX10_allCoin_44 : decode cX10_allCoin 44 = .ok (.aload_n 0, 1) := by decide +kernel
theorem dX10_allCoin_45 : decode cX10_allCoin 45 = .ok (.getfield 18, 3) := by decide +kernel
theorem dX10_allCoin_48 : decode cX10_allCoin 48 = .ok (.astore_n 2, 1) := by decide +kernel
theorem dX10_allCoin_49 : decode cX10_allCoin 49 = .ok (.aload_n 2, 1) := by decide +kernel
theorem dX10_allCoin_50 : decode cX10_allCoin 50 = .ok (.arraylength, 1) := by decide +kernel
theorem dX10_allCoin_51 : decode cX10_allCoin 51 = .ok (.istore_n 3, 1) := by decide +kernel
theorem dX10_allCoin_52 : decode cX10_allCoin 52 = .ok (.iconst 0, 1) := by decide +kernel
theorem dX10_allCoin_53 : decode cX10_allCoin 53 = .ok (.istore 4, 2) := by decide +kernel
theorem dX10_allCoin_55 : decode cX10_allCoin 55 = .ok (.iload 4, 2) := by decide +kernel
theorem dX10_allCoin_57 : decode cX10_allCoin 57 = .ok (.iload_n 3, 1) := by decide +kernel
theorem dX10_allCoin_58 : decode cX10_allCoin 58 = .ok (.if_icmp .ge 20, 3) := by decide +kernel
theorem dX10_allCoin_61 : decode cX10_allCoin 61 = .ok (.aload_n 2, 1) := by decide +kernel
theorem dX10_allCoin_62 : decode cX10_allCoin 62 = .ok (.iload 4, 2) := by decide +kernel
theorem dX10_allCoin_64 : decode cX10_allCoin 64 = .ok (.iaload, 1) := by decide +kernel
theorem dX10_allCoin_65 : decode cX10_allCoin 65 = .ok (.istore 5, 2) := by decide +kernel
theorem dX10_allCoin_67 : decode cX10_allCoin 67 = .ok (.iload_n 1, 1) := by decide +kernel
theorem dX10_allCoin_68 : decode cX10_allCoin 68 = .ok (.iload 5, 2) := by decide +kernel
theorem dX10_allCoin_70 : decode cX10_allCoin 70 = .ok (.iadd, 1) := by decide +kernel
theorem dX10_allCoin_71 : decode cX10_allCoin 71 = .ok (.istore_n 1, 1) := by decide +kernel
theorem dX10_allCoin_72 : decode cX10_allCoin 72 = .ok (.iinc 4 1, 3) := by decide +kernel
theorem dX10_allCoin_75 : decode cX10_allCoin 75 = .ok (.goto (-20), 3) := by decide +kernel
theorem dX10_allCoin_78 : decode cX10_allCoin 78 = .ok (.iload_n 1, 1) := by decide +kernel
theorem dX10_allCoin_79 : decode cX10_allCoin 79 = .ok (.ireturn, 1) := by decide +kernel
theorem dX10_begin_0 : decode cX10_begin 0 = .ok (.aload_n 0, 1) := by decide +kernel
theorem dX10_begin_1 : decode cX10_begin 1 = .ok (.getfield 9, 3) := by decide +kernel
theorem dX10_begin_4 : decode cX10_begin 4 = .ok (.iconst 0, 1) := by decide +kernel
theorem dX10_begin_5 : decode cX10_begin 5 = .ok (.invokestatic 52, 3) := by decide +kernel
theorem dX10_begin_8 : decode cX10_begin 8 = .ok (.aload_n 0, 1) := by decide +kernel
theorem dX10_begin_9 : decode cX10_begin 9 = .ok (.getfield 18, 3) := by decide +kernel
theorem dX10_begin_12 : decode cX10_begin 12 = .ok (.iconst 0, 1) := by decide +kernel
theorem dX10_begin_13 : decode cX10_begin 13 = .ok (.invokestatic 52, 3) := by decide +kernel
theorem dX10_begin_16 : decode cX10_begin 16 = .ok (.aload_n 0, 1) := by decide +kernel
theorem dX10_begin_17 : decode cX10_begin 17 = .ok (.getfield 15, 3) := by decide +kernel
theorem dX10_begin_20 : decode cX10_begin 20 = .ok (.iconst 0, 1) := by decide +kernel
theorem dX10_begin_21 : decode cX10_begin 21 = .ok (.invokestatic 52, 3) := by decide +kernel
theorem dX10_begin_24 : decode cX10_begin 24 = .ok (.aload_n 1, 1) := by decide +kernel
theorem dX10_begin_25 : decode cX10_begin 25 = .ok (.getfield 58, 3) := by decide +kernel
theorem dX10_begin_28 : decode cX10_begin 28 = .ok (.iconst 0, 1) := by decide +kernel
theorem dX10_begin_29 : decode cX10_begin 29 = .ok (.aload_n 0, 1) := by decide +kernel
theorem dX10_begin_30 : decode cX10_begin 30 = .ok (.getfield 9, 3) := by decide +kernel
theorem dX10_begin_33 : decode cX10_begin 33 = .ok (.iconst 0, 1) := by decide +kernel
theorem dX10_begin_34 : decode cX10_begin 34 = .ok (.aload_n 1, 1) := by decide +kernel
theorem dX10_begin_35 : decode cX10_begin 35 = .ok (.getfield 61, 3) := by decide +kernel
theorem dX10_begin_38 : decode cX10_begin 38 = .ok (.getfield 65, 3) := by decide +kernel
theorem dX10_begin_41 : decode cX10_begin 41 = .ok (.invokestatic 70, 3) := by decide +kernel
theorem dX10_begin_44 : decode cX10_begin 44 = .ok (.aload_n 1, 1) := by decide +kernel
theorem dX10_begin_45 : decode cX10_begin 45 = .ok (.getfield 76, 3) := by decide +kernel
theorem dX10_begin_48 : decode cX10_begin 48 = .ok (.iconst 0, 1) := by decide +kernel
theorem dX10_begin_49 : decode cX10_begin 49 = .ok (.aload_n 0, 1) := by decide +kernel
theorem dX10_begin_50 : decode cX10_begin 50 = .ok (.getfield 18, 3) := by decide +kernel
theorem dX10_begin_53 : decode cX10_begin 53 = .ok (.iconst 0, 1) := by decide +kernel
theorem dX10_begin_54 : decode cX10_begin 54 = .ok (.aload_n 1, 1) := by decide +kernel
theorem dX10_begin_55 : decode cX10_begin 55 = .ok (.getfield 77, 3) := by decide +kernel
theorem dX10_begin_58 : decode cX10_begin 58 = .ok (.getfield 65, 3) := by decide +kernel
theorem dX10_begin_61 : decode cX10_begin 61 = .ok (.invokestatic 70, 3) := by decide +kernel
theorem dX10_begin_64 : decode cX10_begin 64 = .ok (.aload_n 0, 1) := by decide +kernel
theorem dX10_begin_65 : decode cX10_begin 65 = .ok (.invokevirtual 80, 3) := by decide +kernel
theorem dX10_begin_68 : decode cX10_begin 68 = .ok (.aload_n 0, 1) := by decide +kernel
theorem dX10_begin_69 : decode cX10_begin 69 = .ok (.iconst 0, 1) := by decide +kernel
theorem dX10_begin_70 : decode cX10_begin 70 = .ok (.putfield 34, 3) := by decide +kernel
theorem dX10_begin_73 : decode cX10_begin 73 = .ok (.aload_n 0, 1) := by decide +kernel
theorem dX10_begin_74 : decode cX10_begin 74 = .ok (.aload_n 1, 1) := by decide +kernel
theorem dX10_begin_75 : decode cX10_begin 75 = .ok (.getfield 83, 3) := by decide +kernel
theorem dX10_begin_78 : decode cX10_begin 78 = .ok (.putfield 37, 3) := by decide +kernel
theorem dX10_begin_81 : decode cX10_begin 81 = .ok (.aload_n 0, 1) := by decide +kernel
theorem dX10_begin_82 : decode cX10_begin 82 = .ok (.iconst 0, 1) := by decide +kernel
theorem dX10_begin_83 : decode cX10_begin 83 = .ok (.putfield 40, 3) := by decide +kernel
theorem dX10_begin_86 : decode cX10_begin 86 = .ok (.aload_n 0, 1) := by decide +kernel
theorem dX10_begin_87 : decode cX10_begin 87 = .ok (.iconst 0, 1) := by decide +kernel
theorem dX10_begin_88 : decode cX10_begin 88 = .ok (.putfield 43, 3) := by decide +kernel
theorem dX10_begin_91 : decode cX10_begin 91 = .ok (.aload_n 0, 1) := by decide +kernel
theorem dX10_begin_92 : decode cX10_begin 92 = .ok (.iconst (-1), 1) := by decide +kernel
theorem dX10_begin_93 : decode cX10_begin 93 = .ok (.putfield 46, 3) := by decide +kernel
theorem dX10_begin_96 : decode cX10_begin 96 = .ok (.aload_n 0, 1) := by decide +kernel
theorem dX10_begin_97 : decode cX10_begin 97 = .ok (.aload_n 1, 1) := by decide +kernel
theorem dX10_begin_98 : decode cX10_begin 98 = .ok (.getfield 84, 3) := by decide +kernel
theorem dX10_begin_101 : decode cX10_begin 101 = .ok (.putfield 49, 3) := by decide +kernel
theorem dX10_begin_104 : decode cX10_begin 104 = .ok (.return_, 1) := by decide +kernel
theorem dX10_dismissAll_0 : decode cX10_dismissAll 0 = .ok (.aload_n 0, 1) := by decide +kernel
theorem dX10_dismissAll_1 : decode cX10_dismissAll 1 = .ok (.iconst 0, 1) := by decide +kernel
theorem dX10_dismissAll_2 : decode cX10_dismissAll 2 = .ok (.putfield 30, 3) := by decide +kernel
theorem dX10_dismissAll_5 : decode cX10_dismissAll 5 = .ok (.aload_n 0, 1) := by decide +kernel
theorem dX10_dismissAll_6 : decode cX10_dismissAll 6 = .ok (.getfield 21, 3) := by decide +kernel
theorem dX10_dismissAll_9 : decode cX10_dismissAll 9 = .ok (.iconst (-1), 1) := by decide +kernel
theorem dX10_dismissAll_10 : decode cX10_dismissAll 10 = .ok (.invokestatic 52, 3) := by decide +kernel
theorem dX10_dismissAll_13 : decode cX10_dismissAll 13 = .ok (.return_, 1) := by decide +kernel
theorem dX10_take_0 : decode cX10_take 0 = .ok (.aload_n 1, 1) := by decide +kernel
theorem dX10_take_1 : decode cX10_take 1 = .ok (.getfield 9, 3) := by decide +kernel
theorem dX10_take_4 : decode cX10_take 4 = .ok (.iconst 0, 1) := by decide +kernel
theorem dX10_take_5 : decode cX10_take 5 = .ok (.aload_n 0, 1) := by decide +kernel
theorem dX10_take_6 : decode cX10_take 6 = .ok (.getfield 9, 3) := by decide +kernel
theorem dX10_take_9 : decode cX10_take 9 = .ok (.iconst 0, 1) := by decide +kernel
theorem dX10_take_10 : decode cX10_take 10 = .ok (.aload_n 0, 1) := by decide +kernel
theorem dX10_take_11 : decode cX10_take 11 = .ok (.getfield 9, 3) := by decide +kernel
theorem dX10_take_14 : decode cX10_take 14 = .ok (.arraylength, 1) := by decide +kernel
theorem dX10_take_15 : decode cX10_take 15 = .ok (.invokestatic 70, 3) := by decide +kernel
theorem dX10_take_18 : decode cX10_take 18 = .ok (.aload_n 1, 1) := by decide +kernel
theorem dX10_take_19 : decode cX10_take 19 = .ok (.getfield 15, 3) := by decide +kernel
theorem dX10_take_22 : decode cX10_take 22 = .ok (.iconst 0, 1) := by decide +kernel
theorem dX10_take_23 : decode cX10_take 23 = .ok (.aload_n 0, 1) := by decide +kernel
theorem dX10_take_24 : decode cX10_take 24 = .ok (.getfield 15, 3) := by decide +kernel
theorem dX10_take_27 : decode cX10_take 27 = .ok (.iconst 0, 1) := by decide +kernel
theorem dX10_take_28 : decode cX10_take 28 = .ok (.aload_n 0, 1) := by decide +kernel
theorem dX10_take_29 : decode cX10_take 29 = .ok (.getfield 15, 3) := by decide +kernel
theorem dX10_take_32 : decode cX10_take 32 = .ok (.arraylength, 1) := by decide +kernel
theorem dX10_take_33 : decode cX10_take 33 = .ok (.invokestatic 70, 3) := by decide +kernel
theorem dX10_take_36 : decode cX10_take 36 = .ok (.aload_n 1, 1) := by decide +kernel
theorem dX10_take_37 : decode cX10_take 37 = .ok (.getfield 18, 3) := by decide +kernel
theorem dX10_take_40 : decode cX10_take 40 = .ok (.iconst 0, 1) := by decide +kernel
theorem dX10_take_41 : decode cX10_take 41 = .ok (.aload_n 0, 1) := by decide +kernel
theorem dX10_take_42 : decode cX10_take 42 = .ok (.getfield 18, 3) := by decide +kernel
theorem dX10_take_45 : decode cX10_take 45 = .ok (.iconst 0, 1) := by decide +kernel
theorem dX10_take_46 : decode cX10_take 46 = .ok (.aload_n 0, 1) := by decide +kernel
theorem dX10_take_47 : decode cX10_take 47 = .ok (.getfield 18, 3) := by decide +kernel
theorem dX10_take_50 : decode cX10_take 50 = .ok (.arraylength, 1) := by decide +kernel
theorem dX10_take_51 : decode cX10_take 51 = .ok (.invokestatic 70, 3) := by decide +kernel
theorem dX10_take_54 : decode cX10_take 54 = .ok (.aload_n 1, 1) := by decide +kernel
theorem dX10_take_55 : decode cX10_take 55 = .ok (.getfield 21, 3) := by decide +kernel
theorem dX10_take_58 : decode cX10_take 58 = .ok (.iconst 0, 1) := by decide +kernel
theorem dX10_take_59 : decode cX10_take 59 = .ok (.aload_n 0, 1) := by decide +kernel
theorem dX10_take_60 : decode cX10_take 60 = .ok (.getfield 21, 3) := by decide +kernel
theorem dX10_take_63 : decode cX10_take 63 = .ok (.iconst 0, 1) := by decide +kernel
theorem dX10_take_64 : decode cX10_take 64 = .ok (.aload_n 0, 1) := by decide +kernel
theorem dX10_take_65 : decode cX10_take 65 = .ok (.getfield 21, 3) := by decide +kernel
theorem dX10_take_68 : decode cX10_take 68 = .ok (.arraylength, 1) := by decide +kernel
theorem dX10_take_69 : decode cX10_take 69 = .ok (.invokestatic 70, 3) := by decide +kernel
theorem dX10_take_72 : decode cX10_take 72 = .ok (.aload_n 1, 1) := by decide +kernel
theorem dX10_take_73 : decode cX10_take 73 = .ok (.getfield 24, 3) := by decide +kernel
theorem dX10_take_76 : decode cX10_take 76 = .ok (.iconst 0, 1) := by decide +kernel
theorem dX10_take_77 : decode cX10_take 77 = .ok (.aload_n 0, 1) := by decide +kernel
theorem dX10_take_78 : decode cX10_take 78 = .ok (.getfield 24, 3) := by decide +kernel
theorem dX10_take_81 : decode cX10_take 81 = .ok (.iconst 0, 1) := by decide +kernel
theorem dX10_take_82 : decode cX10_take 82 = .ok (.aload_n 0, 1) := by decide +kernel
theorem dX10_take_83 : decode cX10_take 83 = .ok (.getfield 24, 3) := by decide +kernel
theorem dX10_take_86 : decode cX10_take 86 = .ok (.arraylength, 1) := by decide +kernel
theorem dX10_take_87 : decode cX10_take 87 = .ok (.invokestatic 70, 3) := by decide +kernel
theorem dX10_take_90 : decode cX10_take 90 = .ok (.aload_n 1, 1) := by decide +kernel
theorem dX10_take_91 : decode cX10_take 91 = .ok (.getfield 27, 3) := by decide +kernel
theorem dX10_take_94 : decode cX10_take 94 = .ok (.iconst 0, 1) := by decide +kernel
theorem dX10_take_95 : decode cX10_take 95 = .ok (.aload_n 0, 1) := by decide +kernel
theorem dX10_take_96 : decode cX10_take 96 = .ok (.getfield 27, 3) := by decide +kernel
theorem dX10_take_99 : decode cX10_take 99 = .ok (.iconst 0, 1) := by decide +kernel
theorem dX10_take_100 : decode cX10_take 100 = .ok (.aload_n 0, 1) := by decide +kernel
theorem dX10_take_101 : decode cX10_take 101 = .ok (.getfield 27, 3) := by decide +kernel
theorem dX10_take_104 : decode cX10_take 104 = .ok (.arraylength, 1) := by decide +kernel
theorem dX10_take_105 : decode cX10_take 105 = .ok (.invokestatic 70, 3) := by decide +kernel
theorem dX10_take_108 : decode cX10_take 108 = .ok (.aload_n 0, 1) := by decide +kernel
theorem dX10_take_109 : decode cX10_take 109 = .ok (.aload_n 1, 1) := by decide +kernel
theorem dX10_take_110 : decode cX10_take 110 = .ok (.getfield 30, 3) := by decide +kernel
theorem dX10_take_113 : decode cX10_take 113 = .ok (.putfield 30, 3) := by decide +kernel
theorem dX10_take_116 : decode cX10_take 116 = .ok (.aload_n 0, 1) := by decide +kernel
theorem dX10_take_117 : decode cX10_take 117 = .ok (.aload_n 1, 1) := by decide +kernel
theorem dX10_take_118 : decode cX10_take 118 = .ok (.getfield 34, 3) := by decide +kernel
theorem dX10_take_121 : decode cX10_take 121 = .ok (.putfield 34, 3) := by decide +kernel
theorem dX10_take_124 : decode cX10_take 124 = .ok (.aload_n 0, 1) := by decide +kernel
theorem dX10_take_125 : decode cX10_take 125 = .ok (.aload_n 1, 1) := by decide +kernel
theorem dX10_take_126 : decode cX10_take 126 = .ok (.getfield 37, 3) := by decide +kernel
theorem dX10_take_129 : decode cX10_take 129 = .ok (.putfield 37, 3) := by decide +kernel
theorem dX10_take_132 : decode cX10_take 132 = .ok (.aload_n 0, 1) := by decide +kernel
theorem dX10_take_133 : decode cX10_take 133 = .ok (.aload_n 1, 1) := by decide +kernel
theorem dX10_take_134 : decode cX10_take 134 = .ok (.getfield 40, 3) := by decide +kernel
theorem dX10_take_137 : decode cX10_take 137 = .ok (.putfield 40, 3) := by decide +kernel
theorem dX10_take_140 : decode cX10_take 140 = .ok (.aload_n 0, 1) := by decide +kernel
theorem dX10_take_141 : decode cX10_take 141 = .ok (.aload_n 1, 1) := by decide +kernel
theorem dX10_take_142 : decode cX10_take 142 = .ok (.getfield 43, 3) := by decide +kernel
theorem dX10_take_145 : decode cX10_take 145 = .ok (.putfield 43, 3) := by decide +kernel
theorem dX10_take_148 : decode cX10_take 148 = .ok (.aload_n 0, 1) := by decide +kernel
theorem dX10_take_149 : decode cX10_take 149 = .ok (.aload_n 1, 1) := by decide +kernel
theorem dX10_take_150 : decode cX10_take 150 = .ok (.getfield 46, 3) := by decide +kernel
theorem dX10_take_153 : decode cX10_take 153 = .ok (.putfield 46, 3) := by decide +kernel
theorem dX10_take_156 : decode cX10_take 156 = .ok (.aload_n 0, 1) := by decide +kernel
theorem dX10_take_157 : decode cX10_take 157 = .ok (.aload_n 1, 1) := by decide +kernel
theorem dX10_take_158 : decode cX10_take 158 = .ok (.getfield 49, 3) := by decide +kernel
theorem dX10_take_161 : decode cX10_take 161 = .ok (.putfield 49, 3) := by decide +kernel
theorem dX10_take_164 : decode cX10_take 164 = .ok (.return_, 1) := by decide +kernel
theorem dX12_init_0 : decode cX12_init 0 = .ok (.aload_n 0, 1) := by decide +kernel
theorem dX12_init_1 : decode cX12_init 1 = .ok (.invokespecial 1, 3) := by decide +kernel
theorem dX12_init_4 : decode cX12_init 4 = .ok (.aload_n 0, 1) := by decide +kernel
theorem dX12_init_5 : decode cX12_init 5 = .ok (.sipush 800, 3) := by decide +kernel
theorem dX12_init_8 : decode cX12_init 8 = .ok (.newarray .int, 2) := by decide +kernel
theorem dX12_init_10 : decode cX12_init 10 = .ok (.putfield 7, 3) := by decide +kernel
theorem dX12_init_13 : decode cX12_init 13 = .ok (.aload_n 0, 1) := by decide +kernel
theorem dX12_init_14 : decode cX12_init 14 = .ok (.bipush 14, 2) := by decide +kernel
theorem dX12_init_16 : decode cX12_init 16 = .ok (.newarray .int, 2) := by decide +kernel
theorem dX12_init_18 : decode cX12_init 18 = .ok (.putfield 13, 3) := by decide +kernel
theorem dX12_init_21 : decode cX12_init 21 = .ok (.aload_n 0, 1) := by decide +kernel
theorem dX12_init_22 : decode cX12_init 22 = .ok (.bipush 6, 2) := by decide +kernel
theorem dX12_init_24 : decode cX12_init 24 = .ok (.newarray .int, 2) := by decide +kernel
theorem dX12_init_26 : decode cX12_init 26 = .ok (.putfield 16, 3) := by decide +kernel
theorem dX12_init_29 : decode cX12_init 29 = .ok (.aload_n 0, 1) := by decide +kernel
theorem dX12_init_30 : decode cX12_init 30 = .ok (.bipush 6, 2) := by decide +kernel
theorem dX12_init_32 : decode cX12_init 32 = .ok (.newarray .int, 2) := by decide +kernel
theorem dX12_init_34 : decode cX12_init 34 = .ok (.putfield 19, 3) := by decide +kernel
theorem dX12_init_37 : decode cX12_init 37 = .ok (.aload_n 0, 1) := by decide +kernel
theorem dX12_init_38 : decode cX12_init 38 = .ok (.bipush 6, 2) := by decide +kernel
theorem dX12_init_40 : decode cX12_init 40 = .ok (.newarray .int, 2) := by decide +kernel
theorem dX12_init_42 : decode cX12_init 42 = .ok (.putfield 22, 3) := by decide +kernel
theorem dX12_init_45 : decode cX12_init 45 = .ok (.aload_n 0, 1) := by decide +kernel
theorem dX12_init_46 : decode cX12_init 46 = .ok (.bipush 12, 2) := by decide +kernel
theorem dX12_init_48 : decode cX12_init 48 = .ok (.newarray .int, 2) := by decide +kernel
theorem dX12_init_50 : decode cX12_init 50 = .ok (.putfield 25, 3) := by decide +kernel
theorem dX12_init_53 : decode cX12_init 53 = .ok (.aload_n 0, 1) := by decide +kernel
theorem dX12_init_54 : decode cX12_init 54 = .ok (.bipush 12, 2) := by decide +kernel
theorem dX12_init_56 : decode cX12_init 56 = .ok (.newarray .int, 2) := by decide +kernel
theorem dX12_init_58 : decode cX12_init 58 = .ok (.putfield 28, 3) := by decide +kernel
theorem dX12_init_61 : decode cX12_init 61 = .ok (.aload_n 0, 1) := by decide +kernel
theorem dX12_init_62 : decode cX12_init 62 = .ok (.bipush 12, 2) := by decide +kernel
theorem dX12_init_64 : decode cX12_init 64 = .ok (.newarray .int, 2) := by decide +kernel
theorem dX12_init_66 : decode cX12_init 66 = .ok (.putfield 31, 3) := by decide +kernel
theorem dX12_init_69 : decode cX12_init 69 = .ok (.aload_n 0, 1) := by decide +kernel
theorem dX12_init_70 : decode cX12_init 70 = .ok (.bipush 12, 2) := by decide +kernel
theorem dX12_init_72 : decode cX12_init 72 = .ok (.newarray .boolean, 2) := by decide +kernel
theorem dX12_init_74 : decode cX12_init 74 = .ok (.putfield 34, 3) := by decide +kernel
theorem dX12_init_77 : decode cX12_init 77 = .ok (.aload_n 0, 1) := by decide +kernel
theorem dX12_init_78 : decode cX12_init 78 = .ok (.bipush 12, 2) := by decide +kernel
theorem dX12_init_80 : decode cX12_init 80 = .ok (.newarray .int, 2) := by decide +kernel
theorem dX12_init_82 : decode cX12_init 82 = .ok (.dup, 1) := by decide +kernel
theorem dX12_init_83 : decode cX12_init 83 = .ok (.iconst 0, 1) := by decide +kernel
theorem dX12_init_84 : decode cX12_init 84 = .ok (.iconst (-1), 1) := by decide +kernel
theorem dX12_init_85 : decode cX12_init 85 = .ok (.iastore, 1) := by decide +kernel
theorem dX12_init_86 : decode cX12_init 86 = .ok (.dup, 1) := by decide +kernel
theorem dX12_init_87 : decode cX12_init 87 = .ok (.iconst 1, 1) := by decide +kernel
theorem dX12_init_88 : decode cX12_init 88 = .ok (.iconst (-1), 1) := by decide +kernel
theorem dX12_init_89 : decode cX12_init 89 = .ok (.iastore, 1) := by decide +kernel
theorem dX12_init_90 : decode cX12_init 90 = .ok (.dup, 1) := by decide +kernel
theorem dX12_init_91 : decode cX12_init 91 = .ok (.iconst 2, 1) := by decide +kernel
theorem dX12_init_92 : decode cX12_init 92 = .ok (.iconst (-1), 1) := by decide +kernel
theorem dX12_init_93 : decode cX12_init 93 = .ok (.iastore, 1) := by decide +kernel
theorem dX12_init_94 : decode cX12_init 94 = .ok (.dup, 1) := by decide +kernel
theorem dX12_init_95 : decode cX12_init 95 = .ok (.iconst 3, 1) := by decide +kernel
theorem dX12_init_96 : decode cX12_init 96 = .ok (.iconst (-1), 1) := by decide +kernel
theorem dX12_init_97 : decode cX12_init 97 = .ok (.iastore, 1) := by decide +kernel
theorem dX12_init_98 : decode cX12_init 98 = .ok (.dup, 1) := by decide +kernel
theorem dX12_init_99 : decode cX12_init 99 = .ok (.iconst 4, 1) := by decide +kernel
theorem dX12_init_100 : decode cX12_init 100 = .ok (.iconst (-1), 1) := by decide +kernel
theorem dX12_init_101 : decode cX12_init 101 = .ok (.iastore, 1) := by decide +kernel
theorem dX12_init_102 : decode cX12_init 102 = .ok (.dup, 1) := by decide +kernel
theorem dX12_init_103 : decode cX12_init 103 = .ok (.iconst 5, 1) := by decide +kernel
theorem dX12_init_104 : decode cX12_init 104 = .ok (.iconst (-1), 1) := by decide +kernel
theorem dX12_init_105 : decode cX12_init 105 = .ok (.iastore, 1) := by decide +kernel
theorem dX12_init_106 : decode cX12_init 106 = .ok (.dup, 1) := by decide +kernel
theorem dX12_init_107 : decode cX12_init 107 = .ok (.bipush 6, 2) := by decide +kernel
theorem dX12_init_109 : decode cX12_init 109 = .ok (.iconst (-1), 1) := by decide +kernel
theorem dX12_init_110 : decode cX12_init 110 = .ok (.iastore, 1) := by decide +kernel
theorem dX12_init_111 : decode cX12_init 111 = .ok (.dup, 1) := by decide +kernel
theorem dX12_init_112 : decode cX12_init 112 = .ok (.bipush 7, 2) := by decide +kernel
theorem dX12_init_114 : decode cX12_init 114 = .ok (.iconst (-1), 1) := by decide +kernel
theorem dX12_init_115 : decode cX12_init 115 = .ok (.iastore, 1) := by decide +kernel
theorem dX12_init_116 : decode cX12_init 116 = .ok (.dup, 1) := by decide +kernel
theorem dX12_init_117 : decode cX12_init 117 = .ok (.bipush 8, 2) := by decide +kernel
theorem dX12_init_119 : decode cX12_init 119 = .ok (.iconst (-1), 1) := by decide +kernel
theorem dX12_init_120 : decode cX12_init 120 = .ok (.iastore, 1) := by decide +kernel
theorem dX12_init_121 : decode cX12_init 121 = .ok (.dup, 1) := by decide +kernel
theorem dX12_init_122 : decode cX12_init 122 = .ok (.bipush 9, 2) := by decide +kernel
theorem dX12_init_124 : decode cX12_init 124 = .ok (.iconst (-1), 1) := by decide +kernel
theorem dX12_init_125 : decode cX12_init 125 = .ok (.iastore, 1) := by decide +kernel
theorem dX12_init_126 : decode cX12_init 126 = .ok (.dup, 1) := by decide +kernel
theorem dX12_init_127 : decode cX12_init 127 = .ok (.bipush 10, 2) := by decide +kernel
theorem dX12_init_129 : decode cX12_init 129 = .ok (.iconst (-1), 1) := by decide +kernel
theorem dX12_init_130 : decode cX12_init 130 = .ok (.iastore, 1) := by decide +kernel
theorem dX12_init_131 : decode cX12_init 131 = .ok (.dup, 1) := by decide +kernel
theorem dX12_init_132 : decode cX12_init 132 = .ok (.bipush 11, 2) := by decide +kernel
theorem dX12_init_134 : decode cX12_init 134 = .ok (.iconst (-1), 1) := by decide +kernel
theorem dX12_init_135 : decode cX12_init 135 = .ok (.iastore, 1) := by decide +kernel
theorem dX12_init_136 : decode cX12_init 136 = .ok (.putfield 38, 3) := by decide +kernel
theorem dX12_init_139 : decode cX12_init 139 = .ok (.aload_n 0, 1) := by decide +kernel
theorem dX12_init_140 : decode cX12_init 140 = .ok (.bipush 12, 2) := by decide +kernel
theorem dX12_init_142 : decode cX12_init 142 = .ok (.newarray .int, 2) := by decide +kernel
theorem dX12_init_144 : decode cX12_init 144 = .ok (.putfield 41, 3) := by decide +kernel
theorem dX12_init_147 : decode cX12_init 147 = .ok (.aload_n 0, 1) := by decide +kernel
theorem dX12_init_148 : decode cX12_init 148 = .ok (.bipush 12, 2) := by decide +kernel
theorem dX12_init_150 : decode cX12_init 150 = .ok (.newarray .int, 2) := by decide +kernel
theorem dX12_init_152 : decode cX12_init 152 = .ok (.putfield 44, 3) := by decide +kernel
theorem dX12_init_155 : decode cX12_init 155 = .ok (.aload_n 0, 1) := by decide +kernel
theorem dX12_init_156 : decode cX12_init 156 = .ok (.bipush 8, 2) := by decide +kernel
theorem dX12_init_158 : decode cX12_init 158 = .ok (.newarray .int, 2) := by decide +kernel
theorem dX12_init_160 : decode cX12_init 160 = .ok (.putfield 47, 3) := by decide +kernel
theorem dX12_init_163 : decode cX12_init 163 = .ok (.aload_n 0, 1) := by decide +kernel
theorem dX12_init_164 : decode cX12_init 164 = .ok (.bipush 8, 2) := by decide +kernel
theorem dX12_init_166 : decode cX12_init 166 = .ok (.newarray .int, 2) := by decide +kernel
theorem dX12_init_168 : decode cX12_init 168 = .ok (.putfield 50, 3) := by decide +kernel
theorem dX12_init_171 : decode cX12_init 171 = .ok (.aload_n 0, 1) := by decide +kernel
theorem dX12_init_172 : decode cX12_init 172 = .ok (.bipush 24, 2) := by decide +kernel
theorem dX12_init_174 : decode cX12_init 174 = .ok (.newarray .int, 2) := by decide +kernel
theorem dX12_init_176 : decode cX12_init 176 = .ok (.putfield 53, 3) := by decide +kernel
theorem dX12_init_179 : decode cX12_init 179 = .ok (.aload_n 0, 1) := by decide +kernel
theorem dX12_init_180 : decode cX12_init 180 = .ok (.sipush 192, 3) := by decide +kernel
theorem dX12_init_183 : decode cX12_init 183 = .ok (.newarray .int, 2) := by decide +kernel
theorem dX12_init_185 : decode cX12_init 185 = .ok (.putfield 56, 3) := by decide +kernel
theorem dX12_init_188 : decode cX12_init 188 = .ok (.aload_n 0, 1) := by decide +kernel
theorem dX12_init_189 : decode cX12_init 189 = .ok (.bipush 6, 2) := by decide +kernel
theorem dX12_init_191 : decode cX12_init 191 = .ok (.newarray .int, 2) := by decide +kernel
theorem dX12_init_193 : decode cX12_init 193 = .ok (.putfield 59, 3) := by decide +kernel
theorem dX12_init_196 : decode cX12_init 196 = .ok (.aload_n 0, 1) := by decide +kernel
theorem dX12_init_197 : decode cX12_init 197 = .ok (.bipush 6, 2) := by decide +kernel
theorem dX12_init_199 : decode cX12_init 199 = .ok (.newarray .int, 2) := by decide +kernel
theorem dX12_init_201 : decode cX12_init 201 = .ok (.putfield 62, 3) := by decide +kernel
theorem dX12_init_204 : decode cX12_init 204 = .ok (.aload_n 0, 1) := by decide +kernel
theorem dX12_init_205 : decode cX12_init 205 = .ok (.bipush 10, 2) := by decide +kernel
theorem dX12_init_207 : decode cX12_init 207 = .ok (.newarray .int, 2) := by decide +kernel
theorem dX12_init_209 : decode cX12_init 209 = .ok (.putfield 65, 3) := by decide +kernel
theorem dX12_init_212 : decode cX12_init 212 = .ok (.aload_n 0, 1) := by decide +kernel
theorem dX12_init_213 : decode cX12_init 213 = .ok (.bipush 10, 2) := by decide +kernel
theorem dX12_init_215 : decode cX12_init 215 = .ok (.newarray .int, 2) := by decide +kernel
theorem dX12_init_217 : decode cX12_init 217 = .ok (.putfield 68, 3) := by decide +kernel
theorem dX12_init_220 : decode cX12_init 220 = .ok (.aload_n 0, 1) := by decide +kernel
theorem dX12_init_221 : decode cX12_init 221 = .ok (.sipush 128, 3) := by decide +kernel
theorem dX12_init_224 : decode cX12_init 224 = .ok (.newarray .int, 2) := by decide +kernel
theorem dX12_init_226 : decode cX12_init 226 = .ok (.putfield 71, 3) := by decide +kernel
theorem dX12_init_229 : decode cX12_init 229 = .ok (.aload_n 0, 1) := by decide +kernel
theorem dX12_init_230 : decode cX12_init 230 = .ok (.sipush 128, 3) := by decide +kernel
theorem dX12_init_233 : decode cX12_init 233 = .ok (.newarray .int, 2) := by decide +kernel
theorem dX12_init_235 : decode cX12_init 235 = .ok (.putfield 74, 3) := by decide +kernel
theorem dX12_init_238 : decode cX12_init 238 = .ok (.aload_n 0, 1) := by decide +kernel
theorem dX12_init_239 : decode cX12_init 239 = .ok (.iconst (-1), 1) := by decide +kernel
theorem dX12_init_240 : decode cX12_init 240 = .ok (.putfield 77, 3) := by decide +kernel
theorem dX12_init_243 : decode cX12_init 243 = .ok (.aload_n 0, 1) := by decide +kernel
theorem dX12_init_244 : decode cX12_init 244 = .ok (.iconst 2, 1) := by decide +kernel
theorem dX12_init_245 : decode cX12_init 245 = .ok (.newarray .int, 2) := by decide +kernel
theorem dX12_init_247 : decode cX12_init 247 = .ok (.putfield 81, 3) := by decide +kernel
theorem dX12_init_250 : decode cX12_init 250 = .ok (.aload_n 0, 1) := by decide +kernel
theorem dX12_init_251 : decode cX12_init 251 = .ok (.iconst 2, 1) := by decide +kernel
theorem dX12_init_252 : decode cX12_init 252 = .ok (.newarray .int, 2) := by decide +kernel
theorem dX12_init_254 : decode cX12_init 254 = .ok (.putfield 84, 3) := by decide +kernel
theorem dX12_init_257 : decode cX12_init 257 = .ok (.aload_n 0, 1) := by decide +kernel
theorem dX12_init_258 : decode cX12_init 258 = .ok (.iconst 2, 1) := by decide +kernel
theorem dX12_init_259 : decode cX12_init 259 = .ok (.newarray .int, 2) := by decide +kernel
theorem dX12_init_261 : decode cX12_init 261 = .ok (.putfield 87, 3) := by decide +kernel
theorem dX12_init_264 : decode cX12_init 264 = .ok (.aload_n 0, 1) := by decide +kernel
theorem dX12_init_265 : decode cX12_init 265 = .ok (.iconst 2, 1) := by decide +kernel
theorem dX12_init_266 : decode cX12_init 266 = .ok (.newarray .int, 2) := by decide +kernel
theorem dX12_init_268 : decode cX12_init 268 = .ok (.putfield 90, 3) := by decide +kernel
theorem dX12_init_271 : decode cX12_init 271 = .ok (.aload_n 0, 1) := by decide +kernel
theorem dX12_init_272 : decode cX12_init 272 = .ok (.iconst 2, 1) := by decide +kernel
theorem dX12_init_273 : decode cX12_init 273 = .ok (.newarray .int, 2) := by decide +kernel
theorem dX12_init_275 : decode cX12_init 275 = .ok (.putfield 93, 3) := by decide +kernel
theorem dX12_init_278 : decode cX12_init 278 = .ok (.aload_n 0, 1) := by decide +kernel
theorem dX12_init_279 : decode cX12_init 279 = .ok (.bipush 6, 2) := by decide +kernel
theorem dX12_init_281 : decode cX12_init 281 = .ok (.newarray .int, 2) := by decide +kernel
theorem dX12_init_283 : decode cX12_init 283 = .ok (.putfield 96, 3) := by decide +kernel
theorem dX12_init_286 : decode cX12_init 286 = .ok (.aload_n 0, 1) := by decide +kernel
theorem dX12_init_287 : decode cX12_init 287 = .ok (.bipush 6, 2) := by decide +kernel
theorem dX12_init_289 : decode cX12_init 289 = .ok (.newarray .int, 2) := by decide +kernel
theorem dX12_init_291 : decode cX12_init 291 = .ok (.putfield 99, 3) := by decide +kernel
theorem dX12_init_294 : decode cX12_init 294 = .ok (.aload_n 0, 1) := by decide +kernel
theorem dX12_init_295 : decode cX12_init 295 = .ok (.bipush 12, 2) := by decide +kernel
theorem dX12_init_297 : decode cX12_init 297 = .ok (.newarray .int, 2) := by decide +kernel
theorem dX12_init_299 : decode cX12_init 299 = .ok (.putfield 102, 3) := by decide +kernel
theorem dX12_init_302 : decode cX12_init 302 = .ok (.aload_n 0, 1) := by decide +kernel
theorem dX12_init_303 : decode cX12_init 303 = .ok (.bipush 24, 2) := by decide +kernel
theorem dX12_init_305 : decode cX12_init 305 = .ok (.newarray .int, 2) := by decide +kernel
theorem dX12_init_307 : decode cX12_init 307 = .ok (.putfield 105, 3) := by decide +kernel
theorem dX12_init_310 : decode cX12_init 310 = .ok (.aload_n 0, 1) := by decide +kernel
theorem dX12_init_311 : decode cX12_init 311 = .ok (.iconst 2, 1) := by decide +kernel
theorem dX12_init_312 : decode cX12_init 312 = .ok (.newarray .int, 2) := by decide +kernel
theorem dX12_init_314 : decode cX12_init 314 = .ok (.putfield 108, 3) := by decide +kernel
theorem dX12_init_317 : decode cX12_init 317 = .ok (.aload_n 0, 1) := by decide +kernel
theorem dX12_init_318 : decode cX12_init 318 = .ok (.bipush 24, 2) := by decide +kernel
theorem dX12_init_320 : decode cX12_init 320 = .ok (.newarray .int, 2) := by decide +kernel
theorem dX12_init_322 : decode cX12_init 322 = .ok (.putfield 111, 3) := by decide +kernel
theorem dX12_init_325 : decode cX12_init 325 = .ok (.aload_n 0, 1) := by decide +kernel
theorem dX12_init_326 : decode cX12_init 326 = .ok (.bipush 24, 2) := by decide +kernel
theorem dX12_init_328 : decode cX12_init 328 = .ok (.newarray .int, 2) := by decide +kernel
theorem dX12_init_330 : decode cX12_init 330 = .ok (.putfield 114, 3) := by decide +kernel
theorem dX12_init_333 : decode cX12_init 333 = .ok (.aload_n 0, 1) := by decide +kernel
theorem dX12_init_334 : decode cX12_init 334 = .ok (.bipush 7, 2) := by decide +kernel
theorem dX12_init_336 : decode cX12_init 336 = .ok (.newarray .long, 2) := by decide +kernel
theorem dX12_init_338 : decode cX12_init 338 = .ok (.putfield 117, 3) := by decide +kernel
theorem dX12_init_341 : decode cX12_init 341 = .ok (.aload_n 0, 1) := by decide +kernel
theorem dX12_init_342 : decode cX12_init 342 = .ok (.bipush 64, 2) := by decide +kernel
theorem dX12_init_344 : decode cX12_init 344 = .ok (.newarray .long, 2) := by decide +kernel
theorem dX12_init_346 : decode cX12_init 346 = .ok (.putfield 121, 3) := by decide +kernel
theorem dX12_init_349 : decode cX12_init 349 = .ok (.aload_n 0, 1) := by decide +kernel
theorem dX12_init_350 : decode cX12_init 350 = .ok (.sipush 5000, 3) := by decide +kernel
theorem dX12_init_353 : decode cX12_init 353 = .ok (.newarray .int, 2) := by decide +kernel
theorem dX12_init_355 : decode cX12_init 355 = .ok (.putfield 124, 3) := by decide +kernel
theorem dX12_init_358 : decode cX12_init 358 = .ok (.aload_n 0, 1) := by decide +kernel
theorem dX12_init_359 : decode cX12_init 359 = .ok (.sipush 5000, 3) := by decide +kernel
theorem dX12_init_362 : decode cX12_init 362 = .ok (.newarray .int, 2) := by decide +kernel
theorem dX12_init_364 : decode cX12_init 364 = .ok (.putfield 127, 3) := by decide +kernel
theorem dX12_init_367 : decode cX12_init 367 = .ok (.aload_n 0, 1) := by decide +kernel
theorem dX12_init_368 : decode cX12_init 368 = .ok (.bipush 72, 2) := by decide +kernel
theorem dX12_init_370 : decode cX12_init 370 = .ok (.newarray .int, 2) := by decide +kernel
theorem dX12_init_372 : decode cX12_init 372 = .ok (.putfield 130, 3) := by decide +kernel
theorem dX12_init_375 : decode cX12_init 375 = .ok (.aload_n 0, 1) := by decide +kernel
theorem dX12_init_376 : decode cX12_init 376 = .ok (.bipush 72, 2) := by decide +kernel
theorem dX12_init_378 : decode cX12_init 378 = .ok (.newarray .int, 2) := by decide +kernel
theorem dX12_init_380 : decode cX12_init 380 = .ok (.putfield 133, 3) := by decide +kernel
theorem dX12_init_383 : decode cX12_init 383 = .ok (.aload_n 0, 1) := by decide +kernel
theorem dX12_init_384 : decode cX12_init 384 = .ok (.iconst 3, 1) := by decide +kernel
theorem dX12_init_385 : decode cX12_init 385 = .ok (.newarray .int, 2) := by decide +kernel
theorem dX12_init_387 : decode cX12_init 387 = .ok (.putfield 136, 3) := by decide +kernel
theorem dX12_init_390 : decode cX12_init 390 = .ok (.aload_n 0, 1) := by decide +kernel
theorem dX12_init_391 : decode cX12_init 391 = .ok (.iconst 3, 1) := by decide +kernel
theorem dX12_init_392 : decode cX12_init 392 = .ok (.newarray .int, 2) := by decide +kernel
theorem dX12_init_394 : decode cX12_init 394 = .ok (.putfield 139, 3) := by decide +kernel
theorem dX12_init_397 : decode cX12_init 397 = .ok (.aload_n 0, 1) := by decide +kernel
theorem dX12_init_398 : decode cX12_init 398 = .ok (.iconst (-1), 1) := by decide +kernel
theorem dX12_init_399 : decode cX12_init 399 = .ok (.putfield 142, 3) := by decide +kernel
theorem dX12_init_402 : decode cX12_init 402 = .ok (.aload_n 0, 1) := by decide +kernel
theorem dX12_init_403 : decode cX12_init 403 = .ok (.bipush 24, 2) := by decide +kernel
theorem dX12_init_405 : decode cX12_init 405 = .ok (.newarray .int, 2) := by decide +kernel
theorem dX12_init_407 : decode cX12_init 407 = .ok (.putfield 145, 3) := by decide +kernel
theorem dX12_init_410 : decode cX12_init 410 = .ok (.aload_n 0, 1) := by decide +kernel
theorem dX12_init_411 : decode cX12_init 411 = .ok (.bipush 24, 2) := by decide +kernel
theorem dX12_init_413 : decode cX12_init 413 = .ok (.newarray .int, 2) := by decide +kernel
theorem dX12_init_415 : decode cX12_init 415 = .ok (.putfield 148, 3) := by decide +kernel
theorem dX12_init_418 : decode cX12_init 418 = .ok (.aload_n 0, 1) := by decide +kernel
theorem dX12_init_419 : decode cX12_init 419 = .ok (.bipush 24, 2) := by decide +kernel
theorem dX12_init_421 : decode cX12_init 421 = .ok (.newarray .boolean, 2) := by decide +kernel
theorem dX12_init_423 : decode cX12_init 423 = .ok (.putfield 151, 3) := by decide +kernel
theorem dX12_init_426 : decode cX12_init 426 = .ok (.aload_n 0, 1) := by decide +kernel
theorem dX12_init_427 : decode cX12_init 427 = .ok (.iconst 4, 1) := by decide +kernel
theorem dX12_init_428 : decode cX12_init 428 = .ok (.newarray .int, 2) := by decide +kernel
theorem dX12_init_430 : decode cX12_init 430 = .ok (.putfield 154, 3) := by decide +kernel
theorem dX12_init_433 : decode cX12_init 433 = .ok (.aload_n 0, 1) := by decide +kernel
theorem dX12_init_434 : decode cX12_init 434 = .ok (.iconst 4, 1) := by decide +kernel
theorem dX12_init_435 : decode cX12_init 435 = .ok (.newarray .int, 2) := by decide +kernel
theorem dX12_init_437 : decode cX12_init 437 = .ok (.putfield 157, 3) := by decide +kernel
theorem dX12_init_440 : decode cX12_init 440 = .ok (.aload_n 0, 1) := by decide +kernel
theorem dX12_init_441 : decode cX12_init 441 = .ok (.invokevirtual 160, 3) := by decide +kernel
theorem dX12_init_444 : decode cX12_init 444 = .ok (.return_, 1) := by decide +kernel
theorem dX12_areVerses_0 : decode cX12_areVerses 0 = .ok (.iload_n 1, 1) := by decide +kernel
theorem dX12_areVerses_1 : decode cX12_areVerses 1 = .ok (.ifCond .lt 19, 3) := by decide +kernel
theorem dX12_areVerses_4 : decode cX12_areVerses 4 = .ok (.iload_n 1, 1) := by decide +kernel
theorem dX12_areVerses_5 : decode cX12_areVerses 5 = .ok (.iconst 1, 1) := by decide +kernel
theorem dX12_areVerses_6 : decode cX12_areVerses 6 = .ok (.aload_n 0, 1) := by decide +kernel
theorem dX12_areVerses_7 : decode cX12_areVerses 7 = .ok (.getfield 13, 3) := by decide +kernel
theorem dX12_areVerses_10 : decode cX12_areVerses 10 = .ok (.iconst 2, 1) := by decide +kernel
theorem dX12_areVerses_11 : decode cX12_areVerses 11 = .ok (.iaload, 1) := by decide +kernel
theorem dX12_areVerses_12 : decode cX12_areVerses 12 = .ok (.ishl, 1) := by decide +kernel
theorem dX12_areVerses_13 : decode cX12_areVerses 13 = .ok (.if_icmp .ge 7, 3) := by decide +kernel
theorem dX12_areVerses_16 : decode cX12_areVerses 16 = .ok (.iconst 1, 1) := by decide +kernel
theorem dX12_areVerses_17 : decode cX12_areVerses 17 = .ok (.goto 4, 3) := by decide +kernel
theorem dX12_areVerses_20 : decode cX12_areVerses 20 = .ok (.iconst 0, 1) := by decide +kernel
theorem dX12_areVerses_21 : decode cX12_areVerses 21 = .ok (.ireturn, 1) := by decide +kernel
theorem dX12_back_0 : decode cX12_back 0 = .ok (.aload_n 0, 1) := by decide +kernel
theorem dX12_back_1 : decode cX12_back 1 = .ok (.iconst 0, 1) := by decide +kernel
theorem dX12_back_2 : decode cX12_back 2 = .ok (.putfield 163, 3) := by decide +kernel
theorem dX12_back_5 : decode cX12_back 5 = .ok (.aload_n 0, 1) := by decide +kernel
theorem dX12_back_6 : decode cX12_back 6 = .ok (.getfield 328, 3) := by decide +kernel
theorem dX12_back_9 : decode cX12_back 9 = .ok (.ifCond .ne 5, 3) := by decide +kernel
theorem dX12_back_12 : decode cX12_back 12 = .ok (.iconst (-1), 1) := by decide +kernel
theorem dX12_back_13 : decode cX12_back 13 = .ok (.ireturn, 1) := by decide +kernel
theorem dX12_bar_0 : decode cX12_bar 0 = .ok (.aload_n 0, 1) := by decide +kernel
theorem dX12_bar_1 : decode cX12_bar 1 = .ok (.iconst 0, 1) := by decide +kernel
theorem dX12_bar_2 : decode cX12_bar 2 = .ok (.putfield 163, 3) := by decide +kernel
theorem dX12_bar_5 : decode cX12_bar 5 = .ok (.aload_n 0, 1) := by decide +kernel
theorem dX12_bar_6 : decode cX12_bar 6 = .ok (.iload_n 1, 1) := by decide +kernel
theorem dX12_bar_7 : decode cX12_bar 7 = .ok (.invokevirtual 332, 3) := by decide +kernel
theorem dX12_bar_10 : decode cX12_bar 10 = .ok (.ifCond .eq 13, 3) := by decide +kernel
theorem dX12_bar_23 : decode cX12_bar 23 = .ok (.iconst (-1), 1) := by decide +kernel
theorem dX12_bar_24 : decode cX12_bar 24 = .ok (.ireturn, 1) := by decide +kernel
theorem dX12_begins_0 : decode cX12_begins 0 = .ok (.aload_n 0, 1) := by decide +kernel
theorem dX12_begins_1 : decode cX12_begins 1 = .ok (.getfield 81, 3) := by decide +kernel
theorem dX12_begins_4 : decode cX12_begins 4 = .ok (.iconst 0, 1) := by decide +kernel
theorem dX12_begins_5 : decode cX12_begins 5 = .ok (.iconst 0, 1) := by decide +kernel
theorem dX12_begins_6 : decode cX12_begins 6 = .ok (.iastore, 1) := by decide +kernel
theorem dX12_begins_7 : decode cX12_begins 7 = .ok (.aload_n 0, 1) := by decide +kernel
theorem dX12_begins_8 : decode cX12_begins 8 = .ok (.getfield 84, 3) := by decide +kernel
theorem dX12_begins_11 : decode cX12_begins 11 = .ok (.iconst 0, 1) := by decide +kernel
theorem dX12_begins_12 : decode cX12_begins 12 = .ok (.aload_n 0, 1) := by decide +kernel
theorem dX12_begins_13 : decode cX12_begins 13 = .ok (.getfield 13, 3) := by decide +kernel
theorem dX12_begins_16 : decode cX12_begins 16 = .ok (.iconst 4, 1) := by decide +kernel
theorem dX12_begins_17 : decode cX12_begins 17 = .ok (.iaload, 1) := by decide +kernel
theorem dX12_begins_18 : decode cX12_begins 18 = .ok (.iastore, 1) := by decide +kernel
theorem dX12_begins_19 : decode cX12_begins 19 = .ok (.aload_n 0, 1) := by decide +kernel
theorem dX12_begins_20 : decode cX12_begins 20 = .ok (.getfield 87, 3) := by decide +kernel
theorem dX12_begins_23 : decode cX12_begins 23 = .ok (.iconst 0, 1) := by decide +kernel
theorem dX12_begins_24 : decode cX12_begins 24 = .ok (.aload_n 0, 1) := by decide +kernel
theorem dX12_begins_25 : decode cX12_begins 25 = .ok (.getfield 13, 3) := by decide +kernel
theorem dX12_begins_28 : decode cX12_begins 28 = .ok (.iconst 5, 1) := by decide +kernel
theorem dX12_begins_29 : decode cX12_begins 29 = .ok (.iaload, 1) := by decide +kernel
theorem dX12_begins_30 : decode cX12_begins 30 = .ok (.iastore, 1) := by decide +kernel
theorem dX12_begins_31 : decode cX12_begins 31 = .ok (.aload_n 0, 1) := by decide +kernel
theorem dX12_begins_32 : decode cX12_begins 32 = .ok (.getfield 90, 3) := by decide +kernel
theorem dX12_begins_35 : decode cX12_begins 35 = .ok (.iconst 0, 1) := by decide +kernel
theorem dX12_begins_36 : decode cX12_begins 36 = .ok (.iconst 0, 1) := by decide +kernel
theorem dX12_begins_37 : decode cX12_begins 37 = .ok (.iastore, 1) := by decide +kernel
theorem dX12_begins_38 : decode cX12_begins 38 = .ok (.aload_n 0, 1) := by decide +kernel
theorem dX12_begins_39 : decode cX12_begins 39 = .ok (.getfield 93, 3) := by decide +kernel
theorem dX12_begins_42 : decode cX12_begins 42 = .ok (.iconst 0, 1) := by decide +kernel
theorem dX12_begins_43 : decode cX12_begins 43 = .ok (.iconst 0, 1) := by decide +kernel
theorem dX12_begins_44 : decode cX12_begins 44 = .ok (.iastore, 1) := by decide +kernel
theorem dX12_begins_45 : decode cX12_begins 45 = .ok (.aload_n 0, 1) := by decide +kernel
theorem dX12_begins_46 : decode cX12_begins 46 = .ok (.getfield 108, 3) := by decide +kernel
theorem dX12_begins_49 : decode cX12_begins 49 = .ok (.iconst 0, 1) := by decide +kernel
theorem dX12_begins_50 : decode cX12_begins 50 = .ok (.iconst 0, 1) := by decide +kernel
theorem dX12_begins_51 : decode cX12_begins 51 = .ok (.iastore, 1) := by decide +kernel
theorem dX12_begins_52 : decode cX12_begins 52 = .ok (.iconst 0, 1) := by decide +kernel
theorem dX12_begins_53 : decode cX12_begins 53 = .ok (.istore_n 1, 1) := by decide +kernel
theorem dX12_begins_54 : decode cX12_begins 54 = .ok (.iload_n 1, 1) := by decide +kernel
theorem dX12_begins_55 : decode cX12_begins 55 = .ok (.iconst 3, 1) := by decide +kernel
theorem dX12_begins_56 : decode cX12_begins 56 = .ok (.if_icmp .ge 35, 3) := by decide +kernel
theorem dX12_begins_59 : decode cX12_begins 59 = .ok (.aload_n 0, 1) := by decide +kernel
theorem dX12_begins_60 : decode cX12_begins 60 = .ok (.getfield 96, 3) := by decide +kernel
theorem dX12_begins_63 : decode cX12_begins 63 = .ok (.iload_n 1, 1) := by decide +kernel
theorem dX12_begins_64 : decode cX12_begins 64 = .ok (.iload_n 1, 1) := by decide +kernel
theorem dX12_begins_65 : decode cX12_begins 65 = .ok (.aload_n 0, 1) := by decide +kernel
theorem dX12_begins_66 : decode cX12_begins 66 = .ok (.getfield 13, 3) := by decide +kernel
theorem dX12_begins_69 : decode cX12_begins 69 = .ok (.iconst 0, 1) := by decide +kernel
theorem dX12_begins_70 : decode cX12_begins 70 = .ok (.iaload, 1) := by decide +kernel
theorem dX12_begins_71 : decode cX12_begins 71 = .ok (.if_icmp .ge 12, 3) := by decide +kernel
theorem dX12_begins_83 : decode cX12_begins 83 = .ok (.iconst 0, 1) := by decide +kernel
theorem dX12_begins_84 : decode cX12_begins 84 = .ok (.iastore, 1) := by decide +kernel
theorem dX12_begins_85 : decode cX12_begins 85 = .ok (.iinc 1 1, 3) := by decide +kernel
theorem dX12_begins_88 : decode cX12_begins 88 = .ok (.goto (-34), 3) := by decide +kernel
theorem dX12_begins_91 : decode cX12_begins 91 = .ok (.iconst 0, 1) := by decide +kernel
theorem dX12_begins_92 : decode cX12_begins 92 = .ok (.istore_n 1, 1) := by decide +kernel
theorem dX12_begins_93 : decode cX12_begins 93 = .ok (.iload_n 1, 1) := by decide +kernel
theorem dX12_begins_94 : decode cX12_begins 94 = .ok (.iconst 3, 1) := by decide +kernel
theorem dX12_begins_95 : decode cX12_begins 95 = .ok (.if_icmp .ge 35, 3) := by decide +kernel
theorem dX12_begins_98 : decode cX12_begins 98 = .ok (.aload_n 0, 1) := by decide +kernel
theorem dX12_begins_99 : decode cX12_begins 99 = .ok (.getfield 99, 3) := by decide +kernel
theorem dX12_begins_102 : decode cX12_begins 102 = .ok (.iload_n 1, 1) := by decide +kernel
theorem dX12_begins_103 : decode cX12_begins 103 = .ok (.iload_n 1, 1) := by decide +kernel
theorem dX12_begins_104 : decode cX12_begins 104 = .ok (.aload_n 0, 1) := by decide +kernel
theorem dX12_begins_105 : decode cX12_begins 105 = .ok (.getfield 13, 3) := by decide +kernel
theorem dX12_begins_108 : decode cX12_begins 108 = .ok (.iconst 3, 1) := by decide +kernel
theorem dX12_begins_109 : decode cX12_begins 109 = .ok (.iaload, 1) := by decide +kernel
theorem dX12_begins_110 : decode cX12_begins 110 = .ok (.if_icmp .ge 12, 3) := by decide +kernel
theorem dX12_begins_122 : decode cX12_begins 122 = .ok (.iconst 0, 1) := by decide +kernel
theorem dX12_begins_123 : decode cX12_begins 123 = .ok (.iastore, 1) := by decide +kernel
theorem dX12_begins_124 : decode cX12_begins 124 = .ok (.iinc 1 1, 3) := by decide +kernel
theorem dX12_begins_127 : decode cX12_begins 127 = .ok (.goto (-34), 3) := by decide +kernel
theorem dX12_begins_130 : decode cX12_begins 130 = .ok (.iconst 0, 1) := by decide +kernel
theorem dX12_begins_131 : decode cX12_begins 131 = .ok (.istore_n 1, 1) := by decide +kernel
theorem dX12_begins_132 : decode cX12_begins 132 = .ok (.iload_n 1, 1) := by decide +kernel
theorem dX12_begins_133 : decode cX12_begins 133 = .ok (.bipush 6, 2) := by decide +kernel
theorem dX12_begins_135 : decode cX12_begins 135 = .ok (.if_icmp .ge 16, 3) := by decide +kernel
theorem dX12_begins_138 : decode cX12_begins 138 = .ok (.aload_n 0, 1) := by decide +kernel
theorem dX12_begins_139 : decode cX12_begins 139 = .ok (.getfield 102, 3) := by decide +kernel
theorem dX12_begins_142 : decode cX12_begins 142 = .ok (.iload_n 1, 1) := by decide +kernel
theorem dX12_begins_143 : decode cX12_begins 143 = .ok (.iconst 0, 1) := by decide +kernel
theorem dX12_begins_144 : decode cX12_begins 144 = .ok (.iastore, 1) := by decide +kernel
theorem dX12_begins_145 : decode cX12_begins 145 = .ok (.iinc 1 1, 3) := by decide +kernel
theorem dX12_begins_148 : decode cX12_begins 148 = .ok (.goto (-16), 3) := by decide +kernel
theorem dX12_begins_151 : decode cX12_begins 151 = .ok (.iconst 0, 1) := by decide +kernel
theorem dX12_begins_152 : decode cX12_begins 152 = .ok (.istore_n 1, 1) := by decide +kernel
theorem dX12_begins_153 : decode cX12_begins 153 = .ok (.iload_n 1, 1) := by decide +kernel
theorem dX12_begins_154 : decode cX12_begins 154 = .ok (.bipush 12, 2) := by decide +kernel
theorem dX12_begins_156 : decode cX12_begins 156 = .ok (.if_icmp .ge 16, 3) := by decide +kernel
theorem dX12_begins_159 : decode cX12_begins 159 = .ok (.aload_n 0, 1) := by decide +kernel
theorem dX12_begins_160 : decode cX12_begins 160 = .ok (.getfield 105, 3) := by decide +kernel
theorem dX12_begins_163 : decode cX12_begins 163 = .ok (.iload_n 1, 1) := by decide +kernel
theorem dX12_begins_164 : decode cX12_begins 164 = .ok (.iconst (-1), 1) := by decide +kernel
theorem dX12_begins_165 : decode cX12_begins 165 = .ok (.iastore, 1) := by decide +kernel
theorem dX12_begins_166 : decode cX12_begins 166 = .ok (.iinc 1 1, 3) := by decide +kernel
theorem dX12_begins_169 : decode cX12_begins 169 = .ok (.goto (-16), 3) := by decide +kernel
theorem dX12_begins_172 : decode cX12_begins 172 = .ok (.return_, 1) := by decide +kernel
theorem dX12_best_0 : decode cX12_best 0 = .ok (.aload_n 0, 1) := by decide +kernel
theorem dX12_best_1 : decode cX12_best 1 = .ok (.iconst 0, 1) := by decide +kernel
theorem dX12_best_2 : decode cX12_best 2 = .ok (.putfield 163, 3) := by decide +kernel
theorem dX12_best_5 : decode cX12_best 5 = .ok (.iload_n 1, 1) := by decide +kernel
theorem dX12_best_6 : decode cX12_best 6 = .ok (.invokestatic 446, 3) := by decide +kernel
theorem dX12_best_9 : decode cX12_best 9 = .ok (.ifCond .eq 12, 3) := by decide +kernel
theorem dX12_best_12 : decode cX12_best 12 = .ok (.iload_n 2, 1) := by decide +kernel
theorem dX12_best_13 : decode cX12_best 13 = .ok (.ifCond .lt 8, 3) := by decide +kernel
theorem dX12_best_16 : decode cX12_best 16 = .ok (.iload_n 2, 1) := by decide +kernel
theorem dX12_best_17 : decode cX12_best 17 = .ok (.iconst 1, 1) := by decide +kernel
theorem dX12_best_18 : decode cX12_best 18 = .ok (.if_icmp .le 5, 3) := by decide +kernel
theorem dX12_best_21 : decode cX12_best 21 = .ok (.iconst (-1), 1) := by decide +kernel
theorem dX12_best_22 : decode cX12_best 22 = .ok (.ireturn, 1) := by decide +kernel
theorem dX12_best_23 : decode cX12_best 23 = .ok (.aload_n 0, 1) := by decide +kernel
theorem dX12_best_24 : decode cX12_best 24 = .ok (.iload_n 1, 1) := by decide +kernel
theorem dX12_best_25 : decode cX12_best 25 = .ok (.invokevirtual 449, 3) := by decide +kernel
theorem dX12_best_28 : decode cX12_best 28 = .ok (.iload_n 2, 1) := by decide +kernel
theorem dX12_best_29 : decode cX12_best 29 = .ok (.ifCond .ne 12, 3) := by decide +kernel
theorem dX12_best_32 : decode cX12_best 32 = .ok (.aload_n 0, 1) := by decide +kernel
theorem dX12_best_33 : decode cX12_best 33 = .ok (.getfield 124, 3) := by decide +kernel
theorem dX12_best_36 : decode cX12_best 36 = .ok (.iload_n 1, 1) := by decide +kernel
theorem dX12_best_37 : decode cX12_best 37 = .ok (.iaload, 1) := by decide +kernel
theorem dX12_best_38 : decode cX12_best 38 = .ok (.goto 9, 3) := by decide +kernel
theorem dX12_best_41 : decode cX12_best 41 = .ok (.aload_n 0, 1) := by decide +kernel
theorem dX12_best_42 : decode cX12_best 42 = .ok (.getfield 127, 3) := by decide +kernel
theorem dX12_best_45 : decode cX12_best 45 = .ok (.iload_n 1, 1) := by decide +kernel
theorem dX12_best_46 : decode cX12_best 46 = .ok (.iaload, 1) := by decide +kernel
theorem dX12_best_47 : decode cX12_best 47 = .ok (.ireturn, 1) := by decide +kernel
theorem dX12_bids_0 : decode cX12_bids 0 = .ok (.aload_n 0, 1) := by decide +kernel
end
section
theorem dX12_bids_1 : decode cX12_bids 1 = .ok (.iconst 0, 1) := by decide +kernel
theorem dX12_bids_2 : decode cX12_bids 2 = .ok (.putfield 163, 3) := by decide +kernel
theorem dX12_bids_5 : decode cX12_bids 5 = .ok (.iload_n 1, 1) := by decide +kernel
theorem dX12_bids_6 : decode cX12_bids 6 = .ok (.ifCond .lt 36, 3) := by decide +kernel
theorem dX12_bids_9 : decode cX12_bids 9 = .ok (.iload_n 1, 1) := by decide +kernel
theorem dX12_bids_10 : decode cX12_bids 10 = .ok (.aload_n 0, 1) := by decide +kernel
theorem dX12_bids_11 : decode cX12_bids 11 = .ok (.getfield 13, 3) := by decide +kernel
theorem dX12_bids_14 : decode cX12_bids 14 = .ok (.iconst 3, 1) := by decide +kernel
theorem dX12_bids_15 : decode cX12_bids 15 = .ok (.iaload, 1) := by decide +kernel
theorem dX12_bids_16 : decode cX12_bids 16 = .ok (.if_icmp .ge 26, 3) := by decide +kernel
theorem dX12_bids_42 : decode cX12_bids 42 = .ok (.iconst (-1), 1) := by decide +kernel
theorem dX12_bids_43 : decode cX12_bids 43 = .ok (.ireturn, 1) := by decide +kernel
theorem dX12_bitsOf_0 : decode cX12_bitsOf 0 = .ok (.iconst 0, 1) := by decide +kernel
theorem dX12_bitsOf_1 : decode cX12_bitsOf 1 = .ok (.istore_n 1, 1) := by decide +kernel
theorem dX12_bitsOf_2 : decode cX12_bitsOf 2 = .ok (.iconst 0, 1) := by decide +kernel
theorem dX12_bitsOf_3 : decode cX12_bitsOf 3 = .ok (.istore_n 2, 1) := by decide +kernel
theorem dX12_bitsOf_4 : decode cX12_bitsOf 4 = .ok (.iload_n 2, 1) := by decide +kernel
theorem dX12_bitsOf_5 : decode cX12_bitsOf 5 = .ok (.bipush 6, 2) := by decide +kernel
theorem dX12_bitsOf_7 : decode cX12_bitsOf 7 = .ok (.if_icmp .ge 17, 3) := by decide +kernel
theorem dX12_bitsOf_10 : decode cX12_bitsOf 10 = .ok (.iload_n 1, 1) := by decide +kernel
theorem dX12_bitsOf_11 : decode cX12_bitsOf 11 = .ok (.iload_n 0, 1) := by decide +kernel
theorem dX12_bitsOf_12 : decode cX12_bitsOf 12 = .ok (.iload_n 2, 1) := by decide +kernel
theorem dX12_bitsOf_13 : decode cX12_bitsOf 13 = .ok (.ishr, 1) := by decide +kernel
theorem dX12_bitsOf_14 : decode cX12_bitsOf 14 = .ok (.iconst 1, 1) := by decide +kernel
theorem dX12_bitsOf_15 : decode cX12_bitsOf 15 = .ok (.iand, 1) := by decide +kernel
theorem dX12_bitsOf_16 : decode cX12_bitsOf 16 = .ok (.iadd, 1) := by decide +kernel
theorem dX12_bitsOf_17 : decode cX12_bitsOf 17 = .ok (.istore_n 1, 1) := by decide +kernel
theorem dX12_bitsOf_18 : decode cX12_bitsOf 18 = .ok (.iinc 2 1, 3) := by decide +kernel
theorem dX12_bitsOf_21 : decode cX12_bitsOf 21 = .ok (.goto (-17), 3) := by decide +kernel
theorem dX12_bitsOf_24 : decode cX12_bitsOf 24 = .ok (.iload_n 1, 1) := by decide +kernel
theorem dX12_bitsOf_25 : decode cX12_bitsOf 25 = .ok (.ireturn, 1) := by decide +kernel
theorem dX12_chosen_0 : decode cX12_chosen 0 = .ok (.aload_n 0, 1) := by decide +kernel
theorem dX12_chosen_1 : decode cX12_chosen 1 = .ok (.iconst 0, 1) := by decide +kernel
theorem dX12_chosen_2 : decode cX12_chosen 2 = .ok (.putfield 163, 3) := by decide +kernel
theorem dX12_chosen_5 : decode cX12_chosen 5 = .ok (.iload_n 1, 1) := by decide +kernel
theorem dX12_chosen_6 : decode cX12_chosen 6 = .ok (.invokestatic 446, 3) := by decide +kernel
theorem dX12_chosen_9 : decode cX12_chosen 9 = .ok (.ifCond .eq 12, 3) := by decide +kernel
theorem dX12_chosen_12 : decode cX12_chosen 12 = .ok (.aload_n 0, 1) := by decide +kernel
theorem dX12_chosen_13 : decode cX12_chosen 13 = .ok (.iload_n 2, 1) := by decide +kernel
theorem dX12_chosen_14 : decode cX12_chosen 14 = .ok (.iload_n 3, 1) := by decide +kernel
theorem dX12_chosen_15 : decode cX12_chosen 15 = .ok (.invokevirtual 344, 3) := by decide +kernel
theorem dX12_chosen_18 : decode cX12_chosen 18 = .ok (.ifCond .ne 5, 3) := by decide +kernel
theorem dX12_chosen_21 : decode cX12_chosen 21 = .ok (.iconst (-1), 1) := by decide +kernel
theorem dX12_chosen_22 : decode cX12_chosen 22 = .ok (.ireturn, 1) := by decide +kernel
theorem dX12_copies_0 : decode cX12_copies 0 = .ok (.aload_n 0, 1) := by decide +kernel
theorem dX12_copies_1 : decode cX12_copies 1 = .ok (.getfield 81, 3) := by decide +kernel
theorem dX12_copies_4 : decode cX12_copies 4 = .ok (.iload_n 1, 1) := by decide +kernel
theorem dX12_copies_5 : decode cX12_copies 5 = .ok (.aload_n 0, 1) := by decide +kernel
theorem dX12_copies_6 : decode cX12_copies 6 = .ok (.getfield 81, 3) := by decide +kernel
theorem dX12_copies_9 : decode cX12_copies 9 = .ok (.iload_n 2, 1) := by decide +kernel
theorem dX12_copies_10 : decode cX12_copies 10 = .ok (.iaload, 1) := by decide +kernel
theorem dX12_copies_11 : decode cX12_copies 11 = .ok (.iastore, 1) := by decide +kernel
theorem dX12_copies_12 : decode cX12_copies 12 = .ok (.aload_n 0, 1) := by decide +kernel
theorem dX12_copies_13 : decode cX12_copies 13 = .ok (.getfield 84, 3) := by decide +kernel
theorem dX12_copies_16 : decode cX12_copies 16 = .ok (.iload_n 1, 1) := by decide +kernel
theorem dX12_copies_17 : decode cX12_copies 17 = .ok (.aload_n 0, 1) := by decide +kernel
theorem dX12_copies_18 : decode cX12_copies 18 = .ok (.getfield 84, 3) := by decide +kernel
theorem dX12_copies_21 : decode cX12_copies 21 = .ok (.iload_n 2, 1) := by decide +kernel
theorem dX12_copies_22 : decode cX12_copies 22 = .ok (.iaload, 1) := by decide +kernel
theorem dX12_copies_23 : decode cX12_copies 23 = .ok (.iastore, 1) := by decide +kernel
theorem dX12_copies_24 : decode cX12_copies 24 = .ok (.aload_n 0, 1) := by decide +kernel
theorem dX12_copies_25 : decode cX12_copies 25 = .ok (.getfield 87, 3) := by decide +kernel
theorem dX12_copies_28 : decode cX12_copies 28 = .ok (.iload_n 1, 1) := by decide +kernel
theorem dX12_copies_29 : decode cX12_copies 29 = .ok (.aload_n 0, 1) := by decide +kernel
theorem dX12_copies_30 : decode cX12_copies 30 = .ok (.getfield 87, 3) := by decide +kernel
theorem dX12_copies_33 : decode cX12_copies 33 = .ok (.iload_n 2, 1) := by decide +kernel
theorem dX12_copies_34 : decode cX12_copies 34 = .ok (.iaload, 1) := by decide +kernel
theorem dX12_copies_35 : decode cX12_copies 35 = .ok (.iastore, 1) := by decide +kernel
theorem dX12_copies_36 : decode cX12_copies 36 = .ok (.aload_n 0, 1) := by decide +kernel
theorem dX12_copies_37 : decode cX12_copies 37 = .ok (.getfield 90, 3) := by decide +kernel
theorem dX12_copies_40 : decode cX12_copies 40 = .ok (.iload_n 1, 1) := by decide +kernel
theorem dX12_copies_41 : decode cX12_copies 41 = .ok (.aload_n 0, 1) := by decide +kernel
theorem dX12_copies_42 : decode cX12_copies 42 = .ok (.getfield 90, 3) := by decide +kernel
theorem dX12_copies_45 : decode cX12_copies 45 = .ok (.iload_n 2, 1) := by decide +kernel
theorem dX12_copies_46 : decode cX12_copies 46 = .ok (.iaload, 1) := by decide +kernel
theorem dX12_copies_47 : decode cX12_copies 47 = .ok (.iastore, 1) := by decide +kernel
theorem dX12_copies_48 : decode cX12_copies 48 = .ok (.aload_n 0, 1) := by decide +kernel
theorem dX12_copies_49 : decode cX12_copies 49 = .ok (.getfield 93, 3) := by decide +kernel
theorem dX12_copies_52 : decode cX12_copies 52 = .ok (.iload_n 1, 1) := by decide +kernel
theorem dX12_copies_53 : decode cX12_copies 53 = .ok (.aload_n 0, 1) := by decide +kernel
theorem dX12_copies_54 : decode cX12_copies 54 = .ok (.getfield 93, 3) := by decide +kernel
theorem dX12_copies_57 : decode cX12_copies 57 = .ok (.iload_n 2, 1) := by decide +kernel
theorem dX12_copies_58 : decode cX12_copies 58 = .ok (.iaload, 1) := by decide +kernel
theorem dX12_copies_59 : decode cX12_copies 59 = .ok (.iastore, 1) := by decide +kernel
theorem dX12_copies_60 : decode cX12_copies 60 = .ok (.aload_n 0, 1) := by decide +kernel
theorem dX12_copies_61 : decode cX12_copies 61 = .ok (.getfield 108, 3) := by decide +kernel
theorem dX12_copies_64 : decode cX12_copies 64 = .ok (.iload_n 1, 1) := by decide +kernel
theorem dX12_copies_65 : decode cX12_copies 65 = .ok (.aload_n 0, 1) := by decide +kernel
theorem dX12_copies_66 : decode cX12_copies 66 = .ok (.getfield 108, 3) := by decide +kernel
theorem dX12_copies_69 : decode cX12_copies 69 = .ok (.iload_n 2, 1) := by decide +kernel
theorem dX12_copies_70 : decode cX12_copies 70 = .ok (.iaload, 1) := by decide +kernel
theorem dX12_copies_71 : decode cX12_copies 71 = .ok (.iastore, 1) := by decide +kernel
theorem dX12_copies_72 : decode cX12_copies 72 = .ok (.iconst 0, 1) := by decide +kernel
theorem dX12_copies_73 : decode cX12_copies 73 = .ok (.istore_n 3, 1) := by decide +kernel
theorem dX12_copies_74 : decode cX12_copies 74 = .ok (.iload_n 3, 1) := by decide +kernel
theorem dX12_copies_75 : decode cX12_copies 75 = .ok (.iconst 3, 1) := by decide +kernel
theorem dX12_copies_76 : decode cX12_copies 76 = .ok (.if_icmp .ge 29, 3) := by decide +kernel
theorem dX12_copies_79 : decode cX12_copies 79 = .ok (.aload_n 0, 1) := by decide +kernel
theorem dX12_copies_80 : decode cX12_copies 80 = .ok (.getfield 96, 3) := by decide +kernel
theorem dX12_copies_83 : decode cX12_copies 83 = .ok (.iconst 3, 1) := by decide +kernel
theorem dX12_copies_84 : decode cX12_copies 84 = .ok (.iload_n 1, 1) := by decide +kernel
theorem dX12_copies_85 : decode cX12_copies 85 = .ok (.imul, 1) := by decide +kernel
theorem dX12_copies_86 : decode cX12_copies 86 = .ok (.iload_n 3, 1) := by decide +kernel
theorem dX12_copies_87 : decode cX12_copies 87 = .ok (.iadd, 1) := by decide +kernel
theorem dX12_copies_88 : decode cX12_copies 88 = .ok (.aload_n 0, 1) := by decide +kernel
theorem dX12_copies_89 : decode cX12_copies 89 = .ok (.getfield 96, 3) := by decide +kernel
theorem dX12_copies_92 : decode cX12_copies 92 = .ok (.iconst 3, 1) := by decide +kernel
theorem dX12_copies_93 : decode cX12_copies 93 = .ok (.iload_n 2, 1) := by decide +kernel
theorem dX12_copies_94 : decode cX12_copies 94 = .ok (.imul, 1) := by decide +kernel
theorem dX12_copies_95 : decode cX12_copies 95 = .ok (.iload_n 3, 1) := by decide +kernel
theorem dX12_copies_96 : decode cX12_copies 96 = .ok (.iadd, 1) := by decide +kernel
theorem dX12_copies_97 : decode cX12_copies 97 = .ok (.iaload, 1) := by decide +kernel
theorem dX12_copies_98 : decode cX12_copies 98 = .ok (.iastore, 1) := by decide +kernel
theorem dX12_copies_99 : decode cX12_copies 99 = .ok (.iinc 3 1, 3) := by decide +kernel
theorem dX12_copies_102 : decode cX12_copies 102 = .ok (.goto (-28), 3) := by decide +kernel
theorem dX12_copies_105 : decode cX12_copies 105 = .ok (.iconst 0, 1) := by decide +kernel
theorem dX12_copies_106 : decode cX12_copies 106 = .ok (.istore_n 3, 1) := by decide +kernel
theorem dX12_copies_107 : decode cX12_copies 107 = .ok (.iload_n 3, 1) := by decide +kernel
theorem dX12_copies_108 : decode cX12_copies 108 = .ok (.iconst 3, 1) := by decide +kernel
theorem dX12_copies_109 : decode cX12_copies 109 = .ok (.if_icmp .ge 29, 3) := by decide +kernel
theorem dX12_copies_112 : decode cX12_copies 112 = .ok (.aload_n 0, 1) := by decide +kernel
theorem dX12_copies_113 : decode cX12_copies 113 = .ok (.getfield 99, 3) := by decide +kernel
theorem dX12_copies_116 : decode cX12_copies 116 = .ok (.iconst 3, 1) := by decide +kernel
theorem dX12_copies_117 : decode cX12_copies 117 = .ok (.iload_n 1, 1) := by decide +kernel
theorem dX12_copies_118 : decode cX12_copies 118 = .ok (.imul, 1) := by decide +kernel
theorem dX12_copies_119 : decode cX12_copies 119 = .ok (.iload_n 3, 1) := by decide +kernel
theorem dX12_copies_120 : decode cX12_copies 120 = .ok (.iadd, 1) := by decide +kernel
theorem dX12_copies_121 : decode cX12_copies 121 = .ok (.aload_n 0, 1) := by decide +kernel
theorem dX12_copies_122 : decode cX12_copies 122 = .ok (.getfield 99, 3) := by decide +kernel
theorem dX12_copies_125 : decode cX12_copies 125 = .ok (.iconst 3, 1) := by decide +kernel
theorem dX12_copies_126 : decode cX12_copies 126 = .ok (.iload_n 2, 1) := by decide +kernel
theorem dX12_copies_127 : decode cX12_copies 127 = .ok (.imul, 1) := by decide +kernel
theorem dX12_copies_128 : decode cX12_copies 128 = .ok (.iload_n 3, 1) := by decide +kernel
theorem dX12_copies_129 : decode cX12_copies 129 = .ok (.iadd, 1) := by decide +kernel
theorem dX12_copies_130 : decode cX12_copies 130 = .ok (.iaload, 1) := by decide +kernel
theorem dX12_copies_131 : decode cX12_copies 131 = .ok (.iastore, 1) := by decide +kernel
theorem dX12_copies_132 : decode cX12_copies 132 = .ok (.iinc 3 1, 3) := by decide +kernel
theorem dX12_copies_135 : decode cX12_copies 135 = .ok (.goto (-28), 3) := by decide +kernel
theorem dX12_copies_138 : decode cX12_copies 138 = .ok (.iconst 0, 1) := by decide +kernel
theorem dX12_copies_139 : decode cX12_copies 139 = .ok (.istore_n 3, 1) := by decide +kernel
theorem dX12_copies_140 : decode cX12_copies 140 = .ok (.iload_n 3, 1) := by decide +kernel
theorem dX12_copies_141 : decode cX12_copies 141 = .ok (.bipush 6, 2) := by decide +kernel
theorem dX12_copies_143 : decode cX12_copies 143 = .ok (.if_icmp .ge 31, 3) := by decide +kernel
theorem dX12_copies_146 : decode cX12_copies 146 = .ok (.aload_n 0, 1) := by decide +kernel
theorem dX12_copies_147 : decode cX12_copies 147 = .ok (.getfield 102, 3) := by decide +kernel
theorem dX12_copies_150 : decode cX12_copies 150 = .ok (.bipush 6, 2) := by decide +kernel
theorem dX12_copies_152 : decode cX12_copies 152 = .ok (.iload_n 1, 1) := by decide +kernel
theorem dX12_copies_153 : decode cX12_copies 153 = .ok (.imul, 1) := by decide +kernel
theorem dX12_copies_154 : decode cX12_copies 154 = .ok (.iload_n 3, 1) := by decide +kernel
theorem dX12_copies_155 : decode cX12_copies 155 = .ok (.iadd, 1) := by decide +kernel
theorem dX12_copies_156 : decode cX12_copies 156 = .ok (.aload_n 0, 1) := by decide +kernel
theorem dX12_copies_157 : decode cX12_copies 157 = .ok (.getfield 102, 3) := by decide +kernel
theorem dX12_copies_160 : decode cX12_copies 160 = .ok (.bipush 6, 2) := by decide +kernel
theorem dX12_copies_162 : decode cX12_copies 162 = .ok (.iload_n 2, 1) := by decide +kernel
theorem dX12_copies_163 : decode cX12_copies 163 = .ok (.imul, 1) := by decide +kernel
theorem dX12_copies_164 : decode cX12_copies 164 = .ok (.iload_n 3, 1) := by decide +kernel
theorem dX12_copies_165 : decode cX12_copies 165 = .ok (.iadd, 1) := by decide +kernel
theorem dX12_copies_166 : decode cX12_copies 166 = .ok (.iaload, 1) := by decide +kernel
theorem dX12_copies_167 : decode cX12_copies 167 = .ok (.iastore, 1) := by decide +kernel
theorem dX12_copies_168 : decode cX12_copies 168 = .ok (.iinc 3 1, 3) := by decide +kernel
theorem dX12_copies_171 : decode cX12_copies 171 = .ok (.goto (-31), 3) := by decide +kernel
theorem dX12_copies_174 : decode cX12_copies 174 = .ok (.iconst 0, 1) := by decide +kernel
theorem dX12_copies_175 : decode cX12_copies 175 = .ok (.istore_n 3, 1) := by decide +kernel
theorem dX12_copies_176 : decode cX12_copies 176 = .ok (.iload_n 3, 1) := by decide +kernel
theorem dX12_copies_177 : decode cX12_copies 177 = .ok (.bipush 12, 2) := by decide +kernel
theorem dX12_copies_179 : decode cX12_copies 179 = .ok (.if_icmp .ge 75, 3) := by decide +kernel
theorem dX12_copies_182 : decode cX12_copies 182 = .ok (.aload_n 0, 1) := by decide +kernel
theorem dX12_copies_183 : decode cX12_copies 183 = .ok (.getfield 105, 3) := by decide +kernel
theorem dX12_copies_186 : decode cX12_copies 186 = .ok (.bipush 12, 2) := by decide +kernel
theorem dX12_copies_188 : decode cX12_copies 188 = .ok (.iload_n 1, 1) := by decide +kernel
theorem dX12_copies_189 : decode cX12_copies 189 = .ok (.imul, 1) := by decide +kernel
theorem dX12_copies_190 : decode cX12_copies 190 = .ok (.iload_n 3, 1) := by decide +kernel
theorem dX12_copies_191 : decode cX12_copies 191 = .ok (.iadd, 1) := by decide +kernel
theorem dX12_copies_192 : decode cX12_copies 192 = .ok (.aload_n 0, 1) := by decide +kernel
theorem dX12_copies_193 : decode cX12_copies 193 = .ok (.getfield 105, 3) := by decide +kernel
theorem dX12_copies_196 : decode cX12_copies 196 = .ok (.bipush 12, 2) := by decide +kernel
theorem dX12_copies_198 : decode cX12_copies 198 = .ok (.iload_n 2, 1) := by decide +kernel
theorem dX12_copies_199 : decode cX12_copies 199 = .ok (.imul, 1) := by decide +kernel
theorem dX12_copies_200 : decode cX12_copies 200 = .ok (.iload_n 3, 1) := by decide +kernel
theorem dX12_copies_201 : decode cX12_copies 201 = .ok (.iadd, 1) := by decide +kernel
theorem dX12_copies_202 : decode cX12_copies 202 = .ok (.iaload, 1) := by decide +kernel
theorem dX12_copies_203 : decode cX12_copies 203 = .ok (.iastore, 1) := by decide +kernel
theorem dX12_copies_204 : decode cX12_copies 204 = .ok (.aload_n 0, 1) := by decide +kernel
theorem dX12_copies_205 : decode cX12_copies 205 = .ok (.getfield 111, 3) := by decide +kernel
theorem dX12_copies_208 : decode cX12_copies 208 = .ok (.bipush 12, 2) := by decide +kernel
theorem dX12_copies_210 : decode cX12_copies 210 = .ok (.iload_n 1, 1) := by decide +kernel
theorem dX12_copies_211 : decode cX12_copies 211 = .ok (.imul, 1) := by decide +kernel
theorem dX12_copies_212 : decode cX12_copies 212 = .ok (.iload_n 3, 1) := by decide +kernel
theorem dX12_copies_213 : decode cX12_copies 213 = .ok (.iadd, 1) := by decide +kernel
theorem dX12_copies_214 : decode cX12_copies 214 = .ok (.aload_n 0, 1) := by decide +kernel
theorem dX12_copies_215 : decode cX12_copies 215 = .ok (.getfield 111, 3) := by decide +kernel
theorem dX12_copies_218 : decode cX12_copies 218 = .ok (.bipush 12, 2) := by decide +kernel
theorem dX12_copies_220 : decode cX12_copies 220 = .ok (.iload_n 2, 1) := by decide +kernel
theorem dX12_copies_221 : decode cX12_copies 221 = .ok (.imul, 1) := by decide +kernel
theorem dX12_copies_222 : decode cX12_copies 222 = .ok (.iload_n 3, 1) := by decide +kernel
theorem dX12_copies_223 : decode cX12_copies 223 = .ok (.iadd, 1) := by decide +kernel
theorem dX12_copies_224 : decode cX12_copies 224 = .ok (.iaload, 1) := by decide +kernel
theorem dX12_copies_225 : decode cX12_copies 225 = .ok (.iastore, 1) := by decide +kernel
theorem dX12_copies_226 : decode cX12_copies 226 = .ok (.aload_n 0, 1) := by decide +kernel
theorem dX12_copies_227 : decode cX12_copies 227 = .ok (.getfield 114, 3) := by decide +kernel
theorem dX12_copies_230 : decode cX12_copies 230 = .ok (.bipush 12, 2) := by decide +kernel
theorem dX12_copies_232 : decode cX12_copies 232 = .ok (.iload_n 1, 1) := by decide +kernel
theorem dX12_copies_233 : decode cX12_copies 233 = .ok (.imul, 1) := by decide +kernel
theorem dX12_copies_234 : decode cX12_copies 234 = .ok (.iload_n 3, 1) := by decide +kernel
theorem dX12_copies_235 : decode cX12_copies 235 = .ok (.iadd, 1) := by decide +kernel
theorem dX12_copies_236 : decode cX12_copies 236 = .ok (.aload_n 0, 1) := by decide +kernel
theorem dX12_copies_237 : decode cX12_copies 237 = .ok (.getfield 114, 3) := by decide +kernel
theorem dX12_copies_240 : decode cX12_copies 240 = .ok (.bipush 12, 2) := by decide +kernel
theorem dX12_copies_242 : decode cX12_copies 242 = .ok (.iload_n 2, 1) := by decide +kernel
theorem dX12_copies_243 : decode cX12_copies 243 = .ok (.imul, 1) := by decide +kernel
theorem dX12_copies_244 : decode cX12_copies 244 = .ok (.iload_n 3, 1) := by decide +kernel
theorem dX12_copies_245 : decode cX12_copies 245 = .ok (.iadd, 1) := by decide +kernel
theorem dX12_copies_246 : decode cX12_copies 246 = .ok (.iaload, 1) := by decide +kernel
theorem dX12_copies_247 : decode cX12_copies 247 = .ok (.iastore, 1) := by decide +kernel
theorem dX12_copies_248 : decode cX12_copies 248 = .ok (.iinc 3 1, 3) := by decide +kernel
theorem dX12_copies_251 : decode cX12_copies 251 = .ok (.goto (-75), 3) := by decide +kernel
theorem dX12_copies_254 : decode cX12_copies 254 = .ok (.return_, 1) := by decide +kernel
theorem dX12_count_0 : decode cX12_count 0 = .ok (.aload_n 0, 1) := by decide +kernel
theorem dX12_count_1 : decode cX12_count 1 = .ok (.iconst 0, 1) := by decide +kernel
theorem dX12_count_2 : decode cX12_count 2 = .ok (.putfield 163, 3) := by decide +kernel
theorem dX12_count_5 : decode cX12_count 5 = .ok (.iconst 0, 1) := by decide +kernel
theorem dX12_count_6 : decode cX12_count 6 = .ok (.istore_n 2, 1) := by decide +kernel
theorem dX12_count_7 : decode cX12_count 7 = .ok (.iload_n 1, 1) := by decide +kernel
theorem dX12_count_8 : decode cX12_count 8 = .ok (.tableswitch 211 0 11 #[64, 71, 78, 85, 92, 100, 107, 114, 121, 126, 131, 141], 64) := by decide +kernel
theorem dX12_count_72 : decode cX12_count 72 = .ok (.aload_n 0, 1) := by decide +kernel
theorem dX12_count_73 : decode cX12_count 73 = .ok (.getfield 13, 3) := by decide +kernel
theorem dX12_count_76 : decode cX12_count 76 = .ok (.iconst 0, 1) := by decide +kernel
theorem dX12_count_77 : decode cX12_count 77 = .ok (.iaload, 1) := by decide +kernel
theorem dX12_count_78 : decode cX12_count 78 = .ok (.ireturn, 1) := by decide +kernel
theorem dX12_count_79 : decode cX12_count 79 = .ok (.aload_n 0, 1) := by decide +kernel
theorem dX12_count_80 : decode cX12_count 80 = .ok (.getfield 13, 3) := by decide +kernel
theorem dX12_count_83 : decode cX12_count 83 = .ok (.iconst 1, 1) := by decide +kernel
theorem dX12_count_84 : decode cX12_count 84 = .ok (.iaload, 1) := by decide +kernel
theorem dX12_count_85 : decode cX12_count 85 = .ok (.ireturn, 1) := by decide +kernel
theorem dX12_count_86 : decode cX12_count 86 = .ok (.aload_n 0, 1) := by decide +kernel
theorem dX12_count_87 : decode cX12_count 87 = .ok (.getfield 13, 3) := by decide +kernel
theorem dX12_count_90 : decode cX12_count 90 = .ok (.iconst 2, 1) := by decide +kernel
theorem dX12_count_91 : decode cX12_count 91 = .ok (.iaload, 1) := by decide +kernel
theorem dX12_count_92 : decode cX12_count 92 = .ok (.ireturn, 1) := by decide +kernel
theorem dX12_count_93 : decode cX12_count 93 = .ok (.aload_n 0, 1) := by decide +kernel
theorem dX12_count_94 : decode cX12_count 94 = .ok (.getfield 13, 3) := by decide +kernel
theorem dX12_count_97 : decode cX12_count 97 = .ok (.iconst 3, 1) := by decide +kernel
theorem dX12_count_98 : decode cX12_count 98 = .ok (.iaload, 1) := by decide +kernel
theorem dX12_count_99 : decode cX12_count 99 = .ok (.ireturn, 1) := by decide +kernel
theorem dX12_count_100 : decode cX12_count 100 = .ok (.aload_n 0, 1) := by decide +kernel
theorem dX12_count_101 : decode cX12_count 101 = .ok (.getfield 13, 3) := by decide +kernel
theorem dX12_count_104 : decode cX12_count 104 = .ok (.bipush 6, 2) := by decide +kernel
theorem dX12_count_106 : decode cX12_count 106 = .ok (.iaload, 1) := by decide +kernel
theorem dX12_count_107 : decode cX12_count 107 = .ok (.ireturn, 1) := by decide +kernel
theorem dX12_count_108 : decode cX12_count 108 = .ok (.aload_n 0, 1) := by decide +kernel
theorem dX12_count_109 : decode cX12_count 109 = .ok (.getfield 81, 3) := by decide +kernel
theorem dX12_count_112 : decode cX12_count 112 = .ok (.iconst 0, 1) := by decide +kernel
theorem dX12_count_113 : decode cX12_count 113 = .ok (.iaload, 1) := by decide +kernel
theorem dX12_count_114 : decode cX12_count 114 = .ok (.ireturn, 1) := by decide +kernel
theorem dX12_count_115 : decode cX12_count 115 = .ok (.aload_n 0, 1) := by decide +kernel
theorem dX12_count_116 : decode cX12_count 116 = .ok (.getfield 84, 3) := by decide +kernel
theorem dX12_count_119 : decode cX12_count 119 = .ok (.iconst 0, 1) := by decide +kernel
theorem dX12_count_120 : decode cX12_count 120 = .ok (.iaload, 1) := by decide +kernel
theorem dX12_count_121 : decode cX12_count 121 = .ok (.ireturn, 1) := by decide +kernel
theorem dX12_count_122 : decode cX12_count 122 = .ok (.aload_n 0, 1) := by decide +kernel
theorem dX12_count_123 : decode cX12_count 123 = .ok (.getfield 108, 3) := by decide +kernel
theorem dX12_count_126 : decode cX12_count 126 = .ok (.iconst 0, 1) := by decide +kernel
theorem dX12_count_127 : decode cX12_count 127 = .ok (.iaload, 1) := by decide +kernel
theorem dX12_count_128 : decode cX12_count 128 = .ok (.ireturn, 1) := by decide +kernel
theorem dX12_count_129 : decode cX12_count 129 = .ok (.aload_n 0, 1) := by decide +kernel
theorem dX12_count_130 : decode cX12_count 130 = .ok (.getfield 325, 3) := by decide +kernel
theorem dX12_count_133 : decode cX12_count 133 = .ok (.ireturn, 1) := by decide +kernel
theorem dX12_count_134 : decode cX12_count 134 = .ok (.aload_n 0, 1) := by decide +kernel
theorem dX12_count_135 : decode cX12_count 135 = .ok (.invokevirtual 467, 3) := by decide +kernel
theorem dX12_count_138 : decode cX12_count 138 = .ok (.ireturn, 1) := by decide +kernel
theorem dX12_count_139 : decode cX12_count 139 = .ok (.aload_n 0, 1) := by decide +kernel
theorem dX12_count_140 : decode cX12_count 140 = .ok (.getfield 93, 3) := by decide +kernel
theorem dX12_count_143 : decode cX12_count 143 = .ok (.iconst 0, 1) := by decide +kernel
theorem dX12_count_144 : decode cX12_count 144 = .ok (.iaload, 1) := by decide +kernel
theorem dX12_count_145 : decode cX12_count 145 = .ok (.invokestatic 485, 3) := by decide +kernel
theorem dX12_count_148 : decode cX12_count 148 = .ok (.ireturn, 1) := by decide +kernel
theorem dX12_count_149 : decode cX12_count 149 = .ok (.iconst 0, 1) := by decide +kernel
theorem dX12_count_150 : decode cX12_count 150 = .ok (.istore_n 3, 1) := by decide +kernel
theorem dX12_count_151 : decode cX12_count 151 = .ok (.iload_n 3, 1) := by decide +kernel
theorem dX12_count_152 : decode cX12_count 152 = .ok (.aload_n 0, 1) := by decide +kernel
theorem dX12_count_153 : decode cX12_count 153 = .ok (.getfield 13, 3) := by decide +kernel
theorem dX12_count_156 : decode cX12_count 156 = .ok (.iconst 0, 1) := by decide +kernel
theorem dX12_count_157 : decode cX12_count 157 = .ok (.iaload, 1) := by decide +kernel
theorem dX12_count_158 : decode cX12_count 158 = .ok (.if_icmp .ge 18, 3) := by decide +kernel
theorem dX12_count_176 : decode cX12_count 176 = .ok (.iconst 0, 1) := by decide +kernel
theorem dX12_count_177 : decode cX12_count 177 = .ok (.istore_n 3, 1) := by decide +kernel
theorem dX12_count_178 : decode cX12_count 178 = .ok (.iload_n 3, 1) := by decide +kernel
theorem dX12_count_179 : decode cX12_count 179 = .ok (.aload_n 0, 1) := by decide +kernel
theorem dX12_count_180 : decode cX12_count 180 = .ok (.getfield 13, 3) := by decide +kernel
theorem dX12_count_183 : decode cX12_count 183 = .ok (.iconst 3, 1) := by decide +kernel
theorem dX12_count_184 : decode cX12_count 184 = .ok (.iaload, 1) := by decide +kernel
theorem dX12_count_185 : decode cX12_count 185 = .ok (.if_icmp .ge 18, 3) := by decide +kernel
theorem dX12_count_203 : decode cX12_count 203 = .ok (.iload_n 2, 1) := by decide +kernel
theorem dX12_count_204 : decode cX12_count 204 = .ok (.aload_n 0, 1) := by decide +kernel
theorem dX12_count_205 : decode cX12_count 205 = .ok (.getfield 84, 3) := by decide +kernel
theorem dX12_count_208 : decode cX12_count 208 = .ok (.iconst 0, 1) := by decide +kernel
theorem dX12_count_209 : decode cX12_count 209 = .ok (.iaload, 1) := by decide +kernel
theorem dX12_count_210 : decode cX12_count 210 = .ok (.iadd, 1) := by decide +kernel
theorem dX12_count_211 : decode cX12_count 211 = .ok (.aload_n 0, 1) := by decide +kernel
theorem dX12_count_212 : decode cX12_count 212 = .ok (.getfield 90, 3) := by decide +kernel
theorem dX12_count_215 : decode cX12_count 215 = .ok (.iconst 0, 1) := by decide +kernel
theorem dX12_count_216 : decode cX12_count 216 = .ok (.iaload, 1) := by decide +kernel
theorem dX12_count_217 : decode cX12_count 217 = .ok (.iadd, 1) := by decide +kernel
theorem dX12_count_218 : decode cX12_count 218 = .ok (.ireturn, 1) := by decide +kernel
theorem dX12_count_219 : decode cX12_count 219 = .ok (.iconst (-1), 1) := by decide +kernel
theorem dX12_count_220 : decode cX12_count 220 = .ok (.ireturn, 1) := by decide +kernel
theorem dX12_cracks_0 : decode cX12_cracks 0 = .ok (.aload_n 0, 1) := by decide +kernel
theorem dX12_cracks_1 : decode cX12_cracks 1 = .ok (.iconst 0, 1) := by decide +kernel
theorem dX12_cracks_2 : decode cX12_cracks 2 = .ok (.putfield 163, 3) := by decide +kernel
theorem dX12_cracks_5 : decode cX12_cracks 5 = .ok (.aload_n 0, 1) := by decide +kernel
theorem dX12_cracks_6 : decode cX12_cracks 6 = .ok (.iload_n 1, 1) := by decide +kernel
theorem dX12_cracks_7 : decode cX12_cracks 7 = .ok (.invokevirtual 335, 3) := by decide +kernel
theorem dX12_cracks_10 : decode cX12_cracks 10 = .ok (.ifCond .eq 12, 3) := by decide +kernel
theorem dX12_cracks_22 : decode cX12_cracks 22 = .ok (.iconst (-1), 1) := by decide +kernel
theorem dX12_cracks_23 : decode cX12_cracks 23 = .ok (.ireturn, 1) := by decide +kernel
theorem dX12_due_0 : decode cX12_due 0 = .ok (.aload_n 0, 1) := by decide +kernel
theorem dX12_due_1 : decode cX12_due 1 = .ok (.iconst 0, 1) := by decide +kernel
theorem dX12_due_2 : decode cX12_due 2 = .ok (.putfield 163, 3) := by decide +kernel
theorem dX12_due_5 : decode cX12_due 5 = .ok (.aload_n 0, 1) := by decide +kernel
theorem dX12_due_6 : decode cX12_due 6 = .ok (.iload_n 1, 1) := by decide +kernel
theorem dX12_due_7 : decode cX12_due 7 = .ok (.iload_n 2, 1) := by decide +kernel
theorem dX12_due_8 : decode cX12_due 8 = .ok (.invokevirtual 344, 3) := by decide +kernel
theorem dX12_due_11 : decode cX12_due 11 = .ok (.ifCond .eq 24, 3) := by decide +kernel
theorem dX12_due_35 : decode cX12_due 35 = .ok (.iconst (-1), 1) := by decide +kernel
theorem dX12_due_36 : decode cX12_due 36 = .ok (.ireturn, 1) := by decide +kernel
theorem dX12_easter_0 : decode cX12_easter 0 = .ok (.aload_n 0, 1) := by decide +kernel
theorem dX12_easter_1 : decode cX12_easter 1 = .ok (.iconst 0, 1) := by decide +kernel
theorem dX12_easter_2 : decode cX12_easter 2 = .ok (.putfield 163, 3) := by decide +kernel
theorem dX12_easter_5 : decode cX12_easter 5 = .ok (.aload_n 0, 1) := by decide +kernel
theorem dX12_easter_6 : decode cX12_easter 6 = .ok (.iload_n 1, 1) := by decide +kernel
theorem dX12_easter_7 : decode cX12_easter 7 = .ok (.invokevirtual 461, 3) := by decide +kernel
theorem dX12_easter_10 : decode cX12_easter 10 = .ok (.ifCond .ne 5, 3) := by decide +kernel
theorem dX12_easter_13 : decode cX12_easter 13 = .ok (.iconst (-1), 1) := by decide +kernel
theorem dX12_easter_14 : decode cX12_easter 14 = .ok (.ireturn, 1) := by decide +kernel
theorem dX12_easter_15 : decode cX12_easter 15 = .ok (.aload_n 0, 1) := by decide +kernel
theorem dX12_easter_16 : decode cX12_easter 16 = .ok (.iload_n 1, 1) := by decide +kernel
theorem dX12_easter_17 : decode cX12_easter 17 = .ok (.aload_n 0, 1) := by decide +kernel
theorem dX12_easter_18 : decode cX12_easter 18 = .ok (.getfield 13, 3) := by decide +kernel
theorem dX12_easter_21 : decode cX12_easter 21 = .ok (.iconst 2, 1) := by decide +kernel
theorem dX12_easter_22 : decode cX12_easter 22 = .ok (.iaload, 1) := by decide +kernel
theorem dX12_easter_23 : decode cX12_easter 23 = .ok (.iconst 1, 1) := by decide +kernel
theorem dX12_easter_24 : decode cX12_easter 24 = .ok (.isub, 1) := by decide +kernel
theorem dX12_easter_25 : decode cX12_easter 25 = .ok (.invokevirtual 464, 3) := by decide +kernel
theorem dX12_easter_28 : decode cX12_easter 28 = .ok (.istore_n 2, 1) := by decide +kernel
theorem dX12_easter_29 : decode cX12_easter 29 = .ok (.iconst 0, 1) := by decide +kernel
theorem dX12_easter_30 : decode cX12_easter 30 = .ok (.istore_n 3, 1) := by decide +kernel
theorem dX12_easter_31 : decode cX12_easter 31 = .ok (.iload_n 3, 1) := by decide +kernel
theorem dX12_easter_32 : decode cX12_easter 32 = .ok (.aload_n 0, 1) := by decide +kernel
theorem dX12_easter_33 : decode cX12_easter 33 = .ok (.getfield 13, 3) := by decide +kernel
theorem dX12_easter_36 : decode cX12_easter 36 = .ok (.iconst 3, 1) := by decide +kernel
theorem dX12_easter_37 : decode cX12_easter 37 = .ok (.iaload, 1) := by decide +kernel
theorem dX12_easter_38 : decode cX12_easter 38 = .ok (.if_icmp .ge 21, 3) := by decide +kernel
theorem dX12_easter_59 : decode cX12_easter 59 = .ok (.aload_n 0, 1) := by decide +kernel
theorem dX12_easter_60 : decode cX12_easter 60 = .ok (.getfield 84, 3) := by decide +kernel
theorem dX12_easter_63 : decode cX12_easter 63 = .ok (.iconst 0, 1) := by decide +kernel
theorem dX12_easter_64 : decode cX12_easter 64 = .ok (.dup2, 1) := by decide +kernel
theorem dX12_easter_65 : decode cX12_easter 65 = .ok (.iaload, 1) := by decide +kernel
theorem dX12_easter_66 : decode cX12_easter 66 = .ok (.iload_n 2, 1) := by decide +kernel
theorem dX12_easter_67 : decode cX12_easter 67 = .ok (.iadd, 1) := by decide +kernel
theorem dX12_easter_68 : decode cX12_easter 68 = .ok (.iastore, 1) := by decide +kernel
theorem dX12_easter_69 : decode cX12_easter 69 = .ok (.iload_n 2, 1) := by decide +kernel
theorem dX12_easter_70 : decode cX12_easter 70 = .ok (.ireturn, 1) := by decide +kernel
theorem dX12_entry_0 : decode cX12_entry 0 = .ok (.aload_n 0, 1) := by decide +kernel
theorem dX12_entry_1 : decode cX12_entry 1 = .ok (.iconst 0, 1) := by decide +kernel
theorem dX12_entry_2 : decode cX12_entry 2 = .ok (.putfield 163, 3) := by decide +kernel
theorem dX12_entry_5 : decode cX12_entry 5 = .ok (.aload_n 0, 1) := by decide +kernel
theorem dX12_entry_6 : decode cX12_entry 6 = .ok (.iload_n 1, 1) := by decide +kernel
theorem dX12_entry_7 : decode cX12_entry 7 = .ok (.iload_n 2, 1) := by decide +kernel
theorem dX12_entry_8 : decode cX12_entry 8 = .ok (.invokevirtual 344, 3) := by decide +kernel
theorem dX12_entry_11 : decode cX12_entry 11 = .ok (.ifCond .eq 23, 3) := by decide +kernel
theorem dX12_entry_34 : decode cX12_entry 34 = .ok (.iconst (-1), 1) := by decide +kernel
theorem dX12_entry_35 : decode cX12_entry 35 = .ok (.ireturn, 1) := by decide +kernel
theorem dX12_fault_0 : decode cX12_fault 0 = .ok (.aload_n 0, 1) := by decide +kernel
theorem dX12_fault_1 : decode cX12_fault 1 = .ok (.iconst 0, 1) := by decide +kernel
theorem dX12_fault_2 : decode cX12_fault 2 = .ok (.putfield 163, 3) := by decide +kernel
theorem dX12_fault_5 : decode cX12_fault 5 = .ok (.iload_n 1, 1) := by decide +kernel
theorem dX12_fault_6 : decode cX12_fault 6 = .ok (.ifCond .ne 10, 3) := by decide +kernel
theorem dX12_fault_9 : decode cX12_fault 9 = .ok (.aload_n 0, 1) := by decide +kernel
theorem dX12_fault_10 : decode cX12_fault 10 = .ok (.getfield 318, 3) := by decide +kernel
theorem dX12_fault_13 : decode cX12_fault 13 = .ok (.goto 16, 3) := by decide +kernel
theorem dX12_fault_16 : decode cX12_fault 16 = .ok (.iload_n 1, 1) := by decide +kernel
theorem dX12_fault_17 : decode cX12_fault 17 = .ok (.iconst 1, 1) := by decide +kernel
theorem dX12_fault_18 : decode cX12_fault 18 = .ok (.if_icmp .ne 10, 3) := by decide +kernel
theorem dX12_fault_21 : decode cX12_fault 21 = .ok (.aload_n 0, 1) := by decide +kernel
theorem dX12_fault_22 : decode cX12_fault 22 = .ok (.getfield 77, 3) := by decide +kernel
theorem dX12_fault_25 : decode cX12_fault 25 = .ok (.goto 4, 3) := by decide +kernel
theorem dX12_fault_28 : decode cX12_fault 28 = .ok (.iconst (-1), 1) := by decide +kernel
theorem dX12_fault_29 : decode cX12_fault 29 = .ok (.ireturn, 1) := by decide +kernel
theorem dX12_feed_0 : decode cX12_feed 0 = .ok (.aload_n 0, 1) := by decide +kernel
theorem dX12_feed_1 : decode cX12_feed 1 = .ok (.iconst 0, 1) := by decide +kernel
theorem dX12_feed_2 : decode cX12_feed 2 = .ok (.putfield 163, 3) := by decide +kernel
theorem dX12_feed_5 : decode cX12_feed 5 = .ok (.aload_n 0, 1) := by decide +kernel
theorem dX12_feed_6 : decode cX12_feed 6 = .ok (.getfield 166, 3) := by decide +kernel
theorem dX12_feed_9 : decode cX12_feed 9 = .ok (.sipush 780, 3) := by decide +kernel
theorem dX12_feed_12 : decode cX12_feed 12 = .ok (.if_icmp .le 5, 3) := by decide +kernel
theorem dX12_feed_17 : decode cX12_feed 17 = .ok (.iconst 0, 1) := by decide +kernel
theorem dX12_feed_18 : decode cX12_feed 18 = .ok (.istore 6, 2) := by decide +kernel
theorem dX12_feed_20 : decode cX12_feed 20 = .ok (.iload 6, 2) := by decide +kernel
theorem dX12_feed_22 : decode cX12_feed 22 = .ok (.bipush 20, 2) := by decide +kernel
theorem dX12_feed_24 : decode cX12_feed 24 = .ok (.if_icmp .ge 86, 3) := by decide +kernel
theorem dX12_feed_27 : decode cX12_feed 27 = .ok (.iload 6, 2) := by decide +kernel
theorem dX12_feed_29 : decode cX12_feed 29 = .ok (.iconst 4, 1) := by decide +kernel
theorem dX12_feed_30 : decode cX12_feed 30 = .ok (.if_icmp .ge 7, 3) := by decide +kernel
theorem dX12_feed_33 : decode cX12_feed 33 = .ok (.iload_n 1, 1) := by decide +kernel
theorem dX12_feed_34 : decode cX12_feed 34 = .ok (.goto 39, 3) := by decide +kernel
theorem dX12_feed_37 : decode cX12_feed 37 = .ok (.iload 6, 2) := by decide +kernel
theorem dX12_feed_39 : decode cX12_feed 39 = .ok (.bipush 8, 2) := by decide +kernel
theorem dX12_feed_41 : decode cX12_feed 41 = .ok (.if_icmp .ge 7, 3) := by decide +kernel
theorem dX12_feed_44 : decode cX12_feed 44 = .ok (.iload_n 2, 1) := by decide +kernel
theorem dX12_feed_45 : decode cX12_feed 45 = .ok (.goto 28, 3) := by decide +kernel
theorem dX12_feed_48 : decode cX12_feed 48 = .ok (.iload 6, 2) := by decide +kernel
theorem dX12_feed_50 : decode cX12_feed 50 = .ok (.bipush 12, 2) := by decide +kernel
theorem dX12_feed_52 : decode cX12_feed 52 = .ok (.if_icmp .ge 7, 3) := by decide +kernel
theorem dX12_feed_55 : decode cX12_feed 55 = .ok (.iload_n 3, 1) := by decide +kernel
theorem dX12_feed_56 : decode cX12_feed 56 = .ok (.goto 17, 3) := by decide +kernel
theorem dX12_feed_59 : decode cX12_feed 59 = .ok (.iload 6, 2) := by decide +kernel
theorem dX12_feed_61 : decode cX12_feed 61 = .ok (.bipush 16, 2) := by decide +kernel
theorem dX12_feed_63 : decode cX12_feed 63 = .ok (.if_icmp .ge 8, 3) := by decide +kernel
theorem dX12_feed_66 : decode cX12_feed 66 = .ok (.iload 4, 2) := by decide +kernel
theorem dX12_feed_68 : decode cX12_feed 68 = .ok (.goto 5, 3) := by decide +kernel
theorem dX12_feed_71 : decode cX12_feed 71 = .ok (.iload 5, 2) := by decide +kernel
theorem dX12_feed_73 : decode cX12_feed 73 = .ok (.istore 7, 2) := by decide +kernel
theorem dX12_feed_75 : decode cX12_feed 75 = .ok (.aload_n 0, 1) := by decide +kernel
theorem dX12_feed_76 : decode cX12_feed 76 = .ok (.getfield 7, 3) := by decide +kernel
theorem dX12_feed_79 : decode cX12_feed 79 = .ok (.aload_n 0, 1) := by decide +kernel
theorem dX12_feed_80 : decode cX12_feed 80 = .ok (.getfield 166, 3) := by decide +kernel
theorem dX12_feed_83 : decode cX12_feed 83 = .ok (.iload 6, 2) := by decide +kernel
theorem dX12_feed_85 : decode cX12_feed 85 = .ok (.iadd, 1) := by decide +kernel
theorem dX12_feed_86 : decode cX12_feed 86 = .ok (.iload 7, 2) := by decide +kernel
theorem dX12_feed_88 : decode cX12_feed 88 = .ok (.bipush 24, 2) := by decide +kernel
theorem dX12_feed_90 : decode cX12_feed 90 = .ok (.bipush 8, 2) := by decide +kernel
theorem dX12_feed_92 : decode cX12_feed 92 = .ok (.iload 6, 2) := by decide +kernel
theorem dX12_feed_94 : decode cX12_feed 94 = .ok (.iconst 4, 1) := by decide +kernel
theorem dX12_feed_95 : decode cX12_feed 95 = .ok (.irem, 1) := by decide +kernel
theorem dX12_feed_96 : decode cX12_feed 96 = .ok (.imul, 1) := by decide +kernel
theorem dX12_feed_97 : decode cX12_feed 97 = .ok (.isub, 1) := by decide +kernel
theorem dX12_feed_98 : decode cX12_feed 98 = .ok (.ishr, 1) := by decide +kernel
theorem dX12_feed_99 : decode cX12_feed 99 = .ok (.sipush 255, 3) := by decide +kernel
theorem dX12_feed_102 : decode cX12_feed 102 = .ok (.iand, 1) := by decide +kernel
theorem dX12_feed_103 : decode cX12_feed 103 = .ok (.iastore, 1) := by decide +kernel
theorem dX12_feed_104 : decode cX12_feed 104 = .ok (.iinc 6 1, 3) := by decide +kernel
theorem dX12_feed_107 : decode cX12_feed 107 = .ok (.goto (-87), 3) := by decide +kernel
theorem dX12_feed_110 : decode cX12_feed 110 = .ok (.aload_n 0, 1) := by decide +kernel
theorem dX12_feed_111 : decode cX12_feed 111 = .ok (.dup, 1) := by decide +kernel
theorem dX12_feed_112 : decode cX12_feed 112 = .ok (.getfield 166, 3) := by decide +kernel
theorem dX12_feed_115 : decode cX12_feed 115 = .ok (.bipush 20, 2) := by decide +kernel
theorem dX12_feed_117 : decode cX12_feed 117 = .ok (.iadd, 1) := by decide +kernel
theorem dX12_feed_118 : decode cX12_feed 118 = .ok (.putfield 166, 3) := by decide +kernel
theorem dX12_feed_121 : decode cX12_feed 121 = .ok (.aload_n 0, 1) := by decide +kernel
theorem dX12_feed_122 : decode cX12_feed 122 = .ok (.getfield 166, 3) := by decide +kernel
theorem dX12_feed_125 : decode cX12_feed 125 = .ok (.ireturn, 1) := by decide +kernel
theorem dX12_found_0 : decode cX12_found 0 = .ok (.iconst 0, 1) := by decide +kernel
theorem dX12_found_1 : decode cX12_found 1 = .ok (.istore 4, 2) := by decide +kernel
theorem dX12_found_3 : decode cX12_found 3 = .ok (.iload 4, 2) := by decide +kernel
theorem dX12_found_5 : decode cX12_found 5 = .ok (.iload_n 2, 1) := by decide +kernel
theorem dX12_found_6 : decode cX12_found 6 = .ok (.if_icmp .ge 22, 3) := by decide +kernel
theorem dX12_found_28 : decode cX12_found 28 = .ok (.iconst (-1), 1) := by decide +kernel
theorem dX12_found_29 : decode cX12_found 29 = .ok (.ireturn, 1) := by decide +kernel
theorem dX12_gang_0 : decode cX12_gang 0 = .ok (.aload_n 0, 1) := by decide +kernel
theorem dX12_gang_1 : decode cX12_gang 1 = .ok (.iconst 0, 1) := by decide +kernel
theorem dX12_gang_2 : decode cX12_gang 2 = .ok (.putfield 163, 3) := by decide +kernel
theorem dX12_gang_5 : decode cX12_gang 5 = .ok (.aload_n 0, 1) := by decide +kernel
theorem dX12_gang_6 : decode cX12_gang 6 = .ok (.invokevirtual 473, 3) := by decide +kernel
theorem dX12_gang_9 : decode cX12_gang 9 = .ok (.bipush (-2), 2) := by decide +kernel
theorem dX12_gang_11 : decode cX12_gang 11 = .ok (.istore_n 1, 1) := by decide +kernel
theorem dX12_gang_12 : decode cX12_gang 12 = .ok (.iconst 0, 1) := by decide +kernel
theorem dX12_gang_13 : decode cX12_gang 13 = .ok (.istore_n 2, 1) := by decide +kernel
theorem dX12_gang_14 : decode cX12_gang 14 = .ok (.iload_n 2, 1) := by decide +kernel
theorem dX12_gang_15 : decode cX12_gang 15 = .ok (.iconst 1, 1) := by decide +kernel
theorem dX12_gang_16 : decode cX12_gang 16 = .ok (.aload_n 0, 1) := by decide +kernel
theorem dX12_gang_17 : decode cX12_gang 17 = .ok (.getfield 13, 3) := by decide +kernel
theorem dX12_gang_20 : decode cX12_gang 20 = .ok (.iconst 1, 1) := by decide +kernel
theorem dX12_gang_21 : decode cX12_gang 21 = .ok (.iaload, 1) := by decide +kernel
theorem dX12_gang_22 : decode cX12_gang 22 = .ok (.ishl, 1) := by decide +kernel
theorem dX12_gang_23 : decode cX12_gang 23 = .ok (.if_icmp .ge 36, 3) := by decide +kernel
theorem dX12_gang_26 : decode cX12_gang 26 = .ok (.iload_n 1, 1) := by decide +kernel
theorem dX12_gang_27 : decode cX12_gang 27 = .ok (.bipush (-2), 2) := by decide +kernel
theorem dX12_gang_29 : decode cX12_gang 29 = .ok (.if_icmp .eq 14, 3) := by decide +kernel
theorem dX12_gang_43 : decode cX12_gang 43 = .ok (.aload_n 0, 1) := by decide +kernel
theorem dX12_gang_44 : decode cX12_gang 44 = .ok (.iload_n 2, 1) := by decide +kernel
theorem dX12_gang_45 : decode cX12_gang 45 = .ok (.invokevirtual 488, 3) := by decide +kernel
theorem dX12_gang_48 : decode cX12_gang 48 = .ok (.ifCond .eq 5, 3) := by decide +kernel
theorem dX12_gang_51 : decode cX12_gang 51 = .ok (.iload_n 2, 1) := by decide +kernel
theorem dX12_gang_52 : decode cX12_gang 52 = .ok (.istore_n 1, 1) := by decide +kernel
theorem dX12_gang_53 : decode cX12_gang 53 = .ok (.iinc 2 1, 3) := by decide +kernel
theorem dX12_gang_56 : decode cX12_gang 56 = .ok (.goto (-42), 3) := by decide +kernel
theorem dX12_gang_59 : decode cX12_gang 59 = .ok (.iload_n 1, 1) := by decide +kernel
theorem dX12_gang_60 : decode cX12_gang 60 = .ok (.ireturn, 1) := by decide +kernel
theorem dX12_half_0 : decode cX12_half 0 = .ok (.aload_n 0, 1) := by decide +kernel
theorem dX12_half_1 : decode cX12_half 1 = .ok (.arraylength, 1) := by decide +kernel
theorem dX12_half_2 : decode cX12_half 2 = .ok (.iconst 2, 1) := by decide +kernel
theorem dX12_half_3 : decode cX12_half 3 = .ok (.idiv, 1) := by decide +kernel
theorem dX12_half_4 : decode cX12_half 4 = .ok (.istore_n 1, 1) := by decide +kernel
theorem dX12_half_5 : decode cX12_half 5 = .ok (.iconst 0, 1) := by decide +kernel
theorem dX12_half_6 : decode cX12_half 6 = .ok (.istore_n 2, 1) := by decide +kernel
theorem dX12_half_7 : decode cX12_half 7 = .ok (.iload_n 2, 1) := by decide +kernel
theorem dX12_half_8 : decode cX12_half 8 = .ok (.iload_n 1, 1) := by decide +kernel
theorem dX12_half_9 : decode cX12_half 9 = .ok (.if_icmp .ge 17, 3) := by decide +kernel
theorem dX12_half_12 : decode cX12_half 12 = .ok (.aload_n 0, 1) := by decide +kernel
theorem dX12_half_13 : decode cX12_half 13 = .ok (.iload_n 2, 1) := by decide +kernel
theorem dX12_half_14 : decode cX12_half 14 = .ok (.aload_n 0, 1) := by decide +kernel
theorem dX12_half_15 : decode cX12_half 15 = .ok (.iload_n 1, 1) := by decide +kernel
theorem dX12_half_16 : decode cX12_half 16 = .ok (.iload_n 2, 1) := by decide +kernel
theorem dX12_half_17 : decode cX12_half 17 = .ok (.iadd, 1) := by decide +kernel
theorem dX12_half_18 : decode cX12_half 18 = .ok (.iaload, 1) := by decide +kernel
theorem dX12_half_19 : decode cX12_half 19 = .ok (.iastore, 1) := by decide +kernel
theorem dX12_half_20 : decode cX12_half 20 = .ok (.iinc 2 1, 3) := by decide +kernel
theorem dX12_half_23 : decode cX12_half 23 = .ok (.goto (-16), 3) := by decide +kernel
theorem dX12_half_26 : decode cX12_half 26 = .ok (.return_, 1) := by decide +kernel
theorem dX12_here_0 : decode cX12_here 0 = .ok (.aload_n 0, 1) := by decide +kernel
theorem dX12_here_1 : decode cX12_here 1 = .ok (.getfield 169, 3) := by decide +kernel
theorem dX12_here_4 : decode cX12_here 4 = .ok (.aload_n 0, 1) := by decide +kernel
theorem dX12_here_5 : decode cX12_here 5 = .ok (.getfield 172, 3) := by decide +kernel
theorem dX12_here_8 : decode cX12_here 8 = .ok (.if_icmp .ge 15, 3) := by decide +kernel
theorem dX12_here_23 : decode cX12_here 23 = .ok (.iconst (-1), 1) := by decide +kernel
theorem dX12_here_24 : decode cX12_here 24 = .ok (.ireturn, 1) := by decide +kernel
theorem dX12_hum_0 : decode cX12_hum 0 = .ok (.aload_n 0, 1) := by decide +kernel
theorem dX12_hum_1 : decode cX12_hum 1 = .ok (.iconst 0, 1) := by decide +kernel
theorem dX12_hum_2 : decode cX12_hum 2 = .ok (.putfield 163, 3) := by decide +kernel
theorem dX12_hum_5 : decode cX12_hum 5 = .ok (.iload_n 1, 1) := by decide +kernel
theorem dX12_hum_6 : decode cX12_hum 6 = .ok (.iconst 1, 1) := by decide +kernel
theorem dX12_hum_7 : decode cX12_hum 7 = .ok (.if_icmp .lt 18, 3) := by decide +kernel
theorem dX12_hum_10 : decode cX12_hum 10 = .ok (.iload_n 1, 1) := by decide +kernel
theorem dX12_hum_11 : decode cX12_hum 11 = .ok (.bipush 40, 2) := by decide +kernel
theorem dX12_hum_13 : decode cX12_hum 13 = .ok (.if_icmp .gt 12, 3) := by decide +kernel
theorem dX12_hum_16 : decode cX12_hum 16 = .ok (.aload_n 0, 1) := by decide +kernel
theorem dX12_hum_17 : decode cX12_hum 17 = .ok (.getfield 325, 3) := by decide +kernel
theorem dX12_hum_20 : decode cX12_hum 20 = .ok (.bipush 24, 2) := by decide +kernel
theorem dX12_hum_22 : decode cX12_hum 22 = .ok (.if_icmp .ne 5, 3) := by decide +kernel
theorem dX12_hum_25 : decode cX12_hum 25 = .ok (.iconst (-1), 1) := by decide +kernel
theorem dX12_hum_26 : decode cX12_hum 26 = .ok (.ireturn, 1) := by decide +kernel
theorem dX12_hum_27 : decode cX12_hum 27 = .ok (.aload_n 0, 1) := by decide +kernel
theorem dX12_hum_28 : decode cX12_hum 28 = .ok (.getfield 145, 3) := by decide +kernel
theorem dX12_hum_31 : decode cX12_hum 31 = .ok (.aload_n 0, 1) := by decide +kernel
theorem dX12_hum_32 : decode cX12_hum 32 = .ok (.getfield 325, 3) := by decide +kernel
theorem dX12_hum_35 : decode cX12_hum 35 = .ok (.iload_n 1, 1) := by decide +kernel
theorem dX12_hum_36 : decode cX12_hum 36 = .ok (.iastore, 1) := by decide +kernel
theorem dX12_hum_37 : decode cX12_hum 37 = .ok (.aload_n 0, 1) := by decide +kernel
theorem dX12_hum_38 : decode cX12_hum 38 = .ok (.getfield 148, 3) := by decide +kernel
theorem dX12_hum_41 : decode cX12_hum 41 = .ok (.aload_n 0, 1) := by decide +kernel
theorem dX12_hum_42 : decode cX12_hum 42 = .ok (.getfield 325, 3) := by decide +kernel
theorem dX12_hum_45 : decode cX12_hum 45 = .ok (.iconst (-1), 1) := by decide +kernel
theorem dX12_hum_46 : decode cX12_hum 46 = .ok (.iastore, 1) := by decide +kernel
theorem dX12_hum_47 : decode cX12_hum 47 = .ok (.aload_n 0, 1) := by decide +kernel
theorem dX12_hum_48 : decode cX12_hum 48 = .ok (.dup, 1) := by decide +kernel
theorem dX12_hum_49 : decode cX12_hum 49 = .ok (.getfield 325, 3) := by decide +kernel
theorem dX12_hum_52 : decode cX12_hum 52 = .ok (.iconst 1, 1) := by decide +kernel
theorem dX12_hum_53 : decode cX12_hum 53 = .ok (.iadd, 1) := by decide +kernel
theorem dX12_hum_54 : decode cX12_hum 54 = .ok (.putfield 325, 3) := by decide +kernel
theorem dX12_hum_57 : decode cX12_hum 57 = .ok (.aload_n 0, 1) := by decide +kernel
theorem dX12_hum_58 : decode cX12_hum 58 = .ok (.getfield 325, 3) := by decide +kernel
theorem dX12_hum_61 : decode cX12_hum 61 = .ok (.iconst 1, 1) := by decide +kernel
theorem dX12_hum_62 : decode cX12_hum 62 = .ok (.isub, 1) := by decide +kernel
theorem dX12_hum_63 : decode cX12_hum 63 = .ok (.ireturn, 1) := by decide +kernel
theorem dX12_isCrowns_0 : decode cX12_isCrowns 0 = .ok (.iload_n 0, 1) := by decide +kernel
theorem dX12_isCrowns_1 : decode cX12_isCrowns 1 = .ok (.ifCond .lt 14, 3) := by decide +kernel
theorem dX12_isCrowns_4 : decode cX12_isCrowns 4 = .ok (.iload_n 0, 1) := by decide +kernel
theorem dX12_isCrowns_5 : decode cX12_isCrowns 5 = .ok (.sipush 1000, 3) := by decide +kernel
theorem dX12_isCrowns_8 : decode cX12_isCrowns 8 = .ok (.if_icmp .ge 7, 3) := by decide +kernel
theorem dX12_isCrowns_11 : decode cX12_isCrowns 11 = .ok (.iconst 1, 1) := by decide +kernel
theorem dX12_isCrowns_12 : decode cX12_isCrowns 12 = .ok (.goto 4, 3) := by decide +kernel
theorem dX12_isCrowns_15 : decode cX12_isCrowns 15 = .ok (.iconst 0, 1) := by decide +kernel
theorem dX12_isCrowns_16 : decode cX12_isCrowns 16 = .ok (.ireturn, 1) := by decide +kernel
theorem dX12_isGang_0 : decode cX12_isGang 0 = .ok (.iconst 0, 1) := by decide +kernel
theorem dX12_isGang_1 : decode cX12_isGang 1 = .ok (.istore_n 2, 1) := by decide +kernel
theorem dX12_isGang_2 : decode cX12_isGang 2 = .ok (.iload_n 2, 1) := by decide +kernel
theorem dX12_isGang_3 : decode cX12_isGang 3 = .ok (.aload_n 0, 1) := by decide +kernel
theorem dX12_isGang_4 : decode cX12_isGang 4 = .ok (.invokevirtual 467, 3) := by decide +kernel
theorem dX12_isGang_7 : decode cX12_isGang 7 = .ok (.if_icmp .ge 90, 3) := by decide +kernel
theorem dX12_isGang_97 : decode cX12_isGang 97 = .ok (.iconst 1, 1) := by decide +kernel
theorem dX12_isGang_98 : decode cX12_isGang 98 = .ok (.ireturn, 1) := by decide +kernel
theorem dX12_isPart_0 : decode cX12_isPart 0 = .ok (.aload_n 0, 1) := by decide +kernel
theorem dX12_isPart_1 : decode cX12_isPart 1 = .ok (.iload_n 1, 1) := by decide +kernel
theorem dX12_isPart_2 : decode cX12_isPart 2 = .ok (.invokevirtual 332, 3) := by decide +kernel
theorem dX12_isPart_5 : decode cX12_isPart 5 = .ok (.ifCond .eq 21, 3) := by decide +kernel
theorem dX12_isPart_26 : decode cX12_isPart 26 = .ok (.iconst 0, 1) := by decide +kernel
theorem dX12_isPart_27 : decode cX12_isPart 27 = .ok (.ireturn, 1) := by decide +kernel
theorem dX12_isTavern_0 : decode cX12_isTavern 0 = .ok (.iload_n 1, 1) := by decide +kernel
theorem dX12_isTavern_1 : decode cX12_isTavern 1 = .ok (.ifCond .lt 17, 3) := by decide +kernel
theorem dX12_isTavern_4 : decode cX12_isTavern 4 = .ok (.iload_n 1, 1) := by decide +kernel
theorem dX12_isTavern_5 : decode cX12_isTavern 5 = .ok (.aload_n 0, 1) := by decide +kernel
theorem dX12_isTavern_6 : decode cX12_isTavern 6 = .ok (.getfield 13, 3) := by decide +kernel
theorem dX12_isTavern_9 : decode cX12_isTavern 9 = .ok (.iconst 0, 1) := by decide +kernel
theorem dX12_isTavern_10 : decode cX12_isTavern 10 = .ok (.iaload, 1) := by decide +kernel
theorem dX12_isTavern_11 : decode cX12_isTavern 11 = .ok (.if_icmp .ge 7, 3) := by decide +kernel
theorem dX12_isTavern_18 : decode cX12_isTavern 18 = .ok (.iconst 0, 1) := by decide +kernel
theorem dX12_isTavern_19 : decode cX12_isTavern 19 = .ok (.ireturn, 1) := by decide +kernel
theorem dX12_isVerse_0 : decode cX12_isVerse 0 = .ok (.iload_n 1, 1) := by decide +kernel
theorem dX12_isVerse_1 : decode cX12_isVerse 1 = .ok (.ifCond .lt 17, 3) := by decide +kernel
theorem dX12_isVerse_4 : decode cX12_isVerse 4 = .ok (.iload_n 1, 1) := by decide +kernel
theorem dX12_isVerse_5 : decode cX12_isVerse 5 = .ok (.aload_n 0, 1) := by decide +kernel
theorem dX12_isVerse_6 : decode cX12_isVerse 6 = .ok (.getfield 13, 3) := by decide +kernel
theorem dX12_isVerse_9 : decode cX12_isVerse 9 = .ok (.iconst 2, 1) := by decide +kernel
theorem dX12_isVerse_10 : decode cX12_isVerse 10 = .ok (.iaload, 1) := by decide +kernel
theorem dX12_isVerse_11 : decode cX12_isVerse 11 = .ok (.if_icmp .ge 7, 3) := by decide +kernel
theorem dX12_isVerse_18 : decode cX12_isVerse 18 = .ok (.iconst 0, 1) := by decide +kernel
theorem dX12_isVerse_19 : decode cX12_isVerse 19 = .ok (.ireturn, 1) := by decide +kernel
theorem dX12_isVoice_0 : decode cX12_isVoice 0 = .ok (.iload_n 1, 1) := by decide +kernel
theorem dX12_isVoice_1 : decode cX12_isVoice 1 = .ok (.ifCond .lt 17, 3) := by decide +kernel
theorem dX12_isVoice_4 : decode cX12_isVoice 4 = .ok (.iload_n 1, 1) := by decide +kernel
theorem dX12_isVoice_5 : decode cX12_isVoice 5 = .ok (.aload_n 0, 1) := by decide +kernel
theorem dX12_isVoice_6 : decode cX12_isVoice 6 = .ok (.getfield 13, 3) := by decide +kernel
theorem dX12_isVoice_9 : decode cX12_isVoice 9 = .ok (.iconst 1, 1) := by decide +kernel
theorem dX12_isVoice_10 : decode cX12_isVoice 10 = .ok (.iaload, 1) := by decide +kernel
theorem dX12_isVoice_11 : decode cX12_isVoice 11 = .ok (.if_icmp .ge 7, 3) := by decide +kernel
theorem dX12_isVoice_18 : decode cX12_isVoice 18 = .ok (.iconst 0, 1) := by decide +kernel
theorem dX12_isVoice_19 : decode cX12_isVoice 19 = .ok (.ireturn, 1) := by decide +kernel
theorem dX12_keep_0 : decode cX12_keep 0 = .ok (.aload_n 0, 1) := by decide +kernel
theorem dX12_keep_1 : decode cX12_keep 1 = .ok (.iconst 0, 1) := by decide +kernel
theorem dX12_keep_2 : decode cX12_keep 2 = .ok (.putfield 163, 3) := by decide +kernel
theorem dX12_keep_5 : decode cX12_keep 5 = .ok (.aload_n 0, 1) := by decide +kernel
theorem dX12_keep_6 : decode cX12_keep 6 = .ok (.iconst 1, 1) := by decide +kernel
theorem dX12_keep_7 : decode cX12_keep 7 = .ok (.iconst 0, 1) := by decide +kernel
theorem dX12_keep_8 : decode cX12_keep 8 = .ok (.invokevirtual 508, 3) := by decide +kernel
theorem dX12_keep_11 : decode cX12_keep 11 = .ok (.aload_n 0, 1) := by decide +kernel
theorem dX12_keep_12 : decode cX12_keep 12 = .ok (.iconst 1, 1) := by decide +kernel
theorem dX12_keep_13 : decode cX12_keep 13 = .ok (.putfield 328, 3) := by decide +kernel
theorem dX12_keep_16 : decode cX12_keep 16 = .ok (.aload_n 0, 1) := by decide +kernel
theorem dX12_keep_17 : decode cX12_keep 17 = .ok (.getfield 81, 3) := by decide +kernel
theorem dX12_keep_20 : decode cX12_keep 20 = .ok (.iconst 0, 1) := by decide +kernel
theorem dX12_keep_21 : decode cX12_keep 21 = .ok (.iaload, 1) := by decide +kernel
theorem dX12_keep_22 : decode cX12_keep 22 = .ok (.ireturn, 1) := by decide +kernel
theorem dX12_known_0 : decode cX12_known 0 = .ok (.aload_n 0, 1) := by decide +kernel
theorem dX12_known_1 : decode cX12_known 1 = .ok (.iconst 0, 1) := by decide +kernel
theorem dX12_known_2 : decode cX12_known 2 = .ok (.putfield 163, 3) := by decide +kernel
theorem dX12_known_5 : decode cX12_known 5 = .ok (.iload_n 1, 1) := by decide +kernel
theorem dX12_known_6 : decode cX12_known 6 = .ok (.iconst (-1), 1) := by decide +kernel
theorem dX12_known_7 : decode cX12_known 7 = .ok (.if_icmp .lt 11, 3) := by decide +kernel
theorem dX12_known_10 : decode cX12_known 10 = .ok (.iload_n 1, 1) := by decide +kernel
theorem dX12_known_11 : decode cX12_known 11 = .ok (.aload_n 0, 1) := by decide +kernel
theorem dX12_known_12 : decode cX12_known 12 = .ok (.getfield 325, 3) := by decide +kernel
theorem dX12_known_15 : decode cX12_known 15 = .ok (.if_icmp .le 5, 3) := by decide +kernel
theorem dX12_known_18 : decode cX12_known 18 = .ok (.iconst 0, 1) := by decide +kernel
theorem dX12_known_19 : decode cX12_known 19 = .ok (.ireturn, 1) := by decide +kernel
theorem dX12_known_20 : decode cX12_known 20 = .ok (.aload_n 0, 1) := by decide +kernel
theorem dX12_known_21 : decode cX12_known 21 = .ok (.iload_n 1, 1) := by decide +kernel
theorem dX12_known_22 : decode cX12_known 22 = .ok (.putfield 142, 3) := by decide +kernel
theorem dX12_known_25 : decode cX12_known 25 = .ok (.iconst 1, 1) := by decide +kernel
theorem dX12_known_26 : decode cX12_known 26 = .ok (.ireturn, 1) := by decide +kernel
theorem dX12_knownMany_0 : decode cX12_knownMany 0 = .ok (.aload_n 0, 1) := by decide +kernel
theorem dX12_knownMany_1 : decode cX12_knownMany 1 = .ok (.getfield 142, 3) := by decide +kernel
theorem dX12_knownMany_4 : decode cX12_knownMany 4 = .ok (.iconst (-1), 1) := by decide +kernel
theorem dX12_knownMany_5 : decode cX12_knownMany 5 = .ok (.if_icmp .ne 10, 3) := by decide +kernel
theorem dX12_knownMany_8 : decode cX12_knownMany 8 = .ok (.aload_n 0, 1) := by decide +kernel
theorem dX12_knownMany_9 : decode cX12_knownMany 9 = .ok (.getfield 325, 3) := by decide +kernel
theorem dX12_knownMany_12 : decode cX12_knownMany 12 = .ok (.goto 7, 3) := by decide +kernel
theorem dX12_knownMany_19 : decode cX12_knownMany 19 = .ok (.ireturn, 1) := by decide +kernel
theorem dX12_layBest_0 : decode cX12_layBest 0 = .ok (.aload_n 0, 1) := by decide +kernel
theorem dX12_layBest_1 : decode cX12_layBest 1 = .ok (.invokevirtual 424, 3) := by decide +kernel
theorem dX12_layBest_4 : decode cX12_layBest 4 = .ok (.iconst 0, 1) := by decide +kernel
theorem dX12_layBest_5 : decode cX12_layBest 5 = .ok (.istore_n 2, 1) := by decide +kernel
theorem dX12_layBest_6 : decode cX12_layBest 6 = .ok (.iload_n 2, 1) := by decide +kernel
theorem dX12_layBest_7 : decode cX12_layBest 7 = .ok (.iload_n 1, 1) := by decide +kernel
theorem dX12_layBest_8 : decode cX12_layBest 8 = .ok (.if_icmp .gt 45, 3) := by decide +kernel
theorem dX12_layBest_11 : decode cX12_layBest 11 = .ok (.aload_n 0, 1) := by decide +kernel
theorem dX12_layBest_12 : decode cX12_layBest 12 = .ok (.getfield 124, 3) := by decide +kernel
theorem dX12_layBest_15 : decode cX12_layBest 15 = .ok (.sipush 1000, 3) := by decide +kernel
theorem dX12_layBest_18 : decode cX12_layBest 18 = .ok (.aload_n 0, 1) := by decide +kernel
theorem dX12_layBest_19 : decode cX12_layBest 19 = .ok (.getfield 13, 3) := by decide +kernel
theorem dX12_layBest_22 : decode cX12_layBest 22 = .ok (.iconst 2, 1) := by decide +kernel
theorem dX12_layBest_23 : decode cX12_layBest 23 = .ok (.iaload, 1) := by decide +kernel
theorem dX12_layBest_24 : decode cX12_layBest 24 = .ok (.imul, 1) := by decide +kernel
theorem dX12_layBest_25 : decode cX12_layBest 25 = .ok (.iload_n 2, 1) := by decide +kernel
theorem dX12_layBest_26 : decode cX12_layBest 26 = .ok (.iadd, 1) := by decide +kernel
theorem dX12_layBest_27 : decode cX12_layBest 27 = .ok (.iconst 0, 1) := by decide +kernel
theorem dX12_layBest_28 : decode cX12_layBest 28 = .ok (.iastore, 1) := by decide +kernel
theorem dX12_layBest_29 : decode cX12_layBest 29 = .ok (.aload_n 0, 1) := by decide +kernel
theorem dX12_layBest_30 : decode cX12_layBest 30 = .ok (.getfield 127, 3) := by decide +kernel
theorem dX12_layBest_33 : decode cX12_layBest 33 = .ok (.sipush 1000, 3) := by decide +kernel
theorem dX12_layBest_36 : decode cX12_layBest 36 = .ok (.aload_n 0, 1) := by decide +kernel
theorem dX12_layBest_37 : decode cX12_layBest 37 = .ok (.getfield 13, 3) := by decide +kernel
theorem dX12_layBest_40 : decode cX12_layBest 40 = .ok (.iconst 2, 1) := by decide +kernel
theorem dX12_layBest_41 : decode cX12_layBest 41 = .ok (.iaload, 1) := by decide +kernel
theorem dX12_layBest_42 : decode cX12_layBest 42 = .ok (.imul, 1) := by decide +kernel
theorem dX12_layBest_43 : decode cX12_layBest 43 = .ok (.iload_n 2, 1) := by decide +kernel
theorem dX12_layBest_44 : decode cX12_layBest 44 = .ok (.iadd, 1) := by decide +kernel
theorem dX12_layBest_45 : decode cX12_layBest 45 = .ok (.iconst 0, 1) := by decide +kernel
theorem dX12_layBest_46 : decode cX12_layBest 46 = .ok (.iastore, 1) := by decide +kernel
theorem dX12_layBest_47 : decode cX12_layBest 47 = .ok (.iinc 2 1, 3) := by decide +kernel
theorem dX12_layBest_50 : decode cX12_layBest 50 = .ok (.goto (-44), 3) := by decide +kernel
theorem dX12_layBest_53 : decode cX12_layBest 53 = .ok (.aload_n 0, 1) := by decide +kernel
theorem dX12_layBest_54 : decode cX12_layBest 54 = .ok (.getfield 13, 3) := by decide +kernel
theorem dX12_layBest_57 : decode cX12_layBest 57 = .ok (.iconst 2, 1) := by decide +kernel
theorem dX12_layBest_58 : decode cX12_layBest 58 = .ok (.iaload, 1) := by decide +kernel
theorem dX12_layBest_59 : decode cX12_layBest 59 = .ok (.iconst 1, 1) := by decide +kernel
theorem dX12_layBest_60 : decode cX12_layBest 60 = .ok (.isub, 1) := by decide +kernel
theorem dX12_layBest_61 : decode cX12_layBest 61 = .ok (.istore_n 2, 1) := by decide +kernel
theorem dX12_layBest_62 : decode cX12_layBest 62 = .ok (.iload_n 2, 1) := by decide +kernel
theorem dX12_layBest_63 : decode cX12_layBest 63 = .ok (.ifCond .lt 71, 3) := by decide +kernel
theorem dX12_layBest_134 : decode cX12_layBest 134 = .ok (.return_, 1) := by decide +kernel
theorem dX12_layDues_0 : decode cX12_layDues 0 = .ok (.iconst 0, 1) := by decide +kernel
theorem dX12_layDues_1 : decode cX12_layDues 1 = .ok (.istore_n 1, 1) := by decide +kernel
theorem dX12_layDues_2 : decode cX12_layDues 2 = .ok (.iload_n 1, 1) := by decide +kernel
theorem dX12_layDues_3 : decode cX12_layDues 3 = .ok (.bipush 12, 2) := by decide +kernel
theorem dX12_layDues_5 : decode cX12_layDues 5 = .ok (.if_icmp .ge 77, 3) := by decide +kernel
theorem dX12_layDues_8 : decode cX12_layDues 8 = .ok (.aload_n 0, 1) := by decide +kernel
theorem dX12_layDues_9 : decode cX12_layDues 9 = .ok (.iload_n 1, 1) := by decide +kernel
theorem dX12_layDues_10 : decode cX12_layDues 10 = .ok (.iconst 3, 1) := by decide +kernel
theorem dX12_layDues_11 : decode cX12_layDues 11 = .ok (.idiv, 1) := by decide +kernel
theorem dX12_layDues_12 : decode cX12_layDues 12 = .ok (.iload_n 1, 1) := by decide +kernel
theorem dX12_layDues_13 : decode cX12_layDues 13 = .ok (.iconst 3, 1) := by decide +kernel
theorem dX12_layDues_14 : decode cX12_layDues 14 = .ok (.irem, 1) := by decide +kernel
theorem dX12_layDues_15 : decode cX12_layDues 15 = .ok (.invokevirtual 344, 3) := by decide +kernel
theorem dX12_layDues_18 : decode cX12_layDues 18 = .ok (.ifCond .ne 6, 3) := by decide +kernel
theorem dX12_layDues_21 : decode cX12_layDues 21 = .ok (.goto 55, 3) := by decide +kernel
theorem dX12_layDues_76 : decode cX12_layDues 76 = .ok (.iinc 1 1, 3) := by decide +kernel
theorem dX12_layDues_79 : decode cX12_layDues 79 = .ok (.goto (-77), 3) := by decide +kernel
theorem dX12_layDues_82 : decode cX12_layDues 82 = .ok (.return_, 1) := by decide +kernel
theorem dX12_look_0 : decode cX12_look 0 = .ok (.aload_n 0, 1) := by decide +kernel
theorem dX12_look_1 : decode cX12_look 1 = .ok (.aload_n 0, 1) := by decide +kernel
theorem dX12_look_2 : decode cX12_look 2 = .ok (.iload_n 1, 1) := by decide +kernel
theorem dX12_look_3 : decode cX12_look 3 = .ok (.invokevirtual 335, 3) := by decide +kernel
theorem dX12_look_6 : decode cX12_look 6 = .ok (.ifCond .ne 7, 3) := by decide +kernel
theorem dX12_look_9 : decode cX12_look 9 = .ok (.iconst 1, 1) := by decide +kernel
theorem dX12_look_10 : decode cX12_look 10 = .ok (.goto 17, 3) := by decide +kernel
theorem dX12_look_27 : decode cX12_look 27 = .ok (.putfield 163, 3) := by decide +kernel
theorem dX12_look_30 : decode cX12_look 30 = .ok (.aload_n 0, 1) := by decide +kernel
theorem dX12_look_31 : decode cX12_look 31 = .ok (.getfield 163, 3) := by decide +kernel
theorem dX12_look_34 : decode cX12_look 34 = .ok (.ifCond .eq 5, 3) := by decide +kernel
theorem dX12_look_37 : decode cX12_look 37 = .ok (.iconst 0, 1) := by decide +kernel
theorem dX12_look_38 : decode cX12_look 38 = .ok (.ireturn, 1) := by decide +kernel
theorem dX12_named_0 : decode cX12_named 0 = .ok (.aload_n 0, 1) := by decide +kernel
theorem dX12_named_1 : decode cX12_named 1 = .ok (.iconst 0, 1) := by decide +kernel
theorem dX12_named_2 : decode cX12_named 2 = .ok (.putfield 163, 3) := by decide +kernel
theorem dX12_named_5 : decode cX12_named 5 = .ok (.iload_n 1, 1) := by decide +kernel
theorem dX12_named_6 : decode cX12_named 6 = .ok (.tableswitch 94 0 3 #[30, 46, 62, 78], 30) := by decide +kernel
theorem dX12_named_36 : decode cX12_named 36 = .ok (.aload_n 0, 1) := by decide +kernel
theorem dX12_named_37 : decode cX12_named 37 = .ok (.getfield 16, 3) := by decide +kernel
theorem dX12_named_40 : decode cX12_named 40 = .ok (.iconst 0, 1) := by decide +kernel
theorem dX12_named_41 : decode cX12_named 41 = .ok (.aload_n 0, 1) := by decide +kernel
theorem dX12_named_42 : decode cX12_named 42 = .ok (.getfield 13, 3) := by decide +kernel
theorem dX12_named_45 : decode cX12_named 45 = .ok (.iconst 0, 1) := by decide +kernel
theorem dX12_named_46 : decode cX12_named 46 = .ok (.iaload, 1) := by decide +kernel
theorem dX12_named_47 : decode cX12_named 47 = .ok (.iload_n 2, 1) := by decide +kernel
theorem dX12_named_48 : decode cX12_named 48 = .ok (.invokestatic 229, 3) := by decide +kernel
theorem dX12_named_51 : decode cX12_named 51 = .ok (.ireturn, 1) := by decide +kernel
theorem dX12_named_52 : decode cX12_named 52 = .ok (.aload_n 0, 1) := by decide +kernel
theorem dX12_named_53 : decode cX12_named 53 = .ok (.getfield 25, 3) := by decide +kernel
theorem dX12_named_56 : decode cX12_named 56 = .ok (.iconst 0, 1) := by decide +kernel
theorem dX12_named_57 : decode cX12_named 57 = .ok (.aload_n 0, 1) := by decide +kernel
theorem dX12_named_58 : decode cX12_named 58 = .ok (.getfield 13, 3) := by decide +kernel
theorem dX12_named_61 : decode cX12_named 61 = .ok (.iconst 1, 1) := by decide +kernel
theorem dX12_named_62 : decode cX12_named 62 = .ok (.iaload, 1) := by decide +kernel
theorem dX12_named_63 : decode cX12_named 63 = .ok (.iload_n 2, 1) := by decide +kernel
theorem dX12_named_64 : decode cX12_named 64 = .ok (.invokestatic 229, 3) := by decide +kernel
theorem dX12_named_67 : decode cX12_named 67 = .ok (.ireturn, 1) := by decide +kernel
theorem dX12_named_68 : decode cX12_named 68 = .ok (.aload_n 0, 1) := by decide +kernel
theorem dX12_named_69 : decode cX12_named 69 = .ok (.getfield 47, 3) := by decide +kernel
theorem dX12_named_72 : decode cX12_named 72 = .ok (.iconst 0, 1) := by decide +kernel
theorem dX12_named_73 : decode cX12_named 73 = .ok (.aload_n 0, 1) := by decide +kernel
theorem dX12_named_74 : decode cX12_named 74 = .ok (.getfield 13, 3) := by decide +kernel
theorem dX12_named_77 : decode cX12_named 77 = .ok (.iconst 2, 1) := by decide +kernel
theorem dX12_named_78 : decode cX12_named 78 = .ok (.iaload, 1) := by decide +kernel
theorem dX12_named_79 : decode cX12_named 79 = .ok (.iload_n 2, 1) := by decide +kernel
theorem dX12_named_80 : decode cX12_named 80 = .ok (.invokestatic 229, 3) := by decide +kernel
theorem dX12_named_83 : decode cX12_named 83 = .ok (.ireturn, 1) := by decide +kernel
theorem dX12_named_84 : decode cX12_named 84 = .ok (.aload_n 0, 1) := by decide +kernel
theorem dX12_named_85 : decode cX12_named 85 = .ok (.getfield 59, 3) := by decide +kernel
theorem dX12_named_88 : decode cX12_named 88 = .ok (.iconst 0, 1) := by decide +kernel
theorem dX12_named_89 : decode cX12_named 89 = .ok (.aload_n 0, 1) := by decide +kernel
theorem dX12_named_90 : decode cX12_named 90 = .ok (.getfield 13, 3) := by decide +kernel
theorem dX12_named_93 : decode cX12_named 93 = .ok (.iconst 3, 1) := by decide +kernel
theorem dX12_named_94 : decode cX12_named 94 = .ok (.iaload, 1) := by decide +kernel
theorem dX12_named_95 : decode cX12_named 95 = .ok (.iload_n 2, 1) := by decide +kernel
theorem dX12_named_96 : decode cX12_named 96 = .ok (.invokestatic 229, 3) := by decide +kernel
theorem dX12_named_99 : decode cX12_named 99 = .ok (.ireturn, 1) := by decide +kernel
theorem dX12_named_100 : decode cX12_named 100 = .ok (.iconst (-1), 1) := by decide +kernel
theorem dX12_named_101 : decode cX12_named 101 = .ok (.ireturn, 1) := by decide +kernel
theorem dX12_odds_0 : decode cX12_odds 0 = .ok (.aload_n 0, 1) := by decide +kernel
theorem dX12_odds_1 : decode cX12_odds 1 = .ok (.iconst 0, 1) := by decide +kernel
theorem dX12_odds_2 : decode cX12_odds 2 = .ok (.putfield 163, 3) := by decide +kernel
theorem dX12_odds_5 : decode cX12_odds 5 = .ok (.aload_n 0, 1) := by decide +kernel
theorem dX12_odds_6 : decode cX12_odds 6 = .ok (.iload_n 1, 1) := by decide +kernel
theorem dX12_odds_7 : decode cX12_odds 7 = .ok (.invokevirtual 335, 3) := by decide +kernel
theorem dX12_odds_10 : decode cX12_odds 10 = .ok (.ifCond .eq 12, 3) := by decide +kernel
theorem dX12_odds_22 : decode cX12_odds 22 = .ok (.iconst (-1), 1) := by decide +kernel
theorem dX12_odds_23 : decode cX12_odds 23 = .ok (.ireturn, 1) := by decide +kernel
theorem dX12_pay_0 : decode cX12_pay 0 = .ok (.aload_n 0, 1) := by decide +kernel
theorem dX12_pay_1 : decode cX12_pay 1 = .ok (.iconst 0, 1) := by decide +kernel
theorem dX12_pay_2 : decode cX12_pay 2 = .ok (.putfield 163, 3) := by decide +kernel
theorem dX12_pay_5 : decode cX12_pay 5 = .ok (.aload_n 0, 1) := by decide +kernel
theorem dX12_pay_6 : decode cX12_pay 6 = .ok (.iload_n 1, 1) := by decide +kernel
theorem dX12_pay_7 : decode cX12_pay 7 = .ok (.invokevirtual 341, 3) := by decide +kernel
theorem dX12_pay_10 : decode cX12_pay 10 = .ok (.ifCond .ne 5, 3) := by decide +kernel
theorem dX12_pay_13 : decode cX12_pay 13 = .ok (.iconst (-1), 1) := by decide +kernel
theorem dX12_pay_14 : decode cX12_pay 14 = .ok (.ireturn, 1) := by decide +kernel
theorem dX12_pitch_0 : decode cX12_pitch 0 = .ok (.aload_n 0, 1) := by decide +kernel
theorem dX12_pitch_1 : decode cX12_pitch 1 = .ok (.iconst 0, 1) := by decide +kernel
theorem dX12_pitch_2 : decode cX12_pitch 2 = .ok (.putfield 163, 3) := by decide +kernel
theorem dX12_pitch_5 : decode cX12_pitch 5 = .ok (.aload_n 0, 1) := by decide +kernel
theorem dX12_pitch_6 : decode cX12_pitch 6 = .ok (.iload_n 1, 1) := by decide +kernel
theorem dX12_pitch_7 : decode cX12_pitch 7 = .ok (.iload_n 2, 1) := by decide +kernel
theorem dX12_pitch_8 : decode cX12_pitch 8 = .ok (.invokevirtual 344, 3) := by decide +kernel
theorem dX12_pitch_11 : decode cX12_pitch 11 = .ok (.ifCond .eq 39, 3) := by decide +kernel
theorem dX12_pitch_50 : decode cX12_pitch 50 = .ok (.iconst (-1), 1) := by decide +kernel
theorem dX12_pitch_51 : decode cX12_pitch 51 = .ok (.ireturn, 1) := by decide +kernel
theorem dX12_reads_0 : decode cX12_reads 0 = .ok (.aload_n 0, 1) := by decide +kernel
theorem dX12_reads_1 : decode cX12_reads 1 = .ok (.getfield 13, 3) := by decide +kernel
theorem dX12_reads_4 : decode cX12_reads 4 = .ok (.bipush 7, 2) := by decide +kernel
theorem dX12_reads_6 : decode cX12_reads 6 = .ok (.iload_n 1, 1) := by decide +kernel
theorem dX12_reads_7 : decode cX12_reads 7 = .ok (.iadd, 1) := by decide +kernel
theorem dX12_reads_8 : decode cX12_reads 8 = .ok (.iload_n 2, 1) := by decide +kernel
theorem dX12_reads_9 : decode cX12_reads 9 = .ok (.iastore, 1) := by decide +kernel
theorem dX12_reads_10 : decode cX12_reads 10 = .ok (.return_, 1) := by decide +kernel
theorem dX12_redeem_0 : decode cX12_redeem 0 = .ok (.aload_n 0, 1) := by decide +kernel
theorem dX12_redeem_1 : decode cX12_redeem 1 = .ok (.iconst 0, 1) := by decide +kernel
theorem dX12_redeem_2 : decode cX12_redeem 2 = .ok (.putfield 163, 3) := by decide +kernel
theorem dX12_redeem_5 : decode cX12_redeem 5 = .ok (.aload_n 0, 1) := by decide +kernel
theorem dX12_redeem_6 : decode cX12_redeem 6 = .ok (.iload_n 1, 1) := by decide +kernel
theorem dX12_redeem_7 : decode cX12_redeem 7 = .ok (.iload_n 2, 1) := by decide +kernel
theorem dX12_redeem_8 : decode cX12_redeem 8 = .ok (.invokevirtual 344, 3) := by decide +kernel
theorem dX12_redeem_11 : decode cX12_redeem 11 = .ok (.ifCond .eq 42, 3) := by decide +kernel
theorem dX12_redeem_53 : decode cX12_redeem 53 = .ok (.iconst (-1), 1) := by decide +kernel
theorem dX12_redeem_54 : decode cX12_redeem 54 = .ok (.ireturn, 1) := by decide +kernel
theorem dX12_round_0 : decode cX12_round 0 = .ok (.aload_n 0, 1) := by decide +kernel
theorem dX12_round_1 : decode cX12_round 1 = .ok (.iconst 0, 1) := by decide +kernel
theorem dX12_round_2 : decode cX12_round 2 = .ok (.putfield 163, 3) := by decide +kernel
theorem dX12_round_5 : decode cX12_round 5 = .ok (.aload_n 0, 1) := by decide +kernel
theorem dX12_round_6 : decode cX12_round 6 = .ok (.iload_n 1, 1) := by decide +kernel
theorem dX12_round_7 : decode cX12_round 7 = .ok (.iload_n 2, 1) := by decide +kernel
theorem dX12_round_8 : decode cX12_round 8 = .ok (.invokevirtual 344, 3) := by decide +kernel
theorem dX12_round_11 : decode cX12_round 11 = .ok (.ifCond .eq 12, 3) := by decide +kernel
theorem dX12_round_23 : decode cX12_round 23 = .ok (.iconst (-1), 1) := by decide +kernel
theorem dX12_round_24 : decode cX12_round 24 = .ok (.ireturn, 1) := by decide +kernel
theorem dX12_run_0 : decode cX12_run 0 = .ok (.aload_n 0, 1) := by decide +kernel
theorem dX12_run_1 : decode cX12_run 1 = .ok (.iconst 0, 1) := by decide +kernel
theorem dX12_run_2 : decode cX12_run 2 = .ok (.putfield 163, 3) := by decide +kernel
theorem dX12_run_5 : decode cX12_run 5 = .ok (.aload_n 0, 1) := by decide +kernel
theorem dX12_run_6 : decode cX12_run 6 = .ok (.iload_n 1, 1) := by decide +kernel
theorem dX12_run_7 : decode cX12_run 7 = .ok (.invokevirtual 341, 3) := by decide +kernel
theorem dX12_run_10 : decode cX12_run 10 = .ok (.ifCond .eq 26, 3) := by decide +kernel
theorem dX12_run_36 : decode cX12_run 36 = .ok (.iconst (-1), 1) := by decide +kernel
theorem dX12_run_37 : decode cX12_run 37 = .ok (.ireturn, 1) := by decide +kernel
theorem dX12_sells_0 : decode cX12_sells 0 = .ok (.iconst 0, 1) := by decide +kernel
theorem dX12_sells_1 : decode cX12_sells 1 = .ok (.istore_n 3, 1) := by decide +kernel
theorem dX12_sells_2 : decode cX12_sells 2 = .ok (.iconst 0, 1) := by decide +kernel
theorem dX12_sells_3 : decode cX12_sells 3 = .ok (.istore 4, 2) := by decide +kernel
theorem dX12_sells_5 : decode cX12_sells 5 = .ok (.iload 4, 2) := by decide +kernel
theorem dX12_sells_7 : decode cX12_sells 7 = .ok (.aload_n 0, 1) := by decide +kernel
theorem dX12_sells_8 : decode cX12_sells 8 = .ok (.getfield 13, 3) := by decide +kernel
theorem dX12_sells_11 : decode cX12_sells 11 = .ok (.iconst 3, 1) := by decide +kernel
theorem dX12_sells_12 : decode cX12_sells 12 = .ok (.iaload, 1) := by decide +kernel
theorem dX12_sells_13 : decode cX12_sells 13 = .ok (.if_icmp .ge 23, 3) := by decide +kernel
theorem dX12_sells_36 : decode cX12_sells 36 = .ok (.iconst 0, 1) := by decide +kernel
theorem dX12_sells_37 : decode cX12_sells 37 = .ok (.istore 4, 2) := by decide +kernel
theorem dX12_sells_39 : decode cX12_sells 39 = .ok (.iload 4, 2) := by decide +kernel
theorem dX12_sells_41 : decode cX12_sells 41 = .ok (.iload_n 2, 1) := by decide +kernel
theorem dX12_sells_42 : decode cX12_sells 42 = .ok (.if_icmp .gt 146, 3) := by decide +kernel
theorem dX12_sells_188 : decode cX12_sells 188 = .ok (.iload_n 3, 1) := by decide +kernel
theorem dX12_sells_189 : decode cX12_sells 189 = .ok (.ireturn, 1) := by decide +kernel
theorem dX12_sings_0 : decode cX12_sings 0 = .ok (.aload_n 0, 1) := by decide +kernel
theorem dX12_sings_1 : decode cX12_sings 1 = .ok (.iconst 0, 1) := by decide +kernel
theorem dX12_sings_2 : decode cX12_sings 2 = .ok (.putfield 163, 3) := by decide +kernel
theorem dX12_sings_5 : decode cX12_sings 5 = .ok (.aload_n 0, 1) := by decide +kernel
theorem dX12_sings_6 : decode cX12_sings 6 = .ok (.iload_n 1, 1) := by decide +kernel
theorem dX12_sings_7 : decode cX12_sings 7 = .ok (.iload_n 2, 1) := by decide +kernel
theorem dX12_sings_8 : decode cX12_sings 8 = .ok (.invokevirtual 344, 3) := by decide +kernel
theorem dX12_sings_11 : decode cX12_sings 11 = .ok (.ifCond .ne 5, 3) := by decide +kernel
theorem dX12_sings_14 : decode cX12_sings 14 = .ok (.iconst (-1), 1) := by decide +kernel
theorem dX12_sings_15 : decode cX12_sings 15 = .ok (.ireturn, 1) := by decide +kernel
theorem dX12_sold_0 : decode cX12_sold 0 = .ok (.aload_n 0, 1) := by decide +kernel
theorem dX12_sold_1 : decode cX12_sold 1 = .ok (.iconst 0, 1) := by decide +kernel
theorem dX12_sold_2 : decode cX12_sold 2 = .ok (.putfield 163, 3) := by decide +kernel
theorem dX12_sold_5 : decode cX12_sold 5 = .ok (.aload_n 0, 1) := by decide +kernel
theorem dX12_sold_6 : decode cX12_sold 6 = .ok (.iload_n 1, 1) := by decide +kernel
theorem dX12_sold_7 : decode cX12_sold 7 = .ok (.invokevirtual 461, 3) := by decide +kernel
theorem dX12_sold_10 : decode cX12_sold 10 = .ok (.ifCond .eq 28, 3) := by decide +kernel
theorem dX12_sold_13 : decode cX12_sold 13 = .ok (.aload_n 0, 1) := by decide +kernel
theorem dX12_sold_14 : decode cX12_sold 14 = .ok (.iload_n 2, 1) := by decide +kernel
theorem dX12_sold_15 : decode cX12_sold 15 = .ok (.invokevirtual 332, 3) := by decide +kernel
theorem dX12_sold_18 : decode cX12_sold 18 = .ok (.ifCond .eq 20, 3) := by decide +kernel
theorem dX12_sold_38 : decode cX12_sold 38 = .ok (.iconst (-1), 1) := by decide +kernel
theorem dX12_sold_39 : decode cX12_sold 39 = .ok (.ireturn, 1) := by decide +kernel
theorem dX12_sounds_0 : decode cX12_sounds 0 = .ok (.aload_n 0, 1) := by decide +kernel
theorem dX12_sounds_1 : decode cX12_sounds 1 = .ok (.iconst 0, 1) := by decide +kernel
theorem dX12_sounds_2 : decode cX12_sounds 2 = .ok (.putfield 163, 3) := by decide +kernel
theorem dX12_sounds_5 : decode cX12_sounds 5 = .ok (.aload_n 0, 1) := by decide +kernel
theorem dX12_sounds_6 : decode cX12_sounds 6 = .ok (.iload_n 1, 1) := by decide +kernel
theorem dX12_sounds_7 : decode cX12_sounds 7 = .ok (.iload_n 2, 1) := by decide +kernel
theorem dX12_sounds_8 : decode cX12_sounds 8 = .ok (.invokevirtual 344, 3) := by decide +kernel
theorem dX12_sounds_11 : decode cX12_sounds 11 = .ok (.ifCond .eq 24, 3) := by decide +kernel
theorem dX12_sounds_35 : decode cX12_sounds 35 = .ok (.iconst (-1), 1) := by decide +kernel
theorem dX12_sounds_36 : decode cX12_sounds 36 = .ok (.ireturn, 1) := by decide +kernel
theorem dX12_strike_0 : decode cX12_strike 0 = .ok (.aload_n 0, 1) := by decide +kernel
theorem dX12_strike_1 : decode cX12_strike 1 = .ok (.iconst 0, 1) := by decide +kernel
theorem dX12_strike_2 : decode cX12_strike 2 = .ok (.putfield 163, 3) := by decide +kernel
theorem dX12_strike_5 : decode cX12_strike 5 = .ok (.iload_n 1, 1) := by decide +kernel
theorem dX12_strike_6 : decode cX12_strike 6 = .ok (.ifCond .lt 20, 3) := by decide +kernel
theorem dX12_strike_9 : decode cX12_strike 9 = .ok (.iload_n 1, 1) := by decide +kernel
theorem dX12_strike_10 : decode cX12_strike 10 = .ok (.aload_n 0, 1) := by decide +kernel
theorem dX12_strike_11 : decode cX12_strike 11 = .ok (.getfield 325, 3) := by decide +kernel
theorem dX12_strike_14 : decode cX12_strike 14 = .ok (.if_icmp .ge 12, 3) := by decide +kernel
theorem dX12_strike_26 : decode cX12_strike 26 = .ok (.iconst (-1), 1) := by decide +kernel
theorem dX12_strike_27 : decode cX12_strike 27 = .ok (.ireturn, 1) := by decide +kernel
theorem dX12_strikes_0 : decode cX12_strikes 0 = .ok (.iconst 0, 1) := by decide +kernel
theorem dX12_strikes_1 : decode cX12_strikes 1 = .ok (.istore_n 1, 1) := by decide +kernel
theorem dX12_strikes_2 : decode cX12_strikes 2 = .ok (.iload_n 1, 1) := by decide +kernel
theorem dX12_strikes_3 : decode cX12_strikes 3 = .ok (.aload_n 0, 1) := by decide +kernel
theorem dX12_strikes_4 : decode cX12_strikes 4 = .ok (.invokevirtual 467, 3) := by decide +kernel
theorem dX12_strikes_7 : decode cX12_strikes 7 = .ok (.if_icmp .ge 16, 3) := by decide +kernel
theorem dX12_strikes_23 : decode cX12_strikes 23 = .ok (.aload_n 0, 1) := by decide +kernel
theorem dX12_strikes_24 : decode cX12_strikes 24 = .ok (.invokevirtual 467, 3) := by decide +kernel
theorem dX12_strikes_27 : decode cX12_strikes 27 = .ok (.iconst 1, 1) := by decide +kernel
theorem dX12_strikes_28 : decode cX12_strikes 28 = .ok (.isub, 1) := by decide +kernel
theorem dX12_strikes_29 : decode cX12_strikes 29 = .ok (.istore_n 1, 1) := by decide +kernel
theorem dX12_strikes_30 : decode cX12_strikes 30 = .ok (.iload_n 1, 1) := by decide +kernel
theorem dX12_strikes_31 : decode cX12_strikes 31 = .ok (.ifCond .lt 40, 3) := by decide +kernel
theorem dX12_strikes_71 : decode cX12_strikes 71 = .ok (.return_, 1) := by decide +kernel
theorem dX12_sunday_0 : decode cX12_sunday 0 = .ok (.aload_n 0, 1) := by decide +kernel
theorem dX12_sunday_1 : decode cX12_sunday 1 = .ok (.iconst 0, 1) := by decide +kernel
theorem dX12_sunday_2 : decode cX12_sunday 2 = .ok (.putfield 163, 3) := by decide +kernel
theorem dX12_sunday_5 : decode cX12_sunday 5 = .ok (.iconst 0, 1) := by decide +kernel
theorem dX12_sunday_6 : decode cX12_sunday 6 = .ok (.istore_n 1, 1) := by decide +kernel
theorem dX12_sunday_7 : decode cX12_sunday 7 = .ok (.iconst 0, 1) := by decide +kernel
theorem dX12_sunday_8 : decode cX12_sunday 8 = .ok (.istore_n 2, 1) := by decide +kernel
theorem dX12_sunday_9 : decode cX12_sunday 9 = .ok (.iload_n 2, 1) := by decide +kernel
theorem dX12_sunday_10 : decode cX12_sunday 10 = .ok (.bipush 12, 2) := by decide +kernel
theorem dX12_sunday_12 : decode cX12_sunday 12 = .ok (.if_icmp .ge 64, 3) := by decide +kernel
theorem dX12_sunday_15 : decode cX12_sunday 15 = .ok (.aload_n 0, 1) := by decide +kernel
theorem dX12_sunday_16 : decode cX12_sunday 16 = .ok (.getfield 105, 3) := by decide +kernel
theorem dX12_sunday_19 : decode cX12_sunday 19 = .ok (.iload_n 2, 1) := by decide +kernel
theorem dX12_sunday_20 : decode cX12_sunday 20 = .ok (.iaload, 1) := by decide +kernel
theorem dX12_sunday_21 : decode cX12_sunday 21 = .ok (.istore_n 3, 1) := by decide +kernel
theorem dX12_sunday_22 : decode cX12_sunday 22 = .ok (.aload_n 0, 1) := by decide +kernel
theorem dX12_sunday_23 : decode cX12_sunday 23 = .ok (.getfield 105, 3) := by decide +kernel
theorem dX12_sunday_26 : decode cX12_sunday 26 = .ok (.iload_n 2, 1) := by decide +kernel
theorem dX12_sunday_27 : decode cX12_sunday 27 = .ok (.iconst (-1), 1) := by decide +kernel
theorem dX12_sunday_28 : decode cX12_sunday 28 = .ok (.iastore, 1) := by decide +kernel
theorem dX12_sunday_29 : decode cX12_sunday 29 = .ok (.iload_n 3, 1) := by decide +kernel
theorem dX12_sunday_30 : decode cX12_sunday 30 = .ok (.iconst (-1), 1) := by decide +kernel
theorem dX12_sunday_31 : decode cX12_sunday 31 = .ok (.if_icmp .ne 6, 3) := by decide +kernel
theorem dX12_sunday_34 : decode cX12_sunday 34 = .ok (.goto 36, 3) := by decide +kernel
theorem dX12_sunday_70 : decode cX12_sunday 70 = .ok (.iinc 2 1, 3) := by decide +kernel
theorem dX12_sunday_73 : decode cX12_sunday 73 = .ok (.goto (-64), 3) := by decide +kernel
theorem dX12_sunday_76 : decode cX12_sunday 76 = .ok (.aload_n 0, 1) := by decide +kernel
theorem dX12_sunday_77 : decode cX12_sunday 77 = .ok (.getfield 108, 3) := by decide +kernel
theorem dX12_sunday_80 : decode cX12_sunday 80 = .ok (.iconst 0, 1) := by decide +kernel
theorem dX12_sunday_81 : decode cX12_sunday 81 = .ok (.iconst 0, 1) := by decide +kernel
theorem dX12_sunday_82 : decode cX12_sunday 82 = .ok (.iastore, 1) := by decide +kernel
theorem dX12_sunday_83 : decode cX12_sunday 83 = .ok (.aload_n 0, 1) := by decide +kernel
theorem dX12_sunday_84 : decode cX12_sunday 84 = .ok (.getfield 93, 3) := by decide +kernel
theorem dX12_sunday_87 : decode cX12_sunday 87 = .ok (.iconst 0, 1) := by decide +kernel
theorem dX12_sunday_88 : decode cX12_sunday 88 = .ok (.iaload, 1) := by decide +kernel
theorem dX12_sunday_89 : decode cX12_sunday 89 = .ok (.istore_n 2, 1) := by decide +kernel
theorem dX12_sunday_90 : decode cX12_sunday 90 = .ok (.iconst 0, 1) := by decide +kernel
theorem dX12_sunday_91 : decode cX12_sunday 91 = .ok (.istore_n 3, 1) := by decide +kernel
theorem dX12_sunday_92 : decode cX12_sunday 92 = .ok (.iload_n 3, 1) := by decide +kernel
theorem dX12_sunday_93 : decode cX12_sunday 93 = .ok (.aload_n 0, 1) := by decide +kernel
theorem dX12_sunday_94 : decode cX12_sunday 94 = .ok (.getfield 13, 3) := by decide +kernel
theorem dX12_sunday_97 : decode cX12_sunday 97 = .ok (.iconst 1, 1) := by decide +kernel
theorem dX12_sunday_98 : decode cX12_sunday 98 = .ok (.iaload, 1) := by decide +kernel
theorem dX12_sunday_99 : decode cX12_sunday 99 = .ok (.if_icmp .ge 45, 3) := by decide +kernel
theorem dX12_sunday_144 : decode cX12_sunday 144 = .ok (.aload_n 0, 1) := by decide +kernel
theorem dX12_sunday_145 : decode cX12_sunday 145 = .ok (.getfield 93, 3) := by decide +kernel
theorem dX12_sunday_148 : decode cX12_sunday 148 = .ok (.iconst 0, 1) := by decide +kernel
theorem dX12_sunday_149 : decode cX12_sunday 149 = .ok (.iload_n 2, 1) := by decide +kernel
theorem dX12_sunday_150 : decode cX12_sunday 150 = .ok (.iastore, 1) := by decide +kernel
theorem dX12_sunday_151 : decode cX12_sunday 151 = .ok (.aload_n 0, 1) := by decide +kernel
theorem dX12_sunday_152 : decode cX12_sunday 152 = .ok (.getfield 81, 3) := by decide +kernel
theorem dX12_sunday_155 : decode cX12_sunday 155 = .ok (.iconst 0, 1) := by decide +kernel
theorem dX12_sunday_156 : decode cX12_sunday 156 = .ok (.dup2, 1) := by decide +kernel
theorem dX12_sunday_157 : decode cX12_sunday 157 = .ok (.iaload, 1) := by decide +kernel
theorem dX12_sunday_158 : decode cX12_sunday 158 = .ok (.iconst 1, 1) := by decide +kernel
theorem dX12_sunday_159 : decode cX12_sunday 159 = .ok (.iadd, 1) := by decide +kernel
theorem dX12_sunday_160 : decode cX12_sunday 160 = .ok (.iastore, 1) := by decide +kernel
theorem dX12_sunday_161 : decode cX12_sunday 161 = .ok (.iload_n 1, 1) := by decide +kernel
theorem dX12_sunday_162 : decode cX12_sunday 162 = .ok (.ireturn, 1) := by decide +kernel
theorem dX12_tavern_0 : decode cX12_tavern 0 = .ok (.aload_n 0, 1) := by decide +kernel
theorem dX12_tavern_1 : decode cX12_tavern 1 = .ok (.iconst 0, 1) := by decide +kernel
theorem dX12_tavern_2 : decode cX12_tavern 2 = .ok (.putfield 163, 3) := by decide +kernel
theorem dX12_tavern_5 : decode cX12_tavern 5 = .ok (.aload_n 0, 1) := by decide +kernel
theorem dX12_tavern_6 : decode cX12_tavern 6 = .ok (.iload_n 1, 1) := by decide +kernel
theorem dX12_tavern_7 : decode cX12_tavern 7 = .ok (.invokevirtual 341, 3) := by decide +kernel
theorem dX12_tavern_10 : decode cX12_tavern 10 = .ok (.ifCond .ne 5, 3) := by decide +kernel
theorem dX12_tavern_13 : decode cX12_tavern 13 = .ok (.iconst (-1), 1) := by decide +kernel
theorem dX12_tavern_14 : decode cX12_tavern 14 = .ok (.ireturn, 1) := by decide +kernel
theorem dX12_text_0 : decode cX12_text 0 = .ok (.aload_n 0, 1) := by decide +kernel
theorem dX12_text_1 : decode cX12_text 1 = .ok (.iconst 0, 1) := by decide +kernel
theorem dX12_text_2 : decode cX12_text 2 = .ok (.putfield 163, 3) := by decide +kernel
theorem dX12_text_5 : decode cX12_text 5 = .ok (.iload_n 1, 1) := by decide +kernel
theorem dX12_text_6 : decode cX12_text 6 = .ok (.ifCond .lt 11, 3) := by decide +kernel
theorem dX12_text_9 : decode cX12_text 9 = .ok (.iload_n 1, 1) := by decide +kernel
theorem dX12_text_10 : decode cX12_text 10 = .ok (.aload_n 0, 1) := by decide +kernel
theorem dX12_text_11 : decode cX12_text 11 = .ok (.getfield 166, 3) := by decide +kernel
theorem dX12_text_14 : decode cX12_text 14 = .ok (.if_icmp .le 6, 3) := by decide +kernel
theorem dX12_text_17 : decode cX12_text 17 = .ok (.bipush (-2), 2) := by decide +kernel
theorem dX12_text_19 : decode cX12_text 19 = .ok (.ireturn, 1) := by decide +kernel
theorem dX12_text_20 : decode cX12_text 20 = .ok (.aload_n 0, 1) := by decide +kernel
theorem dX12_text_21 : decode cX12_text 21 = .ok (.iload_n 1, 1) := by decide +kernel
theorem dX12_text_22 : decode cX12_text 22 = .ok (.putfield 172, 3) := by decide +kernel
theorem dX12_text_25 : decode cX12_text 25 = .ok (.aload_n 0, 1) := by decide +kernel
theorem dX12_text_26 : decode cX12_text 26 = .ok (.iconst 0, 1) := by decide +kernel
theorem dX12_text_27 : decode cX12_text 27 = .ok (.putfield 166, 3) := by decide +kernel
theorem dX12_text_30 : decode cX12_text 30 = .ok (.aload_n 0, 1) := by decide +kernel
theorem dX12_text_31 : decode cX12_text 31 = .ok (.iconst 0, 1) := by decide +kernel
theorem dX12_text_32 : decode cX12_text 32 = .ok (.putfield 169, 3) := by decide +kernel
theorem dX12_text_35 : decode cX12_text 35 = .ok (.aload_n 0, 1) := by decide +kernel
theorem dX12_text_36 : decode cX12_text 36 = .ok (.iconst 0, 1) := by decide +kernel
theorem dX12_text_37 : decode cX12_text 37 = .ok (.putfield 217, 3) := by decide +kernel
theorem dX12_text_40 : decode cX12_text 40 = .ok (.aload_n 0, 1) := by decide +kernel
theorem dX12_text_41 : decode cX12_text 41 = .ok (.iconst (-1), 1) := by decide +kernel
theorem dX12_text_42 : decode cX12_text 42 = .ok (.putfield 220, 3) := by decide +kernel
theorem dX12_text_45 : decode cX12_text 45 = .ok (.iconst 0, 1) := by decide +kernel
theorem dX12_text_46 : decode cX12_text 46 = .ok (.istore_n 2, 1) := by decide +kernel
theorem dX12_text_47 : decode cX12_text 47 = .ok (.iload_n 2, 1) := by decide +kernel
theorem dX12_text_48 : decode cX12_text 48 = .ok (.bipush 7, 2) := by decide +kernel
theorem dX12_text_50 : decode cX12_text 50 = .ok (.if_icmp .ge 15, 3) := by decide +kernel
theorem dX12_text_53 : decode cX12_text 53 = .ok (.aload_n 0, 1) := by decide +kernel
theorem dX12_text_54 : decode cX12_text 54 = .ok (.iload_n 2, 1) := by decide +kernel
theorem dX12_text_55 : decode cX12_text 55 = .ok (.iconst 0, 1) := by decide +kernel
theorem dX12_text_56 : decode cX12_text 56 = .ok (.invokevirtual 254, 3) := by decide +kernel
theorem dX12_text_59 : decode cX12_text 59 = .ok (.iinc 2 1, 3) := by decide +kernel
theorem dX12_text_62 : decode cX12_text 62 = .ok (.goto (-15), 3) := by decide +kernel
theorem dX12_text_65 : decode cX12_text 65 = .ok (.iconst 5, 1) := by decide +kernel
theorem dX12_text_66 : decode cX12_text 66 = .ok (.istore_n 2, 1) := by decide +kernel
theorem dX12_text_67 : decode cX12_text 67 = .ok (.iload_n 2, 1) := by decide +kernel
theorem dX12_text_68 : decode cX12_text 68 = .ok (.bipush 10, 2) := by decide +kernel
theorem dX12_text_70 : decode cX12_text 70 = .ok (.if_icmp .ge 23, 3) := by decide +kernel
theorem dX12_text_73 : decode cX12_text 73 = .ok (.aload_n 0, 1) := by decide +kernel
theorem dX12_text_74 : decode cX12_text 74 = .ok (.getfield 65, 3) := by decide +kernel
theorem dX12_text_77 : decode cX12_text 77 = .ok (.iload_n 2, 1) := by decide +kernel
theorem dX12_text_78 : decode cX12_text 78 = .ok (.iconst 0, 1) := by decide +kernel
theorem dX12_text_79 : decode cX12_text 79 = .ok (.iastore, 1) := by decide +kernel
theorem dX12_text_80 : decode cX12_text 80 = .ok (.aload_n 0, 1) := by decide +kernel
theorem dX12_text_81 : decode cX12_text 81 = .ok (.getfield 68, 3) := by decide +kernel
theorem dX12_text_84 : decode cX12_text 84 = .ok (.iload_n 2, 1) := by decide +kernel
theorem dX12_text_85 : decode cX12_text 85 = .ok (.iconst 0, 1) := by decide +kernel
theorem dX12_text_86 : decode cX12_text 86 = .ok (.iastore, 1) := by decide +kernel
theorem dX12_text_87 : decode cX12_text 87 = .ok (.iinc 2 1, 3) := by decide +kernel
theorem dX12_text_90 : decode cX12_text 90 = .ok (.goto (-23), 3) := by decide +kernel
theorem dX12_text_93 : decode cX12_text 93 = .ok (.aload_n 0, 1) := by decide +kernel
theorem dX12_text_94 : decode cX12_text 94 = .ok (.iconst 0, 1) := by decide +kernel
theorem dX12_text_95 : decode cX12_text 95 = .ok (.putfield 243, 3) := by decide +kernel
theorem dX12_text_98 : decode cX12_text 98 = .ok (.aload_n 0, 1) := by decide +kernel
theorem dX12_text_99 : decode cX12_text 99 = .ok (.iconst 0, 1) := by decide +kernel
theorem dX12_text_100 : decode cX12_text 100 = .ok (.putfield 273, 3) := by decide +kernel
theorem dX12_text_103 : decode cX12_text 103 = .ok (.aload_n 0, 1) := by decide +kernel
theorem dX12_text_104 : decode cX12_text 104 = .ok (.iconst 0, 1) := by decide +kernel
theorem dX12_text_105 : decode cX12_text 105 = .ok (.putfield 312, 3) := by decide +kernel
theorem dX12_text_108 : decode cX12_text 108 = .ok (.aload_n 0, 1) := by decide +kernel
theorem dX12_text_109 : decode cX12_text 109 = .ok (.iconst 0, 1) := by decide +kernel
theorem dX12_text_110 : decode cX12_text 110 = .ok (.putfield 288, 3) := by decide +kernel
theorem dX12_text_113 : decode cX12_text 113 = .ok (.aload_n 0, 1) := by decide +kernel
theorem dX12_text_114 : decode cX12_text 114 = .ok (.invokevirtual 223, 3) := by decide +kernel
theorem dX12_text_117 : decode cX12_text 117 = .ok (.aload_n 0, 1) := by decide +kernel
theorem dX12_text_118 : decode cX12_text 118 = .ok (.getfield 217, 3) := by decide +kernel
theorem dX12_text_121 : decode cX12_text 121 = .ok (.ifCond .ne 18, 3) := by decide +kernel
theorem dX12_text_124 : decode cX12_text 124 = .ok (.aload_n 0, 1) := by decide +kernel
theorem dX12_text_125 : decode cX12_text 125 = .ok (.getfield 182, 3) := by decide +kernel
theorem dX12_text_128 : decode cX12_text 128 = .ok (.iconst 4, 1) := by decide +kernel
theorem dX12_text_129 : decode cX12_text 129 = .ok (.if_icmp .eq 10, 3) := by decide +kernel
theorem dX12_text_139 : decode cX12_text 139 = .ok (.aload_n 0, 1) := by decide +kernel
theorem dX12_text_140 : decode cX12_text 140 = .ok (.aload_n 0, 1) := by decide +kernel
theorem dX12_text_141 : decode cX12_text 141 = .ok (.getfield 217, 3) := by decide +kernel
theorem dX12_text_144 : decode cX12_text 144 = .ok (.putfield 318, 3) := by decide +kernel
theorem dX12_text_147 : decode cX12_text 147 = .ok (.aload_n 0, 1) := by decide +kernel
theorem dX12_text_148 : decode cX12_text 148 = .ok (.aload_n 0, 1) := by decide +kernel
theorem dX12_text_149 : decode cX12_text 149 = .ok (.getfield 220, 3) := by decide +kernel
theorem dX12_text_152 : decode cX12_text 152 = .ok (.putfield 77, 3) := by decide +kernel
theorem dX12_text_155 : decode cX12_text 155 = .ok (.aload_n 0, 1) := by decide +kernel
theorem dX12_text_156 : decode cX12_text 156 = .ok (.getfield 217, 3) := by decide +kernel
theorem dX12_text_159 : decode cX12_text 159 = .ok (.ifCond .eq 5, 3) := by decide +kernel
theorem dX12_text_164 : decode cX12_text 164 = .ok (.aload_n 0, 1) := by decide +kernel
theorem dX12_text_165 : decode cX12_text 165 = .ok (.getfield 13, 3) := by decide +kernel
theorem dX12_text_168 : decode cX12_text 168 = .ok (.invokestatic 321, 3) := by decide +kernel
theorem dX12_text_171 : decode cX12_text 171 = .ok (.aload_n 0, 1) := by decide +kernel
theorem dX12_text_172 : decode cX12_text 172 = .ok (.getfield 16, 3) := by decide +kernel
theorem dX12_text_175 : decode cX12_text 175 = .ok (.invokestatic 321, 3) := by decide +kernel
theorem dX12_text_178 : decode cX12_text 178 = .ok (.aload_n 0, 1) := by decide +kernel
theorem dX12_text_179 : decode cX12_text 179 = .ok (.getfield 19, 3) := by decide +kernel
theorem dX12_text_182 : decode cX12_text 182 = .ok (.invokestatic 321, 3) := by decide +kernel
theorem dX12_text_185 : decode cX12_text 185 = .ok (.aload_n 0, 1) := by decide +kernel
theorem dX12_text_186 : decode cX12_text 186 = .ok (.getfield 22, 3) := by decide +kernel
theorem dX12_text_189 : decode cX12_text 189 = .ok (.invokestatic 321, 3) := by decide +kernel
theorem dX12_text_192 : decode cX12_text 192 = .ok (.aload_n 0, 1) := by decide +kernel
theorem dX12_text_193 : decode cX12_text 193 = .ok (.getfield 25, 3) := by decide +kernel
theorem dX12_text_196 : decode cX12_text 196 = .ok (.invokestatic 321, 3) := by decide +kernel
theorem dX12_text_199 : decode cX12_text 199 = .ok (.aload_n 0, 1) := by decide +kernel
theorem dX12_text_200 : decode cX12_text 200 = .ok (.getfield 28, 3) := by decide +kernel
theorem dX12_text_203 : decode cX12_text 203 = .ok (.invokestatic 321, 3) := by decide +kernel
theorem dX12_text_206 : decode cX12_text 206 = .ok (.aload_n 0, 1) := by decide +kernel
theorem dX12_text_207 : decode cX12_text 207 = .ok (.getfield 31, 3) := by decide +kernel
theorem dX12_text_210 : decode cX12_text 210 = .ok (.invokestatic 321, 3) := by decide +kernel
theorem dX12_text_213 : decode cX12_text 213 = .ok (.iconst 0, 1) := by decide +kernel
theorem dX12_text_214 : decode cX12_text 214 = .ok (.istore_n 2, 1) := by decide +kernel
theorem dX12_text_215 : decode cX12_text 215 = .ok (.iload_n 2, 1) := by decide +kernel
theorem dX12_text_216 : decode cX12_text 216 = .ok (.bipush 6, 2) := by decide +kernel
theorem dX12_text_218 : decode cX12_text 218 = .ok (.if_icmp .ge 24, 3) := by decide +kernel
theorem dX12_text_221 : decode cX12_text 221 = .ok (.aload_n 0, 1) := by decide +kernel
theorem dX12_text_222 : decode cX12_text 222 = .ok (.getfield 34, 3) := by decide +kernel
theorem dX12_text_225 : decode cX12_text 225 = .ok (.iload_n 2, 1) := by decide +kernel
theorem dX12_text_226 : decode cX12_text 226 = .ok (.aload_n 0, 1) := by decide +kernel
theorem dX12_text_227 : decode cX12_text 227 = .ok (.getfield 34, 3) := by decide +kernel
theorem dX12_text_230 : decode cX12_text 230 = .ok (.bipush 6, 2) := by decide +kernel
theorem dX12_text_232 : decode cX12_text 232 = .ok (.iload_n 2, 1) := by decide +kernel
theorem dX12_text_233 : decode cX12_text 233 = .ok (.iadd, 1) := by decide +kernel
theorem dX12_text_234 : decode cX12_text 234 = .ok (.baload, 1) := by decide +kernel
theorem dX12_text_235 : decode cX12_text 235 = .ok (.bastore, 1) := by decide +kernel
theorem dX12_text_236 : decode cX12_text 236 = .ok (.iinc 2 1, 3) := by decide +kernel
theorem dX12_text_239 : decode cX12_text 239 = .ok (.goto (-24), 3) := by decide +kernel
end
section
theorem dX12_text_242 : decode cX12_text 242 = .ok (.aload_n 0, 1) := by decide +kernel
theorem dX12_text_243 : decode cX12_text 243 = .ok (.getfield 38, 3) := by decide +kernel
theorem dX12_text_246 : decode cX12_text 246 = .ok (.invokestatic 321, 3) := by decide +kernel
theorem dX12_text_249 : decode cX12_text 249 = .ok (.aload_n 0, 1) := by decide +kernel
theorem dX12_text_250 : decode cX12_text 250 = .ok (.getfield 41, 3) := by decide +kernel
theorem dX12_text_253 : decode cX12_text 253 = .ok (.invokestatic 321, 3) := by decide +kernel
theorem dX12_text_256 : decode cX12_text 256 = .ok (.aload_n 0, 1) := by decide +kernel
theorem dX12_text_257 : decode cX12_text 257 = .ok (.getfield 44, 3) := by decide +kernel
theorem dX12_text_260 : decode cX12_text 260 = .ok (.invokestatic 321, 3) := by decide +kernel
theorem dX12_text_263 : decode cX12_text 263 = .ok (.aload_n 0, 1) := by decide +kernel
theorem dX12_text_264 : decode cX12_text 264 = .ok (.getfield 47, 3) := by decide +kernel
theorem dX12_text_267 : decode cX12_text 267 = .ok (.invokestatic 321, 3) := by decide +kernel
theorem dX12_text_270 : decode cX12_text 270 = .ok (.aload_n 0, 1) := by decide +kernel
theorem dX12_text_271 : decode cX12_text 271 = .ok (.getfield 50, 3) := by decide +kernel
theorem dX12_text_274 : decode cX12_text 274 = .ok (.invokestatic 321, 3) := by decide +kernel
theorem dX12_text_277 : decode cX12_text 277 = .ok (.aload_n 0, 1) := by decide +kernel
theorem dX12_text_278 : decode cX12_text 278 = .ok (.getfield 53, 3) := by decide +kernel
theorem dX12_text_281 : decode cX12_text 281 = .ok (.invokestatic 321, 3) := by decide +kernel
theorem dX12_text_284 : decode cX12_text 284 = .ok (.aload_n 0, 1) := by decide +kernel
theorem dX12_text_285 : decode cX12_text 285 = .ok (.getfield 56, 3) := by decide +kernel
theorem dX12_text_288 : decode cX12_text 288 = .ok (.invokestatic 321, 3) := by decide +kernel
theorem dX12_text_291 : decode cX12_text 291 = .ok (.aload_n 0, 1) := by decide +kernel
theorem dX12_text_292 : decode cX12_text 292 = .ok (.getfield 59, 3) := by decide +kernel
theorem dX12_text_295 : decode cX12_text 295 = .ok (.invokestatic 321, 3) := by decide +kernel
theorem dX12_text_298 : decode cX12_text 298 = .ok (.aload_n 0, 1) := by decide +kernel
theorem dX12_text_299 : decode cX12_text 299 = .ok (.getfield 62, 3) := by decide +kernel
theorem dX12_text_302 : decode cX12_text 302 = .ok (.invokestatic 321, 3) := by decide +kernel
theorem dX12_text_305 : decode cX12_text 305 = .ok (.aload_n 0, 1) := by decide +kernel
theorem dX12_text_306 : decode cX12_text 306 = .ok (.getfield 65, 3) := by decide +kernel
theorem dX12_text_309 : decode cX12_text 309 = .ok (.invokestatic 321, 3) := by decide +kernel
theorem dX12_text_312 : decode cX12_text 312 = .ok (.aload_n 0, 1) := by decide +kernel
theorem dX12_text_313 : decode cX12_text 313 = .ok (.getfield 68, 3) := by decide +kernel
theorem dX12_text_316 : decode cX12_text 316 = .ok (.invokestatic 321, 3) := by decide +kernel
theorem dX12_text_319 : decode cX12_text 319 = .ok (.aload_n 0, 1) := by decide +kernel
theorem dX12_text_320 : decode cX12_text 320 = .ok (.getfield 71, 3) := by decide +kernel
theorem dX12_text_323 : decode cX12_text 323 = .ok (.invokestatic 321, 3) := by decide +kernel
theorem dX12_text_326 : decode cX12_text 326 = .ok (.aload_n 0, 1) := by decide +kernel
theorem dX12_text_327 : decode cX12_text 327 = .ok (.getfield 74, 3) := by decide +kernel
theorem dX12_text_330 : decode cX12_text 330 = .ok (.invokestatic 321, 3) := by decide +kernel
theorem dX12_text_333 : decode cX12_text 333 = .ok (.aload_n 0, 1) := by decide +kernel
theorem dX12_text_334 : decode cX12_text 334 = .ok (.iconst 0, 1) := by decide +kernel
theorem dX12_text_335 : decode cX12_text 335 = .ok (.putfield 325, 3) := by decide +kernel
theorem dX12_text_338 : decode cX12_text 338 = .ok (.aload_n 0, 1) := by decide +kernel
theorem dX12_text_339 : decode cX12_text 339 = .ok (.iconst (-1), 1) := by decide +kernel
theorem dX12_text_340 : decode cX12_text 340 = .ok (.putfield 142, 3) := by decide +kernel
theorem dX12_text_343 : decode cX12_text 343 = .ok (.aload_n 0, 1) := by decide +kernel
theorem dX12_text_344 : decode cX12_text 344 = .ok (.iconst 0, 1) := by decide +kernel
theorem dX12_text_345 : decode cX12_text 345 = .ok (.putfield 328, 3) := by decide +kernel
theorem dX12_text_348 : decode cX12_text 348 = .ok (.aload_n 0, 1) := by decide +kernel
theorem dX12_text_349 : decode cX12_text 349 = .ok (.invokevirtual 160, 3) := by decide +kernel
theorem dX12_text_352 : decode cX12_text 352 = .ok (.aload_n 0, 1) := by decide +kernel
theorem dX12_text_353 : decode cX12_text 353 = .ok (.getfield 273, 3) := by decide +kernel
theorem dX12_text_356 : decode cX12_text 356 = .ok (.ireturn, 1) := by decide +kernel
theorem dX12_thieves_0 : decode cX12_thieves 0 = .ok (.aload_n 0, 1) := by decide +kernel
theorem dX12_thieves_1 : decode cX12_thieves 1 = .ok (.iconst 0, 1) := by decide +kernel
theorem dX12_thieves_2 : decode cX12_thieves 2 = .ok (.putfield 163, 3) := by decide +kernel
theorem dX12_thieves_5 : decode cX12_thieves 5 = .ok (.aload_n 0, 1) := by decide +kernel
theorem dX12_thieves_6 : decode cX12_thieves 6 = .ok (.invokevirtual 473, 3) := by decide +kernel
theorem dX12_thieves_9 : decode cX12_thieves 9 = .ok (.iconst 0, 1) := by decide +kernel
theorem dX12_thieves_10 : decode cX12_thieves 10 = .ok (.istore_n 1, 1) := by decide +kernel
theorem dX12_thieves_11 : decode cX12_thieves 11 = .ok (.iconst 0, 1) := by decide +kernel
theorem dX12_thieves_12 : decode cX12_thieves 12 = .ok (.istore_n 2, 1) := by decide +kernel
theorem dX12_thieves_13 : decode cX12_thieves 13 = .ok (.iload_n 2, 1) := by decide +kernel
theorem dX12_thieves_14 : decode cX12_thieves 14 = .ok (.aload_n 0, 1) := by decide +kernel
theorem dX12_thieves_15 : decode cX12_thieves 15 = .ok (.getfield 13, 3) := by decide +kernel
theorem dX12_thieves_18 : decode cX12_thieves 18 = .ok (.iconst 1, 1) := by decide +kernel
theorem dX12_thieves_19 : decode cX12_thieves 19 = .ok (.iaload, 1) := by decide +kernel
theorem dX12_thieves_20 : decode cX12_thieves 20 = .ok (.if_icmp .ge 27, 3) := by decide +kernel
theorem dX12_thieves_47 : decode cX12_thieves 47 = .ok (.iload_n 1, 1) := by decide +kernel
theorem dX12_thieves_48 : decode cX12_thieves 48 = .ok (.ireturn, 1) := by decide +kernel
theorem dX12_thrown_0 : decode cX12_thrown 0 = .ok (.aload_n 0, 1) := by decide +kernel
theorem dX12_thrown_1 : decode cX12_thrown 1 = .ok (.getfield 163, 3) := by decide +kernel
theorem dX12_thrown_4 : decode cX12_thrown 4 = .ok (.ireturn, 1) := by decide +kernel
theorem dX12_token_0 : decode cX12_token 0 = .ok (.aload_n 0, 1) := by decide +kernel
theorem dX12_token_1 : decode cX12_token 1 = .ok (.invokevirtual 175, 3) := by decide +kernel
theorem dX12_token_4 : decode cX12_token 4 = .ok (.bipush 10, 2) := by decide +kernel
theorem dX12_token_6 : decode cX12_token 6 = .ok (.if_icmp .eq 12, 3) := by decide +kernel
theorem dX12_token_9 : decode cX12_token 9 = .ok (.aload_n 0, 1) := by decide +kernel
theorem dX12_token_10 : decode cX12_token 10 = .ok (.invokevirtual 175, 3) := by decide +kernel
theorem dX12_token_13 : decode cX12_token 13 = .ok (.bipush 32, 2) := by decide +kernel
theorem dX12_token_15 : decode cX12_token 15 = .ok (.if_icmp .ne 16, 3) := by decide +kernel
theorem dX12_token_31 : decode cX12_token 31 = .ok (.aload_n 0, 1) := by decide +kernel
theorem dX12_token_32 : decode cX12_token 32 = .ok (.aload_n 0, 1) := by decide +kernel
theorem dX12_token_33 : decode cX12_token 33 = .ok (.getfield 169, 3) := by decide +kernel
theorem dX12_token_36 : decode cX12_token 36 = .ok (.putfield 179, 3) := by decide +kernel
theorem dX12_token_39 : decode cX12_token 39 = .ok (.aload_n 0, 1) := by decide +kernel
theorem dX12_token_40 : decode cX12_token 40 = .ok (.invokevirtual 175, 3) := by decide +kernel
theorem dX12_token_43 : decode cX12_token 43 = .ok (.istore_n 1, 1) := by decide +kernel
theorem dX12_token_44 : decode cX12_token 44 = .ok (.iload_n 1, 1) := by decide +kernel
theorem dX12_token_45 : decode cX12_token 45 = .ok (.iconst (-1), 1) := by decide +kernel
theorem dX12_token_46 : decode cX12_token 46 = .ok (.if_icmp .ne 11, 3) := by decide +kernel
theorem dX12_token_49 : decode cX12_token 49 = .ok (.aload_n 0, 1) := by decide +kernel
theorem dX12_token_50 : decode cX12_token 50 = .ok (.iconst 4, 1) := by decide +kernel
theorem dX12_token_51 : decode cX12_token 51 = .ok (.putfield 182, 3) := by decide +kernel
theorem dX12_token_54 : decode cX12_token 54 = .ok (.goto 171, 3) := by decide +kernel
theorem dX12_token_225 : decode cX12_token 225 = .ok (.return_, 1) := by decide +kernel
theorem dX12_undo_0 : decode cX12_undo 0 = .ok (.aload_n 0, 1) := by decide +kernel
theorem dX12_undo_1 : decode cX12_undo 1 = .ok (.iconst 0, 1) := by decide +kernel
theorem dX12_undo_2 : decode cX12_undo 2 = .ok (.putfield 163, 3) := by decide +kernel
theorem dX12_undo_5 : decode cX12_undo 5 = .ok (.aload_n 0, 1) := by decide +kernel
theorem dX12_undo_6 : decode cX12_undo 6 = .ok (.getfield 108, 3) := by decide +kernel
theorem dX12_undo_9 : decode cX12_undo 9 = .ok (.iconst 0, 1) := by decide +kernel
theorem dX12_undo_10 : decode cX12_undo 10 = .ok (.iaload, 1) := by decide +kernel
theorem dX12_undo_11 : decode cX12_undo 11 = .ok (.ifCond .ne 5, 3) := by decide +kernel
theorem dX12_undo_14 : decode cX12_undo 14 = .ok (.iconst (-1), 1) := by decide +kernel
theorem dX12_undo_15 : decode cX12_undo 15 = .ok (.ireturn, 1) := by decide +kernel
theorem dX12_verse_0 : decode cX12_verse 0 = .ok (.aload_n 0, 1) := by decide +kernel
theorem dX12_verse_1 : decode cX12_verse 1 = .ok (.iconst 0, 1) := by decide +kernel
theorem dX12_verse_2 : decode cX12_verse 2 = .ok (.putfield 163, 3) := by decide +kernel
theorem dX12_verse_5 : decode cX12_verse 5 = .ok (.aload_n 0, 1) := by decide +kernel
theorem dX12_verse_6 : decode cX12_verse 6 = .ok (.iload_n 1, 1) := by decide +kernel
theorem dX12_verse_7 : decode cX12_verse 7 = .ok (.invokevirtual 332, 3) := by decide +kernel
theorem dX12_verse_10 : decode cX12_verse 10 = .ok (.ifCond .ne 5, 3) := by decide +kernel
theorem dX12_verse_13 : decode cX12_verse 13 = .ok (.iconst (-1), 1) := by decide +kernel
theorem dX12_verse_14 : decode cX12_verse 14 = .ok (.ireturn, 1) := by decide +kernel
theorem dX12_whole_0 : decode cX12_whole 0 = .ok (.aload_n 0, 1) := by decide +kernel
theorem dX12_whole_1 : decode cX12_whole 1 = .ok (.iconst 0, 1) := by decide +kernel
theorem dX12_whole_2 : decode cX12_whole 2 = .ok (.putfield 163, 3) := by decide +kernel
theorem dX12_whole_5 : decode cX12_whole 5 = .ok (.aload_n 0, 1) := by decide +kernel
theorem dX12_whole_6 : decode cX12_whole 6 = .ok (.iload_n 1, 1) := by decide +kernel
theorem dX12_whole_7 : decode cX12_whole 7 = .ok (.invokevirtual 335, 3) := by decide +kernel
theorem dX12_whole_10 : decode cX12_whole 10 = .ok (.ifCond .eq 22, 3) := by decide +kernel
theorem dX12_whole_32 : decode cX12_whole 32 = .ok (.ldc2_w 504, 3) := by decide +kernel
theorem dX12_whole_35 : decode cX12_whole 35 = .ok (.lreturn, 1) := by decide +kernel
theorem dJ6_bitCount_0f7a4_0 : decode cJ6_bitCount_0f7a4 0 = .ok (.iload_n 0, 1) := by decide +kernel
theorem dJ6_bitCount_0f7a4_1 : decode cJ6_bitCount_0f7a4 1 = .ok (.iload_n 0, 1) := by decide +kernel
theorem dJ6_bitCount_0f7a4_2 : decode cJ6_bitCount_0f7a4 2 = .ok (.iconst 1, 1) := by decide +kernel
theorem dJ6_bitCount_0f7a4_3 : decode cJ6_bitCount_0f7a4 3 = .ok (.iushr, 1) := by decide +kernel
theorem dJ6_bitCount_0f7a4_4 : decode cJ6_bitCount_0f7a4 4 = .ok (.ldc_w 265, 3) := by decide +kernel
theorem dJ6_bitCount_0f7a4_7 : decode cJ6_bitCount_0f7a4 7 = .ok (.iand, 1) := by decide +kernel
theorem dJ6_bitCount_0f7a4_8 : decode cJ6_bitCount_0f7a4 8 = .ok (.isub, 1) := by decide +kernel
theorem dJ6_bitCount_0f7a4_9 : decode cJ6_bitCount_0f7a4 9 = .ok (.istore_n 0, 1) := by decide +kernel
theorem dJ6_bitCount_0f7a4_10 : decode cJ6_bitCount_0f7a4 10 = .ok (.iload_n 0, 1) := by decide +kernel
theorem dJ6_bitCount_0f7a4_11 : decode cJ6_bitCount_0f7a4 11 = .ok (.ldc_w 266, 3) := by decide +kernel
theorem dJ6_bitCount_0f7a4_14 : decode cJ6_bitCount_0f7a4 14 = .ok (.iand, 1) := by decide +kernel
theorem dJ6_bitCount_0f7a4_15 : decode cJ6_bitCount_0f7a4 15 = .ok (.iload_n 0, 1) := by decide +kernel
theorem dJ6_bitCount_0f7a4_16 : decode cJ6_bitCount_0f7a4 16 = .ok (.iconst 2, 1) := by decide +kernel
theorem dJ6_bitCount_0f7a4_17 : decode cJ6_bitCount_0f7a4 17 = .ok (.iushr, 1) := by decide +kernel
theorem dJ6_bitCount_0f7a4_18 : decode cJ6_bitCount_0f7a4 18 = .ok (.ldc_w 266, 3) := by decide +kernel
theorem dJ6_bitCount_0f7a4_21 : decode cJ6_bitCount_0f7a4 21 = .ok (.iand, 1) := by decide +kernel
theorem dJ6_bitCount_0f7a4_22 : decode cJ6_bitCount_0f7a4 22 = .ok (.iadd, 1) := by decide +kernel
theorem dJ6_bitCount_0f7a4_23 : decode cJ6_bitCount_0f7a4 23 = .ok (.istore_n 0, 1) := by decide +kernel
theorem dJ6_bitCount_0f7a4_24 : decode cJ6_bitCount_0f7a4 24 = .ok (.iload_n 0, 1) := by decide +kernel
theorem dJ6_bitCount_0f7a4_25 : decode cJ6_bitCount_0f7a4 25 = .ok (.iload_n 0, 1) := by decide +kernel
theorem dJ6_bitCount_0f7a4_26 : decode cJ6_bitCount_0f7a4 26 = .ok (.iconst 4, 1) := by decide +kernel
theorem dJ6_bitCount_0f7a4_27 : decode cJ6_bitCount_0f7a4 27 = .ok (.iushr, 1) := by decide +kernel
theorem dJ6_bitCount_0f7a4_28 : decode cJ6_bitCount_0f7a4 28 = .ok (.iadd, 1) := by decide +kernel
theorem dJ6_bitCount_0f7a4_29 : decode cJ6_bitCount_0f7a4 29 = .ok (.ldc_w 267, 3) := by decide +kernel
theorem dJ6_bitCount_0f7a4_32 : decode cJ6_bitCount_0f7a4 32 = .ok (.iand, 1) := by decide +kernel
theorem dJ6_bitCount_0f7a4_33 : decode cJ6_bitCount_0f7a4 33 = .ok (.istore_n 0, 1) := by decide +kernel
theorem dJ6_bitCount_0f7a4_34 : decode cJ6_bitCount_0f7a4 34 = .ok (.iload_n 0, 1) := by decide +kernel
theorem dJ6_bitCount_0f7a4_35 : decode cJ6_bitCount_0f7a4 35 = .ok (.iload_n 0, 1) := by decide +kernel
theorem dJ6_bitCount_0f7a4_36 : decode cJ6_bitCount_0f7a4 36 = .ok (.bipush 8, 2) := by decide +kernel
theorem dJ6_bitCount_0f7a4_38 : decode cJ6_bitCount_0f7a4 38 = .ok (.iushr, 1) := by decide +kernel
theorem dJ6_bitCount_0f7a4_39 : decode cJ6_bitCount_0f7a4 39 = .ok (.iadd, 1) := by decide +kernel
theorem dJ6_bitCount_0f7a4_40 : decode cJ6_bitCount_0f7a4 40 = .ok (.istore_n 0, 1) := by decide +kernel
theorem dJ6_bitCount_0f7a4_41 : decode cJ6_bitCount_0f7a4 41 = .ok (.iload_n 0, 1) := by decide +kernel
theorem dJ6_bitCount_0f7a4_42 : decode cJ6_bitCount_0f7a4 42 = .ok (.iload_n 0, 1) := by decide +kernel
theorem dJ6_bitCount_0f7a4_43 : decode cJ6_bitCount_0f7a4 43 = .ok (.bipush 16, 2) := by decide +kernel
theorem dJ6_bitCount_0f7a4_45 : decode cJ6_bitCount_0f7a4 45 = .ok (.iushr, 1) := by decide +kernel
theorem dJ6_bitCount_0f7a4_46 : decode cJ6_bitCount_0f7a4 46 = .ok (.iadd, 1) := by decide +kernel
theorem dJ6_bitCount_0f7a4_47 : decode cJ6_bitCount_0f7a4 47 = .ok (.istore_n 0, 1) := by decide +kernel
theorem dJ6_bitCount_0f7a4_48 : decode cJ6_bitCount_0f7a4 48 = .ok (.iload_n 0, 1) := by decide +kernel
theorem dJ6_bitCount_0f7a4_49 : decode cJ6_bitCount_0f7a4 49 = .ok (.bipush 63, 2) := by decide +kernel
theorem dJ6_bitCount_0f7a4_51 : decode cJ6_bitCount_0f7a4 51 = .ok (.iand, 1) := by decide +kernel
theorem dJ6_bitCount_0f7a4_52 : decode cJ6_bitCount_0f7a4 52 = .ok (.ireturn, 1) := by decide +kernel
theorem dJ0_charAt_5068e_0 : decode cJ0_charAt_5068e 0 = .ok (.aload_n 0, 1) := by decide +kernel
theorem dJ0_charAt_5068e_1 : decode cJ0_charAt_5068e 1 = .ok (.invokevirtual 492, 3) := by decide +kernel
theorem dJ0_charAt_5068e_4 : decode cJ0_charAt_5068e 4 = .ok (.ifCond .eq 12, 3) := by decide +kernel
theorem dJ0_charAt_5068e_7 : decode cJ0_charAt_5068e 7 = .ok (.aload_n 0, 1) := by decide +kernel
theorem dJ0_charAt_5068e_8 : decode cJ0_charAt_5068e 8 = .ok (.getfield 9, 3) := by decide +kernel
theorem dJ0_charAt_5068e_11 : decode cJ0_charAt_5068e 11 = .ok (.iload_n 1, 1) := by decide +kernel
theorem dJ0_charAt_5068e_12 : decode cJ0_charAt_5068e 12 = .ok (.invokestatic 495, 3) := by decide +kernel
theorem dJ0_charAt_5068e_15 : decode cJ0_charAt_5068e 15 = .ok (.ireturn, 1) := by decide +kernel
theorem dJ0_checkIndex_df160_0 : decode cJ0_checkIndex_df160 0 = .ok (.iload_n 0, 1) := by decide +kernel
theorem dJ0_checkIndex_df160_1 : decode cJ0_checkIndex_df160 1 = .ok (.iload_n 1, 1) := by decide +kernel
theorem dJ0_checkIndex_df160_2 : decode cJ0_checkIndex_df160 2 = .ok (.getstatic 1053, 3) := by decide +kernel
theorem dJ0_checkIndex_df160_5 : decode cJ0_checkIndex_df160 5 = .ok (.invokestatic 1059, 3) := by decide +kernel
theorem dJ0_checkIndex_df160_8 : decode cJ0_checkIndex_df160 8 = .ok (.pop, 1) := by decide +kernel
theorem dJ0_checkIndex_df160_9 : decode cJ0_checkIndex_df160 9 = .ok (.return_, 1) := by decide +kernel
theorem dJ0_coder_7d493_0 : decode cJ0_coder_7d493 0 = .ok (.getstatic 38, 3) := by decide +kernel
theorem dJ0_coder_7d493_3 : decode cJ0_coder_7d493 3 = .ok (.ifCond .eq 10, 3) := by decide +kernel
theorem dJ0_coder_7d493_6 : decode cJ0_coder_7d493 6 = .ok (.aload_n 0, 1) := by decide +kernel
theorem dJ0_coder_7d493_7 : decode cJ0_coder_7d493 7 = .ok (.getfield 15, 3) := by decide +kernel
theorem dJ0_coder_7d493_10 : decode cJ0_coder_7d493 10 = .ok (.goto 4, 3) := by decide +kernel
theorem dJ0_coder_7d493_14 : decode cJ0_coder_7d493 14 = .ok (.ireturn, 1) := by decide +kernel
theorem dJ0_isLatin1_aae02_0 : decode cJ0_isLatin1_aae02 0 = .ok (.getstatic 38, 3) := by decide +kernel
theorem dJ0_isLatin1_aae02_3 : decode cJ0_isLatin1_aae02 3 = .ok (.ifCond .eq 14, 3) := by decide +kernel
theorem dJ0_isLatin1_aae02_6 : decode cJ0_isLatin1_aae02 6 = .ok (.aload_n 0, 1) := by decide +kernel
theorem dJ0_isLatin1_aae02_7 : decode cJ0_isLatin1_aae02 7 = .ok (.getfield 15, 3) := by decide +kernel
theorem dJ0_isLatin1_aae02_10 : decode cJ0_isLatin1_aae02 10 = .ok (.ifCond .ne 7, 3) := by decide +kernel
theorem dJ0_isLatin1_aae02_13 : decode cJ0_isLatin1_aae02 13 = .ok (.iconst 1, 1) := by decide +kernel
theorem dJ0_isLatin1_aae02_14 : decode cJ0_isLatin1_aae02 14 = .ok (.goto 4, 3) := by decide +kernel
theorem dJ0_isLatin1_aae02_18 : decode cJ0_isLatin1_aae02 18 = .ok (.ireturn, 1) := by decide +kernel
theorem dJ0_length_8abf5_0 : decode cJ0_length_8abf5 0 = .ok (.aload_n 0, 1) := by decide +kernel
theorem dJ0_length_8abf5_1 : decode cJ0_length_8abf5 1 = .ok (.getfield 9, 3) := by decide +kernel
theorem dJ0_length_8abf5_4 : decode cJ0_length_8abf5 4 = .ok (.arraylength, 1) := by decide +kernel
theorem dJ0_length_8abf5_5 : decode cJ0_length_8abf5 5 = .ok (.aload_n 0, 1) := by decide +kernel
theorem dJ0_length_8abf5_6 : decode cJ0_length_8abf5 6 = .ok (.invokevirtual 335, 3) := by decide +kernel
theorem dJ0_length_8abf5_9 : decode cJ0_length_8abf5 9 = .ok (.ishr, 1) := by decide +kernel
theorem dJ0_length_8abf5_10 : decode cJ0_length_8abf5 10 = .ok (.ireturn, 1) := by decide +kernel
theorem dJ1_charAt_3b067_0 : decode cJ1_charAt_3b067 0 = .ok (.iload_n 1, 1) := by decide +kernel
theorem dJ1_charAt_3b067_1 : decode cJ1_charAt_3b067 1 = .ok (.aload_n 0, 1) := by decide +kernel
theorem dJ1_charAt_3b067_2 : decode cJ1_charAt_3b067 2 = .ok (.arraylength, 1) := by decide +kernel
theorem dJ1_charAt_3b067_3 : decode cJ1_charAt_3b067 3 = .ok (.invokestatic 9, 3) := by decide +kernel
theorem dJ1_charAt_3b067_6 : decode cJ1_charAt_3b067 6 = .ok (.aload_n 0, 1) := by decide +kernel
theorem dJ1_charAt_3b067_7 : decode cJ1_charAt_3b067 7 = .ok (.iload_n 1, 1) := by decide +kernel
theorem dJ1_charAt_3b067_8 : decode cJ1_charAt_3b067 8 = .ok (.baload, 1) := by decide +kernel
theorem dJ1_charAt_3b067_9 : decode cJ1_charAt_3b067 9 = .ok (.sipush 255, 3) := by decide +kernel
theorem dJ1_charAt_3b067_12 : decode cJ1_charAt_3b067 12 = .ok (.iand, 1) := by decide +kernel
theorem dJ1_charAt_3b067_13 : decode cJ1_charAt_3b067 13 = .ok (.i2c, 1) := by decide +kernel
theorem dJ1_charAt_3b067_14 : decode cJ1_charAt_3b067 14 = .ok (.ireturn, 1) := by decide +kernel
theorem dJ7_fill_53178_0 : decode cJ7_fill_53178 0 = .ok (.iconst 0, 1) := by decide +kernel
theorem dJ7_fill_53178_1 : decode cJ7_fill_53178 1 = .ok (.istore_n 2, 1) := by decide +kernel
theorem dJ7_fill_53178_2 : decode cJ7_fill_53178 2 = .ok (.aload_n 0, 1) := by decide +kernel
theorem dJ7_fill_53178_3 : decode cJ7_fill_53178 3 = .ok (.arraylength, 1) := by decide +kernel
theorem dJ7_fill_53178_4 : decode cJ7_fill_53178 4 = .ok (.istore_n 3, 1) := by decide +kernel
theorem dJ7_fill_53178_5 : decode cJ7_fill_53178 5 = .ok (.iload_n 2, 1) := by decide +kernel
theorem dJ7_fill_53178_6 : decode cJ7_fill_53178 6 = .ok (.iload_n 3, 1) := by decide +kernel
theorem dJ7_fill_53178_7 : decode cJ7_fill_53178 7 = .ok (.if_icmp .ge 13, 3) := by decide +kernel
theorem dJ7_fill_53178_10 : decode cJ7_fill_53178 10 = .ok (.aload_n 0, 1) := by decide +kernel
theorem dJ7_fill_53178_11 : decode cJ7_fill_53178 11 = .ok (.iload_n 2, 1) := by decide +kernel
theorem dJ7_fill_53178_12 : decode cJ7_fill_53178 12 = .ok (.iload_n 1, 1) := by decide +kernel
theorem dJ7_fill_53178_13 : decode cJ7_fill_53178 13 = .ok (.iastore, 1) := by decide +kernel
theorem dJ7_fill_53178_14 : decode cJ7_fill_53178 14 = .ok (.iinc 2 1, 3) := by decide +kernel
theorem dJ7_fill_53178_17 : decode cJ7_fill_53178 17 = .ok (.goto (-12), 3) := by decide +kernel
theorem dJ7_fill_53178_20 : decode cJ7_fill_53178 20 = .ok (.return_, 1) := by decide +kernel
theorem dJ3_checkIndex_8e157_0 : decode cJ3_checkIndex_8e157 0 = .ok (.iload_n 0, 1) := by decide +kernel
theorem dJ3_checkIndex_8e157_1 : decode cJ3_checkIndex_8e157 1 = .ok (.ifCond .lt 8, 3) := by decide +kernel
theorem dJ3_checkIndex_8e157_4 : decode cJ3_checkIndex_8e157 4 = .ok (.iload_n 0, 1) := by decide +kernel
theorem dJ3_checkIndex_8e157_5 : decode cJ3_checkIndex_8e157 5 = .ok (.iload_n 1, 1) := by decide +kernel
theorem dJ3_checkIndex_8e157_6 : decode cJ3_checkIndex_8e157 6 = .ok (.if_icmp .lt 10, 3) := by decide +kernel
theorem dJ3_checkIndex_8e157_16 : decode cJ3_checkIndex_8e157 16 = .ok (.iload_n 0, 1) := by decide +kernel
theorem dJ3_checkIndex_8e157_17 : decode cJ3_checkIndex_8e157 17 = .ok (.ireturn, 1) := by decide +kernel
theorem dL_law_0 : decode cL_law 0 = .ok (.new 8, 3) := by decide +kernel
theorem dL_law_3 : decode cL_law 3 = .ok (.dup, 1) := by decide +kernel
theorem dL_law_4 : decode cL_law 4 = .ok (.invokespecial 17, 3) := by decide +kernel
theorem dL_law_7 : decode cL_law 7 = .ok (.astore_n 1, 1) := by decide +kernel
theorem dL_law_8 : decode cL_law 8 = .ok (.new 18, 3) := by decide +kernel
theorem dL_law_11 : decode cL_law 11 = .ok (.dup, 1) := by decide +kernel
theorem dL_law_12 : decode cL_law 12 = .ok (.invokespecial 20, 3) := by decide +kernel
theorem dL_law_15 : decode cL_law 15 = .ok (.astore_n 2, 1) := by decide +kernel
theorem dL_law_16 : decode cL_law 16 = .ok (.iconst 1, 1) := by decide +kernel
theorem dL_law_17 : decode cL_law 17 = .ok (.newarray .long, 2) := by decide +kernel
theorem dL_law_19 : decode cL_law 19 = .ok (.astore_n 3, 1) := by decide +kernel
theorem dL_law_20 : decode cL_law 20 = .ok (.iconst 0, 1) := by decide +kernel
theorem dL_law_21 : decode cL_law 21 = .ok (.istore 4, 2) := by decide +kernel
theorem dL_law_23 : decode cL_law 23 = .ok (.iload 4, 2) := by decide +kernel
theorem dL_law_25 : decode cL_law 25 = .ok (.aload_n 0, 1) := by decide +kernel
theorem dL_law_26 : decode cL_law 26 = .ok (.arraylength, 1) := by decide +kernel
theorem dL_law_27 : decode cL_law 27 = .ok (.bipush 6, 2) := by decide +kernel
theorem dL_law_29 : decode cL_law 29 = .ok (.isub, 1) := by decide +kernel
theorem dL_law_30 : decode cL_law 30 = .ok (.if_icmp .gt 1427, 3) := by decide +kernel
theorem dL_law_33 : decode cL_law 33 = .ok (.aload_n 0, 1) := by decide +kernel
theorem dL_law_34 : decode cL_law 34 = .ok (.iload 4, 2) := by decide +kernel
theorem dL_law_36 : decode cL_law 36 = .ok (.iaload, 1) := by decide +kernel
theorem dL_law_37 : decode cL_law 37 = .ok (.bipush 63, 2) := by decide +kernel
theorem dL_law_39 : decode cL_law 39 = .ok (.iand, 1) := by decide +kernel
theorem dL_law_40 : decode cL_law 40 = .ok (.tableswitch 1411 0 34 #[156, 229, 254, 279, 316, 384, 421, 458, 507, 556, 605, 642, 667, 716, 729, 766, 803, 816, 853, 902, 951, 976, 1001, 1026, 1051, 1064, 1101, 1114, 1175, 1248, 1285, 1310, 1360, 1373, 1386], 156) := by decide +kernel
theorem dL_law_196 : decode cL_law 196 = .ok (.aload_n 1, 1) := by decide +kernel
theorem dL_law_197 : decode cL_law 197 = .ok (.aload_n 0, 1) := by decide +kernel
theorem dL_law_198 : decode cL_law 198 = .ok (.iload 4, 2) := by decide +kernel
theorem dL_law_200 : decode cL_law 200 = .ok (.iconst 1, 1) := by decide +kernel
theorem dL_law_201 : decode cL_law 201 = .ok (.iadd, 1) := by decide +kernel
theorem dL_law_202 : decode cL_law 202 = .ok (.iaload, 1) := by decide +kernel
theorem dL_law_203 : decode cL_law 203 = .ok (.aload_n 0, 1) := by decide +kernel
theorem dL_law_204 : decode cL_law 204 = .ok (.iload 4, 2) := by decide +kernel
theorem dL_law_206 : decode cL_law 206 = .ok (.iconst 2, 1) := by decide +kernel
theorem dL_law_207 : decode cL_law 207 = .ok (.iadd, 1) := by decide +kernel
theorem dL_law_208 : decode cL_law 208 = .ok (.iaload, 1) := by decide +kernel
theorem dL_law_209 : decode cL_law 209 = .ok (.aload_n 0, 1) := by decide +kernel
theorem dL_law_210 : decode cL_law 210 = .ok (.iload 4, 2) := by decide +kernel
theorem dL_law_212 : decode cL_law 212 = .ok (.iconst 3, 1) := by decide +kernel
theorem dL_law_213 : decode cL_law 213 = .ok (.iadd, 1) := by decide +kernel
theorem dL_law_214 : decode cL_law 214 = .ok (.iaload, 1) := by decide +kernel
theorem dL_law_215 : decode cL_law 215 = .ok (.aload_n 0, 1) := by decide +kernel
theorem dL_law_216 : decode cL_law 216 = .ok (.iload 4, 2) := by decide +kernel
theorem dL_law_218 : decode cL_law 218 = .ok (.iconst 4, 1) := by decide +kernel
theorem dL_law_219 : decode cL_law 219 = .ok (.iadd, 1) := by decide +kernel
theorem dL_law_220 : decode cL_law 220 = .ok (.iaload, 1) := by decide +kernel
theorem dL_law_221 : decode cL_law 221 = .ok (.aload_n 0, 1) := by decide +kernel
theorem dL_law_222 : decode cL_law 222 = .ok (.iload 4, 2) := by decide +kernel
theorem dL_law_224 : decode cL_law 224 = .ok (.iconst 5, 1) := by decide +kernel
theorem dL_law_225 : decode cL_law 225 = .ok (.iadd, 1) := by decide +kernel
theorem dL_law_226 : decode cL_law 226 = .ok (.iaload, 1) := by decide +kernel
theorem dL_law_227 : decode cL_law 227 = .ok (.invokevirtual 21, 3) := by decide +kernel
theorem dL_law_230 : decode cL_law 230 = .ok (.aload_n 2, 1) := by decide +kernel
theorem dL_law_231 : decode cL_law 231 = .ok (.aload_n 0, 1) := by decide +kernel
theorem dL_law_232 : decode cL_law 232 = .ok (.iload 4, 2) := by decide +kernel
theorem dL_law_234 : decode cL_law 234 = .ok (.iconst 1, 1) := by decide +kernel
theorem dL_law_235 : decode cL_law 235 = .ok (.iadd, 1) := by decide +kernel
theorem dL_law_236 : decode cL_law 236 = .ok (.iaload, 1) := by decide +kernel
theorem dL_law_237 : decode cL_law 237 = .ok (.aload_n 0, 1) := by decide +kernel
theorem dL_law_238 : decode cL_law 238 = .ok (.iload 4, 2) := by decide +kernel
theorem dL_law_240 : decode cL_law 240 = .ok (.iconst 2, 1) := by decide +kernel
theorem dL_law_241 : decode cL_law 241 = .ok (.iadd, 1) := by decide +kernel
theorem dL_law_242 : decode cL_law 242 = .ok (.iaload, 1) := by decide +kernel
theorem dL_law_243 : decode cL_law 243 = .ok (.aload_n 0, 1) := by decide +kernel
theorem dL_law_244 : decode cL_law 244 = .ok (.iload 4, 2) := by decide +kernel
theorem dL_law_246 : decode cL_law 246 = .ok (.iconst 3, 1) := by decide +kernel
theorem dL_law_247 : decode cL_law 247 = .ok (.iadd, 1) := by decide +kernel
theorem dL_law_248 : decode cL_law 248 = .ok (.iaload, 1) := by decide +kernel
theorem dL_law_249 : decode cL_law 249 = .ok (.aload_n 0, 1) := by decide +kernel
theorem dL_law_250 : decode cL_law 250 = .ok (.iload 4, 2) := by decide +kernel
theorem dL_law_252 : decode cL_law 252 = .ok (.iconst 4, 1) := by decide +kernel
theorem dL_law_253 : decode cL_law 253 = .ok (.iadd, 1) := by decide +kernel
theorem dL_law_254 : decode cL_law 254 = .ok (.iaload, 1) := by decide +kernel
theorem dL_law_255 : decode cL_law 255 = .ok (.aload_n 0, 1) := by decide +kernel
theorem dL_law_256 : decode cL_law 256 = .ok (.iload 4, 2) := by decide +kernel
theorem dL_law_258 : decode cL_law 258 = .ok (.iconst 5, 1) := by decide +kernel
theorem dL_law_259 : decode cL_law 259 = .ok (.iadd, 1) := by decide +kernel
theorem dL_law_260 : decode cL_law 260 = .ok (.iaload, 1) := by decide +kernel
theorem dL_law_261 : decode cL_law 261 = .ok (.invokevirtual 25, 3) := by decide +kernel
theorem dL_law_264 : decode cL_law 264 = .ok (.if_icmp .eq 1187, 3) := by decide +kernel
theorem dL_law_269 : decode cL_law 269 = .ok (.aload_n 1, 1) := by decide +kernel
theorem dL_law_270 : decode cL_law 270 = .ok (.aload_n 0, 1) := by decide +kernel
theorem dL_law_271 : decode cL_law 271 = .ok (.iload 4, 2) := by decide +kernel
theorem dL_law_273 : decode cL_law 273 = .ok (.iconst 1, 1) := by decide +kernel
theorem dL_law_274 : decode cL_law 274 = .ok (.iadd, 1) := by decide +kernel
theorem dL_law_275 : decode cL_law 275 = .ok (.iaload, 1) := by decide +kernel
theorem dL_law_276 : decode cL_law 276 = .ok (.invokevirtual 26, 3) := by decide +kernel
theorem dL_law_279 : decode cL_law 279 = .ok (.aload_n 2, 1) := by decide +kernel
theorem dL_law_280 : decode cL_law 280 = .ok (.aload_n 0, 1) := by decide +kernel
theorem dL_law_281 : decode cL_law 281 = .ok (.iload 4, 2) := by decide +kernel
theorem dL_law_283 : decode cL_law 283 = .ok (.iconst 1, 1) := by decide +kernel
theorem dL_law_284 : decode cL_law 284 = .ok (.iadd, 1) := by decide +kernel
theorem dL_law_285 : decode cL_law 285 = .ok (.iaload, 1) := by decide +kernel
theorem dL_law_286 : decode cL_law 286 = .ok (.invokevirtual 30, 3) := by decide +kernel
theorem dL_law_289 : decode cL_law 289 = .ok (.if_icmp .eq 1162, 3) := by decide +kernel
theorem dL_law_294 : decode cL_law 294 = .ok (.aload_n 1, 1) := by decide +kernel
theorem dL_law_295 : decode cL_law 295 = .ok (.aload_n 0, 1) := by decide +kernel
theorem dL_law_296 : decode cL_law 296 = .ok (.iload 4, 2) := by decide +kernel
theorem dL_law_298 : decode cL_law 298 = .ok (.iconst 1, 1) := by decide +kernel
theorem dL_law_299 : decode cL_law 299 = .ok (.iadd, 1) := by decide +kernel
theorem dL_law_300 : decode cL_law 300 = .ok (.iaload, 1) := by decide +kernel
theorem dL_law_301 : decode cL_law 301 = .ok (.invokevirtual 31, 3) := by decide +kernel
theorem dL_law_304 : decode cL_law 304 = .ok (.aload_n 2, 1) := by decide +kernel
theorem dL_law_305 : decode cL_law 305 = .ok (.aload_n 0, 1) := by decide +kernel
theorem dL_law_306 : decode cL_law 306 = .ok (.iload 4, 2) := by decide +kernel
theorem dL_law_308 : decode cL_law 308 = .ok (.iconst 1, 1) := by decide +kernel
theorem dL_law_309 : decode cL_law 309 = .ok (.iadd, 1) := by decide +kernel
theorem dL_law_310 : decode cL_law 310 = .ok (.iaload, 1) := by decide +kernel
theorem dL_law_311 : decode cL_law 311 = .ok (.invokevirtual 34, 3) := by decide +kernel
theorem dL_law_314 : decode cL_law 314 = .ok (.if_icmp .eq 1137, 3) := by decide +kernel
theorem dL_law_319 : decode cL_law 319 = .ok (.aload_n 1, 1) := by decide +kernel
theorem dL_law_320 : decode cL_law 320 = .ok (.aload_n 0, 1) := by decide +kernel
theorem dL_law_321 : decode cL_law 321 = .ok (.iload 4, 2) := by decide +kernel
theorem dL_law_323 : decode cL_law 323 = .ok (.iconst 1, 1) := by decide +kernel
theorem dL_law_324 : decode cL_law 324 = .ok (.iadd, 1) := by decide +kernel
theorem dL_law_325 : decode cL_law 325 = .ok (.iaload, 1) := by decide +kernel
theorem dL_law_326 : decode cL_law 326 = .ok (.aload_n 0, 1) := by decide +kernel
theorem dL_law_327 : decode cL_law 327 = .ok (.iload 4, 2) := by decide +kernel
theorem dL_law_329 : decode cL_law 329 = .ok (.iconst 2, 1) := by decide +kernel
theorem dL_law_330 : decode cL_law 330 = .ok (.iadd, 1) := by decide +kernel
theorem dL_law_331 : decode cL_law 331 = .ok (.iaload, 1) := by decide +kernel
theorem dL_law_332 : decode cL_law 332 = .ok (.invokevirtual 35, 3) := by decide +kernel
theorem dL_law_335 : decode cL_law 335 = .ok (.aload_n 2, 1) := by decide +kernel
theorem dL_law_336 : decode cL_law 336 = .ok (.aload_n 0, 1) := by decide +kernel
theorem dL_law_337 : decode cL_law 337 = .ok (.iload 4, 2) := by decide +kernel
theorem dL_law_339 : decode cL_law 339 = .ok (.iconst 1, 1) := by decide +kernel
theorem dL_law_340 : decode cL_law 340 = .ok (.iadd, 1) := by decide +kernel
theorem dL_law_341 : decode cL_law 341 = .ok (.iaload, 1) := by decide +kernel
theorem dL_law_342 : decode cL_law 342 = .ok (.aload_n 0, 1) := by decide +kernel
theorem dL_law_343 : decode cL_law 343 = .ok (.iload 4, 2) := by decide +kernel
theorem dL_law_345 : decode cL_law 345 = .ok (.iconst 2, 1) := by decide +kernel
theorem dL_law_346 : decode cL_law 346 = .ok (.iadd, 1) := by decide +kernel
theorem dL_law_347 : decode cL_law 347 = .ok (.iaload, 1) := by decide +kernel
theorem dL_law_348 : decode cL_law 348 = .ok (.invokevirtual 38, 3) := by decide +kernel
theorem dL_law_351 : decode cL_law 351 = .ok (.if_icmp .eq 1100, 3) := by decide +kernel
theorem dL_law_356 : decode cL_law 356 = .ok (.aload_n 1, 1) := by decide +kernel
theorem dL_law_357 : decode cL_law 357 = .ok (.aload_n 0, 1) := by decide +kernel
theorem dL_law_358 : decode cL_law 358 = .ok (.iload 4, 2) := by decide +kernel
theorem dL_law_360 : decode cL_law 360 = .ok (.iconst 1, 1) := by decide +kernel
theorem dL_law_361 : decode cL_law 361 = .ok (.iadd, 1) := by decide +kernel
theorem dL_law_362 : decode cL_law 362 = .ok (.iaload, 1) := by decide +kernel
theorem dL_law_363 : decode cL_law 363 = .ok (.aload_n 0, 1) := by decide +kernel
theorem dL_law_364 : decode cL_law 364 = .ok (.iload 4, 2) := by decide +kernel
theorem dL_law_366 : decode cL_law 366 = .ok (.iconst 2, 1) := by decide +kernel
theorem dL_law_367 : decode cL_law 367 = .ok (.iadd, 1) := by decide +kernel
theorem dL_law_368 : decode cL_law 368 = .ok (.iaload, 1) := by decide +kernel
theorem dL_law_369 : decode cL_law 369 = .ok (.aload_n 3, 1) := by decide +kernel
theorem dL_law_373 : decode cL_law 373 = .ok (.istore 5, 2) := by decide +kernel
theorem dL_law_375 : decode cL_law 375 = .ok (.aload_n 2, 1) := by decide +kernel
theorem dL_law_376 : decode cL_law 376 = .ok (.aload_n 0, 1) := by decide +kernel
theorem dL_law_377 : decode cL_law 377 = .ok (.iload 4, 2) := by decide +kernel
theorem dL_law_379 : decode cL_law 379 = .ok (.iconst 1, 1) := by decide +kernel
theorem dL_law_380 : decode cL_law 380 = .ok (.iadd, 1) := by decide +kernel
theorem dL_law_381 : decode cL_law 381 = .ok (.iaload, 1) := by decide +kernel
theorem dL_law_382 : decode cL_law 382 = .ok (.aload_n 0, 1) := by decide +kernel
theorem dL_law_383 : decode cL_law 383 = .ok (.iload 4, 2) := by decide +kernel
theorem dL_law_385 : decode cL_law 385 = .ok (.iconst 2, 1) := by decide +kernel
theorem dL_law_386 : decode cL_law 386 = .ok (.iadd, 1) := by decide +kernel
theorem dL_law_387 : decode cL_law 387 = .ok (.iaload, 1) := by decide +kernel
theorem dL_law_388 : decode cL_law 388 = .ok (.invokevirtual 44, 3) := by decide +kernel
theorem dL_law_391 : decode cL_law 391 = .ok (.istore 6, 2) := by decide +kernel
theorem dL_law_393 : decode cL_law 393 = .ok (.aload_n 2, 1) := by decide +kernel
theorem dL_law_394 : decode cL_law 394 = .ok (.invokevirtual 45, 3) := by decide +kernel
theorem dL_law_397 : decode cL_law 397 = .ok (.iload 5, 2) := by decide +kernel
theorem dL_law_399 : decode cL_law 399 = .ok (.if_icmp .eq 5, 3) := by decide +kernel
theorem dL_law_404 : decode cL_law 404 = .ok (.iload 5, 2) := by decide +kernel
theorem dL_law_406 : decode cL_law 406 = .ok (.ifCond .ne 15, 3) := by decide +kernel
theorem dL_law_421 : decode cL_law 421 = .ok (.goto 1030, 3) := by decide +kernel
theorem dL_law_424 : decode cL_law 424 = .ok (.aload_n 1, 1) := by decide +kernel
theorem dL_law_425 : decode cL_law 425 = .ok (.aload_n 0, 1) := by decide +kernel
theorem dL_law_426 : decode cL_law 426 = .ok (.iload 4, 2) := by decide +kernel
theorem dL_law_428 : decode cL_law 428 = .ok (.iconst 1, 1) := by decide +kernel
theorem dL_law_429 : decode cL_law 429 = .ok (.iadd, 1) := by decide +kernel
theorem dL_law_430 : decode cL_law 430 = .ok (.iaload, 1) := by decide +kernel
theorem dL_law_431 : decode cL_law 431 = .ok (.aload_n 0, 1) := by decide +kernel
theorem dL_law_432 : decode cL_law 432 = .ok (.iload 4, 2) := by decide +kernel
theorem dL_law_434 : decode cL_law 434 = .ok (.iconst 2, 1) := by decide +kernel
theorem dL_law_435 : decode cL_law 435 = .ok (.iadd, 1) := by decide +kernel
theorem dL_law_436 : decode cL_law 436 = .ok (.iaload, 1) := by decide +kernel
theorem dL_law_437 : decode cL_law 437 = .ok (.invokevirtual 49, 3) := by decide +kernel
theorem dL_law_440 : decode cL_law 440 = .ok (.aload_n 2, 1) := by decide +kernel
theorem dL_law_441 : decode cL_law 441 = .ok (.aload_n 0, 1) := by decide +kernel
theorem dL_law_442 : decode cL_law 442 = .ok (.iload 4, 2) := by decide +kernel
theorem dL_law_444 : decode cL_law 444 = .ok (.iconst 1, 1) := by decide +kernel
theorem dL_law_445 : decode cL_law 445 = .ok (.iadd, 1) := by decide +kernel
theorem dL_law_446 : decode cL_law 446 = .ok (.iaload, 1) := by decide +kernel
theorem dL_law_447 : decode cL_law 447 = .ok (.aload_n 0, 1) := by decide +kernel
theorem dL_law_448 : decode cL_law 448 = .ok (.iload 4, 2) := by decide +kernel
theorem dL_law_450 : decode cL_law 450 = .ok (.iconst 2, 1) := by decide +kernel
theorem dL_law_451 : decode cL_law 451 = .ok (.iadd, 1) := by decide +kernel
theorem dL_law_452 : decode cL_law 452 = .ok (.iaload, 1) := by decide +kernel
theorem dL_law_453 : decode cL_law 453 = .ok (.invokevirtual 52, 3) := by decide +kernel
theorem dL_law_456 : decode cL_law 456 = .ok (.if_icmp .eq 995, 3) := by decide +kernel
theorem dL_law_461 : decode cL_law 461 = .ok (.aload_n 1, 1) := by decide +kernel
theorem dL_law_462 : decode cL_law 462 = .ok (.aload_n 0, 1) := by decide +kernel
theorem dL_law_463 : decode cL_law 463 = .ok (.iload 4, 2) := by decide +kernel
theorem dL_law_465 : decode cL_law 465 = .ok (.iconst 1, 1) := by decide +kernel
theorem dL_law_466 : decode cL_law 466 = .ok (.iadd, 1) := by decide +kernel
theorem dL_law_467 : decode cL_law 467 = .ok (.iaload, 1) := by decide +kernel
theorem dL_law_468 : decode cL_law 468 = .ok (.aload_n 0, 1) := by decide +kernel
theorem dL_law_469 : decode cL_law 469 = .ok (.iload 4, 2) := by decide +kernel
theorem dL_law_471 : decode cL_law 471 = .ok (.iconst 2, 1) := by decide +kernel
theorem dL_law_472 : decode cL_law 472 = .ok (.iadd, 1) := by decide +kernel
theorem dL_law_473 : decode cL_law 473 = .ok (.iaload, 1) := by decide +kernel
theorem dL_law_474 : decode cL_law 474 = .ok (.invokevirtual 53, 3) := by decide +kernel
theorem dL_law_477 : decode cL_law 477 = .ok (.aload_n 2, 1) := by decide +kernel
theorem dL_law_478 : decode cL_law 478 = .ok (.aload_n 0, 1) := by decide +kernel
theorem dL_law_479 : decode cL_law 479 = .ok (.iload 4, 2) := by decide +kernel
theorem dL_law_481 : decode cL_law 481 = .ok (.iconst 1, 1) := by decide +kernel
theorem dL_law_482 : decode cL_law 482 = .ok (.iadd, 1) := by decide +kernel
theorem dL_law_483 : decode cL_law 483 = .ok (.iaload, 1) := by decide +kernel
theorem dL_law_484 : decode cL_law 484 = .ok (.aload_n 0, 1) := by decide +kernel
theorem dL_law_485 : decode cL_law 485 = .ok (.iload 4, 2) := by decide +kernel
theorem dL_law_487 : decode cL_law 487 = .ok (.iconst 2, 1) := by decide +kernel
theorem dL_law_488 : decode cL_law 488 = .ok (.iadd, 1) := by decide +kernel
theorem dL_law_489 : decode cL_law 489 = .ok (.iaload, 1) := by decide +kernel
theorem dL_law_490 : decode cL_law 490 = .ok (.invokevirtual 56, 3) := by decide +kernel
theorem dL_law_493 : decode cL_law 493 = .ok (.if_icmp .eq 958, 3) := by decide +kernel
theorem dL_law_498 : decode cL_law 498 = .ok (.aload_n 1, 1) := by decide +kernel
theorem dL_law_499 : decode cL_law 499 = .ok (.aload_n 0, 1) := by decide +kernel
theorem dL_law_500 : decode cL_law 500 = .ok (.iload 4, 2) := by decide +kernel
theorem dL_law_502 : decode cL_law 502 = .ok (.iconst 1, 1) := by decide +kernel
theorem dL_law_503 : decode cL_law 503 = .ok (.iadd, 1) := by decide +kernel
theorem dL_law_504 : decode cL_law 504 = .ok (.iaload, 1) := by decide +kernel
theorem dL_law_505 : decode cL_law 505 = .ok (.aload_n 0, 1) := by decide +kernel
theorem dL_law_506 : decode cL_law 506 = .ok (.iload 4, 2) := by decide +kernel
theorem dL_law_508 : decode cL_law 508 = .ok (.iconst 2, 1) := by decide +kernel
theorem dL_law_509 : decode cL_law 509 = .ok (.iadd, 1) := by decide +kernel
theorem dL_law_510 : decode cL_law 510 = .ok (.iaload, 1) := by decide +kernel
theorem dL_law_511 : decode cL_law 511 = .ok (.aload_n 0, 1) := by decide +kernel
theorem dL_law_512 : decode cL_law 512 = .ok (.iload 4, 2) := by decide +kernel
theorem dL_law_514 : decode cL_law 514 = .ok (.iconst 3, 1) := by decide +kernel
theorem dL_law_515 : decode cL_law 515 = .ok (.iadd, 1) := by decide +kernel
theorem dL_law_516 : decode cL_law 516 = .ok (.iaload, 1) := by decide +kernel
theorem dL_law_517 : decode cL_law 517 = .ok (.invokevirtual 57, 3) := by decide +kernel
theorem dL_law_520 : decode cL_law 520 = .ok (.aload_n 2, 1) := by decide +kernel
theorem dL_law_521 : decode cL_law 521 = .ok (.aload_n 0, 1) := by decide +kernel
theorem dL_law_522 : decode cL_law 522 = .ok (.iload 4, 2) := by decide +kernel
theorem dL_law_524 : decode cL_law 524 = .ok (.iconst 1, 1) := by decide +kernel
theorem dL_law_525 : decode cL_law 525 = .ok (.iadd, 1) := by decide +kernel
theorem dL_law_526 : decode cL_law 526 = .ok (.iaload, 1) := by decide +kernel
theorem dL_law_527 : decode cL_law 527 = .ok (.aload_n 0, 1) := by decide +kernel
theorem dL_law_528 : decode cL_law 528 = .ok (.iload 4, 2) := by decide +kernel
theorem dL_law_530 : decode cL_law 530 = .ok (.iconst 2, 1) := by decide +kernel
theorem dL_law_531 : decode cL_law 531 = .ok (.iadd, 1) := by decide +kernel
theorem dL_law_532 : decode cL_law 532 = .ok (.iaload, 1) := by decide +kernel
theorem dL_law_533 : decode cL_law 533 = .ok (.aload_n 0, 1) := by decide +kernel
theorem dL_law_534 : decode cL_law 534 = .ok (.iload 4, 2) := by decide +kernel
theorem dL_law_536 : decode cL_law 536 = .ok (.iconst 3, 1) := by decide +kernel
theorem dL_law_537 : decode cL_law 537 = .ok (.iadd, 1) := by decide +kernel
theorem dL_law_538 : decode cL_law 538 = .ok (.iaload, 1) := by decide +kernel
theorem dL_law_539 : decode cL_law 539 = .ok (.invokevirtual 61, 3) := by decide +kernel
theorem dL_law_542 : decode cL_law 542 = .ok (.if_icmp .eq 909, 3) := by decide +kernel
theorem dL_law_547 : decode cL_law 547 = .ok (.aload_n 1, 1) := by decide +kernel
theorem dL_law_548 : decode cL_law 548 = .ok (.aload_n 0, 1) := by decide +kernel
theorem dL_law_549 : decode cL_law 549 = .ok (.iload 4, 2) := by decide +kernel
theorem dL_law_551 : decode cL_law 551 = .ok (.iconst 1, 1) := by decide +kernel
theorem dL_law_552 : decode cL_law 552 = .ok (.iadd, 1) := by decide +kernel
theorem dL_law_553 : decode cL_law 553 = .ok (.iaload, 1) := by decide +kernel
theorem dL_law_554 : decode cL_law 554 = .ok (.aload_n 0, 1) := by decide +kernel
theorem dL_law_555 : decode cL_law 555 = .ok (.iload 4, 2) := by decide +kernel
theorem dL_law_557 : decode cL_law 557 = .ok (.iconst 2, 1) := by decide +kernel
theorem dL_law_558 : decode cL_law 558 = .ok (.iadd, 1) := by decide +kernel
theorem dL_law_559 : decode cL_law 559 = .ok (.iaload, 1) := by decide +kernel
theorem dL_law_560 : decode cL_law 560 = .ok (.aload_n 0, 1) := by decide +kernel
theorem dL_law_561 : decode cL_law 561 = .ok (.iload 4, 2) := by decide +kernel
theorem dL_law_563 : decode cL_law 563 = .ok (.iconst 3, 1) := by decide +kernel
theorem dL_law_564 : decode cL_law 564 = .ok (.iadd, 1) := by decide +kernel
theorem dL_law_565 : decode cL_law 565 = .ok (.iaload, 1) := by decide +kernel
theorem dL_law_566 : decode cL_law 566 = .ok (.invokevirtual 62, 3) := by decide +kernel
theorem dL_law_569 : decode cL_law 569 = .ok (.aload_n 2, 1) := by decide +kernel
theorem dL_law_570 : decode cL_law 570 = .ok (.aload_n 0, 1) := by decide +kernel
theorem dL_law_571 : decode cL_law 571 = .ok (.iload 4, 2) := by decide +kernel
theorem dL_law_573 : decode cL_law 573 = .ok (.iconst 1, 1) := by decide +kernel
theorem dL_law_574 : decode cL_law 574 = .ok (.iadd, 1) := by decide +kernel
theorem dL_law_575 : decode cL_law 575 = .ok (.iaload, 1) := by decide +kernel
theorem dL_law_576 : decode cL_law 576 = .ok (.aload_n 0, 1) := by decide +kernel
theorem dL_law_577 : decode cL_law 577 = .ok (.iload 4, 2) := by decide +kernel
theorem dL_law_579 : decode cL_law 579 = .ok (.iconst 2, 1) := by decide +kernel
theorem dL_law_580 : decode cL_law 580 = .ok (.iadd, 1) := by decide +kernel
theorem dL_law_581 : decode cL_law 581 = .ok (.iaload, 1) := by decide +kernel
theorem dL_law_582 : decode cL_law 582 = .ok (.aload_n 0, 1) := by decide +kernel
theorem dL_law_583 : decode cL_law 583 = .ok (.iload 4, 2) := by decide +kernel
theorem dL_law_585 : decode cL_law 585 = .ok (.iconst 3, 1) := by decide +kernel
theorem dL_law_586 : decode cL_law 586 = .ok (.iadd, 1) := by decide +kernel
theorem dL_law_587 : decode cL_law 587 = .ok (.iaload, 1) := by decide +kernel
theorem dL_law_588 : decode cL_law 588 = .ok (.invokevirtual 65, 3) := by decide +kernel
theorem dL_law_591 : decode cL_law 591 = .ok (.if_icmp .eq 860, 3) := by decide +kernel
theorem dL_law_596 : decode cL_law 596 = .ok (.aload_n 1, 1) := by decide +kernel
theorem dL_law_597 : decode cL_law 597 = .ok (.aload_n 0, 1) := by decide +kernel
theorem dL_law_598 : decode cL_law 598 = .ok (.iload 4, 2) := by decide +kernel
theorem dL_law_600 : decode cL_law 600 = .ok (.iconst 1, 1) := by decide +kernel
theorem dL_law_601 : decode cL_law 601 = .ok (.iadd, 1) := by decide +kernel
theorem dL_law_602 : decode cL_law 602 = .ok (.iaload, 1) := by decide +kernel
theorem dL_law_603 : decode cL_law 603 = .ok (.aload_n 0, 1) := by decide +kernel
theorem dL_law_604 : decode cL_law 604 = .ok (.iload 4, 2) := by decide +kernel
theorem dL_law_606 : decode cL_law 606 = .ok (.iconst 2, 1) := by decide +kernel
theorem dL_law_607 : decode cL_law 607 = .ok (.iadd, 1) := by decide +kernel
theorem dL_law_608 : decode cL_law 608 = .ok (.iaload, 1) := by decide +kernel
theorem dL_law_609 : decode cL_law 609 = .ok (.aload_n 0, 1) := by decide +kernel
theorem dL_law_610 : decode cL_law 610 = .ok (.iload 4, 2) := by decide +kernel
theorem dL_law_612 : decode cL_law 612 = .ok (.iconst 3, 1) := by decide +kernel
theorem dL_law_613 : decode cL_law 613 = .ok (.iadd, 1) := by decide +kernel
theorem dL_law_614 : decode cL_law 614 = .ok (.iaload, 1) := by decide +kernel
theorem dL_law_615 : decode cL_law 615 = .ok (.invokevirtual 66, 3) := by decide +kernel
theorem dL_law_618 : decode cL_law 618 = .ok (.aload_n 2, 1) := by decide +kernel
theorem dL_law_619 : decode cL_law 619 = .ok (.aload_n 0, 1) := by decide +kernel
theorem dL_law_620 : decode cL_law 620 = .ok (.iload 4, 2) := by decide +kernel
theorem dL_law_622 : decode cL_law 622 = .ok (.iconst 1, 1) := by decide +kernel
theorem dL_law_623 : decode cL_law 623 = .ok (.iadd, 1) := by decide +kernel
theorem dL_law_624 : decode cL_law 624 = .ok (.iaload, 1) := by decide +kernel
theorem dL_law_625 : decode cL_law 625 = .ok (.aload_n 0, 1) := by decide +kernel
theorem dL_law_626 : decode cL_law 626 = .ok (.iload 4, 2) := by decide +kernel
theorem dL_law_628 : decode cL_law 628 = .ok (.iconst 2, 1) := by decide +kernel
theorem dL_law_629 : decode cL_law 629 = .ok (.iadd, 1) := by decide +kernel
theorem dL_law_630 : decode cL_law 630 = .ok (.iaload, 1) := by decide +kernel
theorem dL_law_631 : decode cL_law 631 = .ok (.aload_n 0, 1) := by decide +kernel
theorem dL_law_632 : decode cL_law 632 = .ok (.iload 4, 2) := by decide +kernel
theorem dL_law_634 : decode cL_law 634 = .ok (.iconst 3, 1) := by decide +kernel
theorem dL_law_635 : decode cL_law 635 = .ok (.iadd, 1) := by decide +kernel
theorem dL_law_636 : decode cL_law 636 = .ok (.iaload, 1) := by decide +kernel
theorem dL_law_637 : decode cL_law 637 = .ok (.invokevirtual 69, 3) := by decide +kernel
theorem dL_law_640 : decode cL_law 640 = .ok (.if_icmp .eq 811, 3) := by decide +kernel
theorem dL_law_645 : decode cL_law 645 = .ok (.aload_n 1, 1) := by decide +kernel
theorem dL_law_646 : decode cL_law 646 = .ok (.aload_n 0, 1) := by decide +kernel
theorem dL_law_647 : decode cL_law 647 = .ok (.iload 4, 2) := by decide +kernel
theorem dL_law_649 : decode cL_law 649 = .ok (.iconst 1, 1) := by decide +kernel
theorem dL_law_650 : decode cL_law 650 = .ok (.iadd, 1) := by decide +kernel
theorem dL_law_651 : decode cL_law 651 = .ok (.iaload, 1) := by decide +kernel
theorem dL_law_652 : decode cL_law 652 = .ok (.aload_n 0, 1) := by decide +kernel
theorem dL_law_653 : decode cL_law 653 = .ok (.iload 4, 2) := by decide +kernel
theorem dL_law_655 : decode cL_law 655 = .ok (.iconst 2, 1) := by decide +kernel
theorem dL_law_656 : decode cL_law 656 = .ok (.iadd, 1) := by decide +kernel
theorem dL_law_657 : decode cL_law 657 = .ok (.iaload, 1) := by decide +kernel
theorem dL_law_658 : decode cL_law 658 = .ok (.invokevirtual 70, 3) := by decide +kernel
theorem dL_law_661 : decode cL_law 661 = .ok (.aload_n 2, 1) := by decide +kernel
theorem dL_law_662 : decode cL_law 662 = .ok (.aload_n 0, 1) := by decide +kernel
theorem dL_law_663 : decode cL_law 663 = .ok (.iload 4, 2) := by decide +kernel
theorem dL_law_665 : decode cL_law 665 = .ok (.iconst 1, 1) := by decide +kernel
theorem dL_law_666 : decode cL_law 666 = .ok (.iadd, 1) := by decide +kernel
theorem dL_law_667 : decode cL_law 667 = .ok (.iaload, 1) := by decide +kernel
theorem dL_law_668 : decode cL_law 668 = .ok (.aload_n 0, 1) := by decide +kernel
theorem dL_law_669 : decode cL_law 669 = .ok (.iload 4, 2) := by decide +kernel
theorem dL_law_671 : decode cL_law 671 = .ok (.iconst 2, 1) := by decide +kernel
theorem dL_law_672 : decode cL_law 672 = .ok (.iadd, 1) := by decide +kernel
theorem dL_law_673 : decode cL_law 673 = .ok (.iaload, 1) := by decide +kernel
theorem dL_law_674 : decode cL_law 674 = .ok (.invokevirtual 73, 3) := by decide +kernel
theorem dL_law_677 : decode cL_law 677 = .ok (.if_icmp .eq 774, 3) := by decide +kernel
theorem dL_law_682 : decode cL_law 682 = .ok (.aload_n 1, 1) := by decide +kernel
theorem dL_law_683 : decode cL_law 683 = .ok (.aload_n 0, 1) := by decide +kernel
theorem dL_law_684 : decode cL_law 684 = .ok (.iload 4, 2) := by decide +kernel
theorem dL_law_686 : decode cL_law 686 = .ok (.iconst 1, 1) := by decide +kernel
theorem dL_law_687 : decode cL_law 687 = .ok (.iadd, 1) := by decide +kernel
theorem dL_law_688 : decode cL_law 688 = .ok (.iaload, 1) := by decide +kernel
theorem dL_law_689 : decode cL_law 689 = .ok (.invokevirtual 74, 3) := by decide +kernel
theorem dL_law_692 : decode cL_law 692 = .ok (.aload_n 2, 1) := by decide +kernel
theorem dL_law_693 : decode cL_law 693 = .ok (.aload_n 0, 1) := by decide +kernel
theorem dL_law_694 : decode cL_law 694 = .ok (.iload 4, 2) := by decide +kernel
theorem dL_law_696 : decode cL_law 696 = .ok (.iconst 1, 1) := by decide +kernel
theorem dL_law_697 : decode cL_law 697 = .ok (.iadd, 1) := by decide +kernel
theorem dL_law_698 : decode cL_law 698 = .ok (.iaload, 1) := by decide +kernel
theorem dL_law_699 : decode cL_law 699 = .ok (.invokevirtual 77, 3) := by decide +kernel
theorem dL_law_702 : decode cL_law 702 = .ok (.if_icmp .eq 749, 3) := by decide +kernel
theorem dL_law_707 : decode cL_law 707 = .ok (.aload_n 1, 1) := by decide +kernel
theorem dL_law_708 : decode cL_law 708 = .ok (.aload_n 0, 1) := by decide +kernel
theorem dL_law_709 : decode cL_law 709 = .ok (.iload 4, 2) := by decide +kernel
theorem dL_law_711 : decode cL_law 711 = .ok (.iconst 1, 1) := by decide +kernel
theorem dL_law_712 : decode cL_law 712 = .ok (.iadd, 1) := by decide +kernel
theorem dL_law_713 : decode cL_law 713 = .ok (.iaload, 1) := by decide +kernel
theorem dL_law_714 : decode cL_law 714 = .ok (.aload_n 0, 1) := by decide +kernel
theorem dL_law_715 : decode cL_law 715 = .ok (.iload 4, 2) := by decide +kernel
theorem dL_law_717 : decode cL_law 717 = .ok (.iconst 2, 1) := by decide +kernel
theorem dL_law_718 : decode cL_law 718 = .ok (.iadd, 1) := by decide +kernel
theorem dL_law_719 : decode cL_law 719 = .ok (.iaload, 1) := by decide +kernel
theorem dL_law_720 : decode cL_law 720 = .ok (.aload_n 0, 1) := by decide +kernel
theorem dL_law_721 : decode cL_law 721 = .ok (.iload 4, 2) := by decide +kernel
theorem dL_law_723 : decode cL_law 723 = .ok (.iconst 3, 1) := by decide +kernel
theorem dL_law_724 : decode cL_law 724 = .ok (.iadd, 1) := by decide +kernel
theorem dL_law_725 : decode cL_law 725 = .ok (.iaload, 1) := by decide +kernel
theorem dL_law_726 : decode cL_law 726 = .ok (.invokevirtual 78, 3) := by decide +kernel
theorem dL_law_729 : decode cL_law 729 = .ok (.aload_n 2, 1) := by decide +kernel
theorem dL_law_730 : decode cL_law 730 = .ok (.aload_n 0, 1) := by decide +kernel
theorem dL_law_731 : decode cL_law 731 = .ok (.iload 4, 2) := by decide +kernel
theorem dL_law_733 : decode cL_law 733 = .ok (.iconst 1, 1) := by decide +kernel
theorem dL_law_734 : decode cL_law 734 = .ok (.iadd, 1) := by decide +kernel
theorem dL_law_735 : decode cL_law 735 = .ok (.iaload, 1) := by decide +kernel
theorem dL_law_736 : decode cL_law 736 = .ok (.aload_n 0, 1) := by decide +kernel
theorem dL_law_737 : decode cL_law 737 = .ok (.iload 4, 2) := by decide +kernel
theorem dL_law_739 : decode cL_law 739 = .ok (.iconst 2, 1) := by decide +kernel
theorem dL_law_740 : decode cL_law 740 = .ok (.iadd, 1) := by decide +kernel
theorem dL_law_741 : decode cL_law 741 = .ok (.iaload, 1) := by decide +kernel
theorem dL_law_742 : decode cL_law 742 = .ok (.aload_n 0, 1) := by decide +kernel
theorem dL_law_743 : decode cL_law 743 = .ok (.iload 4, 2) := by decide +kernel
theorem dL_law_745 : decode cL_law 745 = .ok (.iconst 3, 1) := by decide +kernel
theorem dL_law_746 : decode cL_law 746 = .ok (.iadd, 1) := by decide +kernel
theorem dL_law_747 : decode cL_law 747 = .ok (.iaload, 1) := by decide +kernel
theorem dL_law_748 : decode cL_law 748 = .ok (.invokevirtual 81, 3) := by decide +kernel
theorem dL_law_751 : decode cL_law 751 = .ok (.if_icmp .eq 700, 3) := by decide +kernel
theorem dL_law_756 : decode cL_law 756 = .ok (.aload_n 1, 1) := by decide +kernel
theorem dL_law_757 : decode cL_law 757 = .ok (.invokevirtual 82, 3) := by decide +kernel
theorem dL_law_760 : decode cL_law 760 = .ok (.aload_n 2, 1) := by decide +kernel
theorem dL_law_761 : decode cL_law 761 = .ok (.invokevirtual 85, 3) := by decide +kernel
theorem dL_law_764 : decode cL_law 764 = .ok (.if_icmp .eq 687, 3) := by decide +kernel
theorem dL_law_769 : decode cL_law 769 = .ok (.aload_n 1, 1) := by decide +kernel
theorem dL_law_770 : decode cL_law 770 = .ok (.aload_n 0, 1) := by decide +kernel
theorem dL_law_771 : decode cL_law 771 = .ok (.iload 4, 2) := by decide +kernel
theorem dL_law_773 : decode cL_law 773 = .ok (.iconst 1, 1) := by decide +kernel
theorem dL_law_774 : decode cL_law 774 = .ok (.iadd, 1) := by decide +kernel
theorem dL_law_775 : decode cL_law 775 = .ok (.iaload, 1) := by decide +kernel
theorem dL_law_776 : decode cL_law 776 = .ok (.aload_n 0, 1) := by decide +kernel
theorem dL_law_777 : decode cL_law 777 = .ok (.iload 4, 2) := by decide +kernel
theorem dL_law_779 : decode cL_law 779 = .ok (.iconst 2, 1) := by decide +kernel
theorem dL_law_780 : decode cL_law 780 = .ok (.iadd, 1) := by decide +kernel
theorem dL_law_781 : decode cL_law 781 = .ok (.iaload, 1) := by decide +kernel
theorem dL_law_782 : decode cL_law 782 = .ok (.invokevirtual 86, 3) := by decide +kernel
theorem dL_law_785 : decode cL_law 785 = .ok (.aload_n 2, 1) := by decide +kernel
theorem dL_law_786 : decode cL_law 786 = .ok (.aload_n 0, 1) := by decide +kernel
theorem dL_law_787 : decode cL_law 787 = .ok (.iload 4, 2) := by decide +kernel
theorem dL_law_789 : decode cL_law 789 = .ok (.iconst 1, 1) := by decide +kernel
theorem dL_law_790 : decode cL_law 790 = .ok (.iadd, 1) := by decide +kernel
theorem dL_law_791 : decode cL_law 791 = .ok (.iaload, 1) := by decide +kernel
theorem dL_law_792 : decode cL_law 792 = .ok (.aload_n 0, 1) := by decide +kernel
theorem dL_law_793 : decode cL_law 793 = .ok (.iload 4, 2) := by decide +kernel
theorem dL_law_795 : decode cL_law 795 = .ok (.iconst 2, 1) := by decide +kernel
theorem dL_law_796 : decode cL_law 796 = .ok (.iadd, 1) := by decide +kernel
theorem dL_law_797 : decode cL_law 797 = .ok (.iaload, 1) := by decide +kernel
theorem dL_law_798 : decode cL_law 798 = .ok (.invokevirtual 89, 3) := by decide +kernel
theorem dL_law_801 : decode cL_law 801 = .ok (.if_icmp .eq 650, 3) := by decide +kernel
theorem dL_law_806 : decode cL_law 806 = .ok (.aload_n 1, 1) := by decide +kernel
theorem dL_law_807 : decode cL_law 807 = .ok (.aload_n 0, 1) := by decide +kernel
theorem dL_law_808 : decode cL_law 808 = .ok (.iload 4, 2) := by decide +kernel
theorem dL_law_810 : decode cL_law 810 = .ok (.iconst 1, 1) := by decide +kernel
theorem dL_law_811 : decode cL_law 811 = .ok (.iadd, 1) := by decide +kernel
theorem dL_law_812 : decode cL_law 812 = .ok (.iaload, 1) := by decide +kernel
theorem dL_law_813 : decode cL_law 813 = .ok (.aload_n 0, 1) := by decide +kernel
theorem dL_law_814 : decode cL_law 814 = .ok (.iload 4, 2) := by decide +kernel
theorem dL_law_816 : decode cL_law 816 = .ok (.iconst 2, 1) := by decide +kernel
theorem dL_law_817 : decode cL_law 817 = .ok (.iadd, 1) := by decide +kernel
theorem dL_law_818 : decode cL_law 818 = .ok (.iaload, 1) := by decide +kernel
theorem dL_law_819 : decode cL_law 819 = .ok (.invokevirtual 90, 3) := by decide +kernel
theorem dL_law_822 : decode cL_law 822 = .ok (.aload_n 2, 1) := by decide +kernel
theorem dL_law_823 : decode cL_law 823 = .ok (.aload_n 0, 1) := by decide +kernel
theorem dL_law_824 : decode cL_law 824 = .ok (.iload 4, 2) := by decide +kernel
theorem dL_law_826 : decode cL_law 826 = .ok (.iconst 1, 1) := by decide +kernel
theorem dL_law_827 : decode cL_law 827 = .ok (.iadd, 1) := by decide +kernel
theorem dL_law_828 : decode cL_law 828 = .ok (.iaload, 1) := by decide +kernel
theorem dL_law_829 : decode cL_law 829 = .ok (.aload_n 0, 1) := by decide +kernel
theorem dL_law_830 : decode cL_law 830 = .ok (.iload 4, 2) := by decide +kernel
theorem dL_law_832 : decode cL_law 832 = .ok (.iconst 2, 1) := by decide +kernel
theorem dL_law_833 : decode cL_law 833 = .ok (.iadd, 1) := by decide +kernel
theorem dL_law_834 : decode cL_law 834 = .ok (.iaload, 1) := by decide +kernel
theorem dL_law_835 : decode cL_law 835 = .ok (.invokevirtual 93, 3) := by decide +kernel
theorem dL_law_838 : decode cL_law 838 = .ok (.if_icmp .eq 613, 3) := by decide +kernel
theorem dL_law_843 : decode cL_law 843 = .ok (.aload_n 1, 1) := by decide +kernel
theorem dL_law_844 : decode cL_law 844 = .ok (.invokevirtual 94, 3) := by decide +kernel
theorem dL_law_847 : decode cL_law 847 = .ok (.aload_n 2, 1) := by decide +kernel
theorem dL_law_848 : decode cL_law 848 = .ok (.invokevirtual 97, 3) := by decide +kernel
theorem dL_law_851 : decode cL_law 851 = .ok (.if_icmp .eq 600, 3) := by decide +kernel
theorem dL_law_856 : decode cL_law 856 = .ok (.aload_n 1, 1) := by decide +kernel
theorem dL_law_857 : decode cL_law 857 = .ok (.aload_n 0, 1) := by decide +kernel
theorem dL_law_858 : decode cL_law 858 = .ok (.iload 4, 2) := by decide +kernel
theorem dL_law_860 : decode cL_law 860 = .ok (.iconst 1, 1) := by decide +kernel
theorem dL_law_861 : decode cL_law 861 = .ok (.iadd, 1) := by decide +kernel
theorem dL_law_862 : decode cL_law 862 = .ok (.iaload, 1) := by decide +kernel
theorem dL_law_863 : decode cL_law 863 = .ok (.aload_n 0, 1) := by decide +kernel
theorem dL_law_864 : decode cL_law 864 = .ok (.iload 4, 2) := by decide +kernel
theorem dL_law_866 : decode cL_law 866 = .ok (.iconst 2, 1) := by decide +kernel
theorem dL_law_867 : decode cL_law 867 = .ok (.iadd, 1) := by decide +kernel
theorem dL_law_868 : decode cL_law 868 = .ok (.iaload, 1) := by decide +kernel
theorem dL_law_869 : decode cL_law 869 = .ok (.invokevirtual 98, 3) := by decide +kernel
theorem dL_law_872 : decode cL_law 872 = .ok (.aload_n 2, 1) := by decide +kernel
theorem dL_law_873 : decode cL_law 873 = .ok (.aload_n 0, 1) := by decide +kernel
theorem dL_law_874 : decode cL_law 874 = .ok (.iload 4, 2) := by decide +kernel
theorem dL_law_876 : decode cL_law 876 = .ok (.iconst 1, 1) := by decide +kernel
theorem dL_law_877 : decode cL_law 877 = .ok (.iadd, 1) := by decide +kernel
theorem dL_law_878 : decode cL_law 878 = .ok (.iaload, 1) := by decide +kernel
theorem dL_law_879 : decode cL_law 879 = .ok (.aload_n 0, 1) := by decide +kernel
theorem dL_law_880 : decode cL_law 880 = .ok (.iload 4, 2) := by decide +kernel
theorem dL_law_882 : decode cL_law 882 = .ok (.iconst 2, 1) := by decide +kernel
theorem dL_law_883 : decode cL_law 883 = .ok (.iadd, 1) := by decide +kernel
theorem dL_law_884 : decode cL_law 884 = .ok (.iaload, 1) := by decide +kernel
theorem dL_law_885 : decode cL_law 885 = .ok (.invokevirtual 101, 3) := by decide +kernel
theorem dL_law_888 : decode cL_law 888 = .ok (.if_icmp .eq 563, 3) := by decide +kernel
theorem dL_law_893 : decode cL_law 893 = .ok (.aload_n 1, 1) := by decide +kernel
theorem dL_law_894 : decode cL_law 894 = .ok (.aload_n 0, 1) := by decide +kernel
theorem dL_law_895 : decode cL_law 895 = .ok (.iload 4, 2) := by decide +kernel
theorem dL_law_897 : decode cL_law 897 = .ok (.iconst 1, 1) := by decide +kernel
theorem dL_law_898 : decode cL_law 898 = .ok (.iadd, 1) := by decide +kernel
theorem dL_law_899 : decode cL_law 899 = .ok (.iaload, 1) := by decide +kernel
theorem dL_law_900 : decode cL_law 900 = .ok (.aload_n 0, 1) := by decide +kernel
theorem dL_law_901 : decode cL_law 901 = .ok (.iload 4, 2) := by decide +kernel
theorem dL_law_903 : decode cL_law 903 = .ok (.iconst 2, 1) := by decide +kernel
theorem dL_law_904 : decode cL_law 904 = .ok (.iadd, 1) := by decide +kernel
theorem dL_law_905 : decode cL_law 905 = .ok (.iaload, 1) := by decide +kernel
theorem dL_law_906 : decode cL_law 906 = .ok (.aload_n 0, 1) := by decide +kernel
theorem dL_law_907 : decode cL_law 907 = .ok (.iload 4, 2) := by decide +kernel
theorem dL_law_909 : decode cL_law 909 = .ok (.iconst 3, 1) := by decide +kernel
theorem dL_law_910 : decode cL_law 910 = .ok (.iadd, 1) := by decide +kernel
theorem dL_law_911 : decode cL_law 911 = .ok (.iaload, 1) := by decide +kernel
theorem dL_law_912 : decode cL_law 912 = .ok (.invokevirtual 102, 3) := by decide +kernel
theorem dL_law_915 : decode cL_law 915 = .ok (.aload_n 2, 1) := by decide +kernel
theorem dL_law_916 : decode cL_law 916 = .ok (.aload_n 0, 1) := by decide +kernel
theorem dL_law_917 : decode cL_law 917 = .ok (.iload 4, 2) := by decide +kernel
theorem dL_law_919 : decode cL_law 919 = .ok (.iconst 1, 1) := by decide +kernel
theorem dL_law_920 : decode cL_law 920 = .ok (.iadd, 1) := by decide +kernel
theorem dL_law_921 : decode cL_law 921 = .ok (.iaload, 1) := by decide +kernel
theorem dL_law_922 : decode cL_law 922 = .ok (.aload_n 0, 1) := by decide +kernel
theorem dL_law_923 : decode cL_law 923 = .ok (.iload 4, 2) := by decide +kernel
theorem dL_law_925 : decode cL_law 925 = .ok (.iconst 2, 1) := by decide +kernel
theorem dL_law_926 : decode cL_law 926 = .ok (.iadd, 1) := by decide +kernel
theorem dL_law_927 : decode cL_law 927 = .ok (.iaload, 1) := by decide +kernel
theorem dL_law_928 : decode cL_law 928 = .ok (.aload_n 0, 1) := by decide +kernel
theorem dL_law_929 : decode cL_law 929 = .ok (.iload 4, 2) := by decide +kernel
theorem dL_law_931 : decode cL_law 931 = .ok (.iconst 3, 1) := by decide +kernel
theorem dL_law_932 : decode cL_law 932 = .ok (.iadd, 1) := by decide +kernel
theorem dL_law_933 : decode cL_law 933 = .ok (.iaload, 1) := by decide +kernel
theorem dL_law_934 : decode cL_law 934 = .ok (.invokevirtual 105, 3) := by decide +kernel
theorem dL_law_937 : decode cL_law 937 = .ok (.if_icmp .eq 514, 3) := by decide +kernel
theorem dL_law_942 : decode cL_law 942 = .ok (.aload_n 1, 1) := by decide +kernel
theorem dL_law_943 : decode cL_law 943 = .ok (.aload_n 0, 1) := by decide +kernel
theorem dL_law_944 : decode cL_law 944 = .ok (.iload 4, 2) := by decide +kernel
theorem dL_law_946 : decode cL_law 946 = .ok (.iconst 1, 1) := by decide +kernel
theorem dL_law_947 : decode cL_law 947 = .ok (.iadd, 1) := by decide +kernel
theorem dL_law_948 : decode cL_law 948 = .ok (.iaload, 1) := by decide +kernel
theorem dL_law_949 : decode cL_law 949 = .ok (.aload_n 0, 1) := by decide +kernel
theorem dL_law_950 : decode cL_law 950 = .ok (.iload 4, 2) := by decide +kernel
theorem dL_law_952 : decode cL_law 952 = .ok (.iconst 2, 1) := by decide +kernel
theorem dL_law_953 : decode cL_law 953 = .ok (.iadd, 1) := by decide +kernel
theorem dL_law_954 : decode cL_law 954 = .ok (.iaload, 1) := by decide +kernel
theorem dL_law_955 : decode cL_law 955 = .ok (.aload_n 0, 1) := by decide +kernel
theorem dL_law_956 : decode cL_law 956 = .ok (.iload 4, 2) := by decide +kernel
theorem dL_law_958 : decode cL_law 958 = .ok (.iconst 3, 1) := by decide +kernel
theorem dL_law_959 : decode cL_law 959 = .ok (.iadd, 1) := by decide +kernel
theorem dL_law_960 : decode cL_law 960 = .ok (.iaload, 1) := by decide +kernel
theorem dL_law_961 : decode cL_law 961 = .ok (.invokevirtual 106, 3) := by decide +kernel
theorem dL_law_964 : decode cL_law 964 = .ok (.aload_n 2, 1) := by decide +kernel
theorem dL_law_965 : decode cL_law 965 = .ok (.aload_n 0, 1) := by decide +kernel
theorem dL_law_966 : decode cL_law 966 = .ok (.iload 4, 2) := by decide +kernel
theorem dL_law_968 : decode cL_law 968 = .ok (.iconst 1, 1) := by decide +kernel
theorem dL_law_969 : decode cL_law 969 = .ok (.iadd, 1) := by decide +kernel
theorem dL_law_970 : decode cL_law 970 = .ok (.iaload, 1) := by decide +kernel
theorem dL_law_971 : decode cL_law 971 = .ok (.aload_n 0, 1) := by decide +kernel
theorem dL_law_972 : decode cL_law 972 = .ok (.iload 4, 2) := by decide +kernel
theorem dL_law_974 : decode cL_law 974 = .ok (.iconst 2, 1) := by decide +kernel
theorem dL_law_975 : decode cL_law 975 = .ok (.iadd, 1) := by decide +kernel
theorem dL_law_976 : decode cL_law 976 = .ok (.iaload, 1) := by decide +kernel
theorem dL_law_977 : decode cL_law 977 = .ok (.aload_n 0, 1) := by decide +kernel
theorem dL_law_978 : decode cL_law 978 = .ok (.iload 4, 2) := by decide +kernel
theorem dL_law_980 : decode cL_law 980 = .ok (.iconst 3, 1) := by decide +kernel
theorem dL_law_981 : decode cL_law 981 = .ok (.iadd, 1) := by decide +kernel
theorem dL_law_982 : decode cL_law 982 = .ok (.iaload, 1) := by decide +kernel
theorem dL_law_983 : decode cL_law 983 = .ok (.invokevirtual 109, 3) := by decide +kernel
theorem dL_law_986 : decode cL_law 986 = .ok (.if_icmp .eq 465, 3) := by decide +kernel
theorem dL_law_991 : decode cL_law 991 = .ok (.aload_n 1, 1) := by decide +kernel
theorem dL_law_992 : decode cL_law 992 = .ok (.aload_n 0, 1) := by decide +kernel
theorem dL_law_993 : decode cL_law 993 = .ok (.iload 4, 2) := by decide +kernel
theorem dL_law_995 : decode cL_law 995 = .ok (.iconst 1, 1) := by decide +kernel
theorem dL_law_996 : decode cL_law 996 = .ok (.iadd, 1) := by decide +kernel
theorem dL_law_997 : decode cL_law 997 = .ok (.iaload, 1) := by decide +kernel
theorem dL_law_998 : decode cL_law 998 = .ok (.invokevirtual 110, 3) := by decide +kernel
theorem dL_law_1001 : decode cL_law 1001 = .ok (.aload_n 2, 1) := by decide +kernel
theorem dL_law_1002 : decode cL_law 1002 = .ok (.aload_n 0, 1) := by decide +kernel
theorem dL_law_1003 : decode cL_law 1003 = .ok (.iload 4, 2) := by decide +kernel
theorem dL_law_1005 : decode cL_law 1005 = .ok (.iconst 1, 1) := by decide +kernel
theorem dL_law_1006 : decode cL_law 1006 = .ok (.iadd, 1) := by decide +kernel
theorem dL_law_1007 : decode cL_law 1007 = .ok (.iaload, 1) := by decide +kernel
theorem dL_law_1008 : decode cL_law 1008 = .ok (.invokevirtual 113, 3) := by decide +kernel
theorem dL_law_1011 : decode cL_law 1011 = .ok (.if_icmp .eq 440, 3) := by decide +kernel
theorem dL_law_1016 : decode cL_law 1016 = .ok (.aload_n 1, 1) := by decide +kernel
theorem dL_law_1017 : decode cL_law 1017 = .ok (.aload_n 0, 1) := by decide +kernel
theorem dL_law_1018 : decode cL_law 1018 = .ok (.iload 4, 2) := by decide +kernel
theorem dL_law_1020 : decode cL_law 1020 = .ok (.iconst 1, 1) := by decide +kernel
theorem dL_law_1021 : decode cL_law 1021 = .ok (.iadd, 1) := by decide +kernel
theorem dL_law_1022 : decode cL_law 1022 = .ok (.iaload, 1) := by decide +kernel
theorem dL_law_1023 : decode cL_law 1023 = .ok (.invokevirtual 114, 3) := by decide +kernel
theorem dL_law_1026 : decode cL_law 1026 = .ok (.aload_n 2, 1) := by decide +kernel
theorem dL_law_1027 : decode cL_law 1027 = .ok (.aload_n 0, 1) := by decide +kernel
theorem dL_law_1028 : decode cL_law 1028 = .ok (.iload 4, 2) := by decide +kernel
theorem dL_law_1030 : decode cL_law 1030 = .ok (.iconst 1, 1) := by decide +kernel
theorem dL_law_1031 : decode cL_law 1031 = .ok (.iadd, 1) := by decide +kernel
theorem dL_law_1032 : decode cL_law 1032 = .ok (.iaload, 1) := by decide +kernel
theorem dL_law_1033 : decode cL_law 1033 = .ok (.invokevirtual 117, 3) := by decide +kernel
theorem dL_law_1036 : decode cL_law 1036 = .ok (.if_icmp .eq 415, 3) := by decide +kernel
theorem dL_law_1041 : decode cL_law 1041 = .ok (.aload_n 1, 1) := by decide +kernel
theorem dL_law_1042 : decode cL_law 1042 = .ok (.aload_n 0, 1) := by decide +kernel
theorem dL_law_1043 : decode cL_law 1043 = .ok (.iload 4, 2) := by decide +kernel
theorem dL_law_1045 : decode cL_law 1045 = .ok (.iconst 1, 1) := by decide +kernel
theorem dL_law_1046 : decode cL_law 1046 = .ok (.iadd, 1) := by decide +kernel
theorem dL_law_1047 : decode cL_law 1047 = .ok (.iaload, 1) := by decide +kernel
theorem dL_law_1048 : decode cL_law 1048 = .ok (.invokevirtual 118, 3) := by decide +kernel
theorem dL_law_1051 : decode cL_law 1051 = .ok (.aload_n 2, 1) := by decide +kernel
theorem dL_law_1052 : decode cL_law 1052 = .ok (.aload_n 0, 1) := by decide +kernel
theorem dL_law_1053 : decode cL_law 1053 = .ok (.iload 4, 2) := by decide +kernel
theorem dL_law_1055 : decode cL_law 1055 = .ok (.iconst 1, 1) := by decide +kernel
theorem dL_law_1056 : decode cL_law 1056 = .ok (.iadd, 1) := by decide +kernel
theorem dL_law_1057 : decode cL_law 1057 = .ok (.iaload, 1) := by decide +kernel
theorem dL_law_1058 : decode cL_law 1058 = .ok (.invokevirtual 121, 3) := by decide +kernel
theorem dL_law_1061 : decode cL_law 1061 = .ok (.if_icmp .eq 390, 3) := by decide +kernel
theorem dL_law_1066 : decode cL_law 1066 = .ok (.aload_n 1, 1) := by decide +kernel
theorem dL_law_1067 : decode cL_law 1067 = .ok (.aload_n 0, 1) := by decide +kernel
theorem dL_law_1068 : decode cL_law 1068 = .ok (.iload 4, 2) := by decide +kernel
theorem dL_law_1070 : decode cL_law 1070 = .ok (.iconst 1, 1) := by decide +kernel
theorem dL_law_1071 : decode cL_law 1071 = .ok (.iadd, 1) := by decide +kernel
theorem dL_law_1072 : decode cL_law 1072 = .ok (.iaload, 1) := by decide +kernel
theorem dL_law_1073 : decode cL_law 1073 = .ok (.invokevirtual 122, 3) := by decide +kernel
theorem dL_law_1076 : decode cL_law 1076 = .ok (.aload_n 2, 1) := by decide +kernel
theorem dL_law_1077 : decode cL_law 1077 = .ok (.aload_n 0, 1) := by decide +kernel
theorem dL_law_1078 : decode cL_law 1078 = .ok (.iload 4, 2) := by decide +kernel
theorem dL_law_1080 : decode cL_law 1080 = .ok (.iconst 1, 1) := by decide +kernel
theorem dL_law_1081 : decode cL_law 1081 = .ok (.iadd, 1) := by decide +kernel
theorem dL_law_1082 : decode cL_law 1082 = .ok (.iaload, 1) := by decide +kernel
theorem dL_law_1083 : decode cL_law 1083 = .ok (.invokevirtual 126, 3) := by decide +kernel
theorem dL_law_1086 : decode cL_law 1086 = .ok (.if_icmp .eq 365, 3) := by decide +kernel
theorem dL_law_1091 : decode cL_law 1091 = .ok (.aload_n 1, 1) := by decide +kernel
theorem dL_law_1092 : decode cL_law 1092 = .ok (.invokevirtual 127, 3) := by decide +kernel
theorem dL_law_1095 : decode cL_law 1095 = .ok (.aload_n 2, 1) := by decide +kernel
theorem dL_law_1096 : decode cL_law 1096 = .ok (.invokevirtual 130, 3) := by decide +kernel
theorem dL_law_1099 : decode cL_law 1099 = .ok (.if_icmp .eq 352, 3) := by decide +kernel
theorem dL_law_1104 : decode cL_law 1104 = .ok (.aload_n 1, 1) := by decide +kernel
theorem dL_law_1105 : decode cL_law 1105 = .ok (.aload_n 0, 1) := by decide +kernel
theorem dL_law_1106 : decode cL_law 1106 = .ok (.iload 4, 2) := by decide +kernel
theorem dL_law_1108 : decode cL_law 1108 = .ok (.iconst 1, 1) := by decide +kernel
theorem dL_law_1109 : decode cL_law 1109 = .ok (.iadd, 1) := by decide +kernel
theorem dL_law_1110 : decode cL_law 1110 = .ok (.iaload, 1) := by decide +kernel
theorem dL_law_1111 : decode cL_law 1111 = .ok (.aload_n 0, 1) := by decide +kernel
theorem dL_law_1112 : decode cL_law 1112 = .ok (.iload 4, 2) := by decide +kernel
theorem dL_law_1114 : decode cL_law 1114 = .ok (.iconst 2, 1) := by decide +kernel
theorem dL_law_1115 : decode cL_law 1115 = .ok (.iadd, 1) := by decide +kernel
theorem dL_law_1116 : decode cL_law 1116 = .ok (.iaload, 1) := by decide +kernel
theorem dL_law_1117 : decode cL_law 1117 = .ok (.invokevirtual 131, 3) := by decide +kernel
theorem dL_law_1120 : decode cL_law 1120 = .ok (.aload_n 2, 1) := by decide +kernel
theorem dL_law_1121 : decode cL_law 1121 = .ok (.aload_n 0, 1) := by decide +kernel
theorem dL_law_1122 : decode cL_law 1122 = .ok (.iload 4, 2) := by decide +kernel
theorem dL_law_1124 : decode cL_law 1124 = .ok (.iconst 1, 1) := by decide +kernel
theorem dL_law_1125 : decode cL_law 1125 = .ok (.iadd, 1) := by decide +kernel
theorem dL_law_1126 : decode cL_law 1126 = .ok (.iaload, 1) := by decide +kernel
theorem dL_law_1127 : decode cL_law 1127 = .ok (.aload_n 0, 1) := by decide +kernel
theorem dL_law_1128 : decode cL_law 1128 = .ok (.iload 4, 2) := by decide +kernel
theorem dL_law_1130 : decode cL_law 1130 = .ok (.iconst 2, 1) := by decide +kernel
theorem dL_law_1131 : decode cL_law 1131 = .ok (.iadd, 1) := by decide +kernel
theorem dL_law_1132 : decode cL_law 1132 = .ok (.iaload, 1) := by decide +kernel
theorem dL_law_1133 : decode cL_law 1133 = .ok (.invokevirtual 134, 3) := by decide +kernel
theorem dL_law_1136 : decode cL_law 1136 = .ok (.if_icmp .eq 315, 3) := by decide +kernel
theorem dL_law_1141 : decode cL_law 1141 = .ok (.aload_n 1, 1) := by decide +kernel
theorem dL_law_1142 : decode cL_law 1142 = .ok (.invokevirtual 135, 3) := by decide +kernel
theorem dL_law_1145 : decode cL_law 1145 = .ok (.aload_n 2, 1) := by decide +kernel
theorem dL_law_1146 : decode cL_law 1146 = .ok (.invokevirtual 138, 3) := by decide +kernel
theorem dL_law_1149 : decode cL_law 1149 = .ok (.if_icmp .eq 302, 3) := by decide +kernel
theorem dL_law_1154 : decode cL_law 1154 = .ok (.aload_n 1, 1) := by decide +kernel
theorem dL_law_1155 : decode cL_law 1155 = .ok (.aload_n 0, 1) := by decide +kernel
theorem dL_law_1156 : decode cL_law 1156 = .ok (.iload 4, 2) := by decide +kernel
theorem dL_law_1158 : decode cL_law 1158 = .ok (.iconst 1, 1) := by decide +kernel
theorem dL_law_1159 : decode cL_law 1159 = .ok (.iadd, 1) := by decide +kernel
theorem dL_law_1160 : decode cL_law 1160 = .ok (.iaload, 1) := by decide +kernel
theorem dL_law_1161 : decode cL_law 1161 = .ok (.aload_n 0, 1) := by decide +kernel
theorem dL_law_1162 : decode cL_law 1162 = .ok (.iload 4, 2) := by decide +kernel
theorem dL_law_1164 : decode cL_law 1164 = .ok (.iconst 2, 1) := by decide +kernel
theorem dL_law_1165 : decode cL_law 1165 = .ok (.iadd, 1) := by decide +kernel
theorem dL_law_1166 : decode cL_law 1166 = .ok (.iaload, 1) := by decide +kernel
theorem dL_law_1167 : decode cL_law 1167 = .ok (.aload_n 0, 1) := by decide +kernel
theorem dL_law_1168 : decode cL_law 1168 = .ok (.iload 4, 2) := by decide +kernel
theorem dL_law_1170 : decode cL_law 1170 = .ok (.iconst 3, 1) := by decide +kernel
theorem dL_law_1171 : decode cL_law 1171 = .ok (.iadd, 1) := by decide +kernel
theorem dL_law_1172 : decode cL_law 1172 = .ok (.iaload, 1) := by decide +kernel
theorem dL_law_1173 : decode cL_law 1173 = .ok (.aload_n 0, 1) := by decide +kernel
theorem dL_law_1174 : decode cL_law 1174 = .ok (.iload 4, 2) := by decide +kernel
theorem dL_law_1176 : decode cL_law 1176 = .ok (.iconst 4, 1) := by decide +kernel
theorem dL_law_1177 : decode cL_law 1177 = .ok (.iadd, 1) := by decide +kernel
theorem dL_law_1178 : decode cL_law 1178 = .ok (.iaload, 1) := by decide +kernel
theorem dL_law_1179 : decode cL_law 1179 = .ok (.invokevirtual 139, 3) := by decide +kernel
theorem dL_law_1182 : decode cL_law 1182 = .ok (.aload_n 2, 1) := by decide +kernel
theorem dL_law_1183 : decode cL_law 1183 = .ok (.aload_n 0, 1) := by decide +kernel
theorem dL_law_1184 : decode cL_law 1184 = .ok (.iload 4, 2) := by decide +kernel
theorem dL_law_1186 : decode cL_law 1186 = .ok (.iconst 1, 1) := by decide +kernel
theorem dL_law_1187 : decode cL_law 1187 = .ok (.iadd, 1) := by decide +kernel
theorem dL_law_1188 : decode cL_law 1188 = .ok (.iaload, 1) := by decide +kernel
theorem dL_law_1189 : decode cL_law 1189 = .ok (.aload_n 0, 1) := by decide +kernel
theorem dL_law_1190 : decode cL_law 1190 = .ok (.iload 4, 2) := by decide +kernel
theorem dL_law_1192 : decode cL_law 1192 = .ok (.iconst 2, 1) := by decide +kernel
theorem dL_law_1193 : decode cL_law 1193 = .ok (.iadd, 1) := by decide +kernel
theorem dL_law_1194 : decode cL_law 1194 = .ok (.iaload, 1) := by decide +kernel
theorem dL_law_1195 : decode cL_law 1195 = .ok (.aload_n 0, 1) := by decide +kernel
theorem dL_law_1196 : decode cL_law 1196 = .ok (.iload 4, 2) := by decide +kernel
theorem dL_law_1198 : decode cL_law 1198 = .ok (.iconst 3, 1) := by decide +kernel
theorem dL_law_1199 : decode cL_law 1199 = .ok (.iadd, 1) := by decide +kernel
theorem dL_law_1200 : decode cL_law 1200 = .ok (.iaload, 1) := by decide +kernel
theorem dL_law_1201 : decode cL_law 1201 = .ok (.aload_n 0, 1) := by decide +kernel
theorem dL_law_1202 : decode cL_law 1202 = .ok (.iload 4, 2) := by decide +kernel
theorem dL_law_1204 : decode cL_law 1204 = .ok (.iconst 4, 1) := by decide +kernel
theorem dL_law_1205 : decode cL_law 1205 = .ok (.iadd, 1) := by decide +kernel
theorem dL_law_1206 : decode cL_law 1206 = .ok (.iaload, 1) := by decide +kernel
theorem dL_law_1207 : decode cL_law 1207 = .ok (.invokevirtual 143, 3) := by decide +kernel
theorem dL_law_1210 : decode cL_law 1210 = .ok (.if_icmp .eq 241, 3) := by decide +kernel
theorem dL_law_1215 : decode cL_law 1215 = .ok (.aload_n 1, 1) := by decide +kernel
theorem dL_law_1216 : decode cL_law 1216 = .ok (.aload_n 0, 1) := by decide +kernel
theorem dL_law_1217 : decode cL_law 1217 = .ok (.iload 4, 2) := by decide +kernel
theorem dL_law_1219 : decode cL_law 1219 = .ok (.iconst 1, 1) := by decide +kernel
theorem dL_law_1220 : decode cL_law 1220 = .ok (.iadd, 1) := by decide +kernel
theorem dL_law_1221 : decode cL_law 1221 = .ok (.iaload, 1) := by decide +kernel
theorem dL_law_1222 : decode cL_law 1222 = .ok (.aload_n 0, 1) := by decide +kernel
theorem dL_law_1223 : decode cL_law 1223 = .ok (.iload 4, 2) := by decide +kernel
theorem dL_law_1225 : decode cL_law 1225 = .ok (.iconst 2, 1) := by decide +kernel
theorem dL_law_1226 : decode cL_law 1226 = .ok (.iadd, 1) := by decide +kernel
theorem dL_law_1227 : decode cL_law 1227 = .ok (.iaload, 1) := by decide +kernel
theorem dL_law_1228 : decode cL_law 1228 = .ok (.aload_n 0, 1) := by decide +kernel
theorem dL_law_1229 : decode cL_law 1229 = .ok (.iload 4, 2) := by decide +kernel
theorem dL_law_1231 : decode cL_law 1231 = .ok (.iconst 3, 1) := by decide +kernel
theorem dL_law_1232 : decode cL_law 1232 = .ok (.iadd, 1) := by decide +kernel
theorem dL_law_1233 : decode cL_law 1233 = .ok (.iaload, 1) := by decide +kernel
theorem dL_law_1234 : decode cL_law 1234 = .ok (.aload_n 0, 1) := by decide +kernel
theorem dL_law_1235 : decode cL_law 1235 = .ok (.iload 4, 2) := by decide +kernel
theorem dL_law_1237 : decode cL_law 1237 = .ok (.iconst 4, 1) := by decide +kernel
theorem dL_law_1238 : decode cL_law 1238 = .ok (.iadd, 1) := by decide +kernel
theorem dL_law_1239 : decode cL_law 1239 = .ok (.iaload, 1) := by decide +kernel
theorem dL_law_1240 : decode cL_law 1240 = .ok (.aload_n 0, 1) := by decide +kernel
theorem dL_law_1241 : decode cL_law 1241 = .ok (.iload 4, 2) := by decide +kernel
theorem dL_law_1243 : decode cL_law 1243 = .ok (.iconst 5, 1) := by decide +kernel
theorem dL_law_1244 : decode cL_law 1244 = .ok (.iadd, 1) := by decide +kernel
theorem dL_law_1245 : decode cL_law 1245 = .ok (.iaload, 1) := by decide +kernel
theorem dL_law_1246 : decode cL_law 1246 = .ok (.invokevirtual 144, 3) := by decide +kernel
theorem dL_law_1249 : decode cL_law 1249 = .ok (.aload_n 2, 1) := by decide +kernel
theorem dL_law_1250 : decode cL_law 1250 = .ok (.aload_n 0, 1) := by decide +kernel
theorem dL_law_1251 : decode cL_law 1251 = .ok (.iload 4, 2) := by decide +kernel
theorem dL_law_1253 : decode cL_law 1253 = .ok (.iconst 1, 1) := by decide +kernel
theorem dL_law_1254 : decode cL_law 1254 = .ok (.iadd, 1) := by decide +kernel
theorem dL_law_1255 : decode cL_law 1255 = .ok (.iaload, 1) := by decide +kernel
theorem dL_law_1256 : decode cL_law 1256 = .ok (.aload_n 0, 1) := by decide +kernel
theorem dL_law_1257 : decode cL_law 1257 = .ok (.iload 4, 2) := by decide +kernel
theorem dL_law_1259 : decode cL_law 1259 = .ok (.iconst 2, 1) := by decide +kernel
theorem dL_law_1260 : decode cL_law 1260 = .ok (.iadd, 1) := by decide +kernel
theorem dL_law_1261 : decode cL_law 1261 = .ok (.iaload, 1) := by decide +kernel
theorem dL_law_1262 : decode cL_law 1262 = .ok (.aload_n 0, 1) := by decide +kernel
theorem dL_law_1263 : decode cL_law 1263 = .ok (.iload 4, 2) := by decide +kernel
theorem dL_law_1265 : decode cL_law 1265 = .ok (.iconst 3, 1) := by decide +kernel
theorem dL_law_1266 : decode cL_law 1266 = .ok (.iadd, 1) := by decide +kernel
theorem dL_law_1267 : decode cL_law 1267 = .ok (.iaload, 1) := by decide +kernel
theorem dL_law_1268 : decode cL_law 1268 = .ok (.aload_n 0, 1) := by decide +kernel
theorem dL_law_1269 : decode cL_law 1269 = .ok (.iload 4, 2) := by decide +kernel
theorem dL_law_1271 : decode cL_law 1271 = .ok (.iconst 4, 1) := by decide +kernel
theorem dL_law_1272 : decode cL_law 1272 = .ok (.iadd, 1) := by decide +kernel
theorem dL_law_1273 : decode cL_law 1273 = .ok (.iaload, 1) := by decide +kernel
theorem dL_law_1274 : decode cL_law 1274 = .ok (.aload_n 0, 1) := by decide +kernel
theorem dL_law_1275 : decode cL_law 1275 = .ok (.iload 4, 2) := by decide +kernel
theorem dL_law_1277 : decode cL_law 1277 = .ok (.iconst 5, 1) := by decide +kernel
theorem dL_law_1278 : decode cL_law 1278 = .ok (.iadd, 1) := by decide +kernel
theorem dL_law_1279 : decode cL_law 1279 = .ok (.iaload, 1) := by decide +kernel
theorem dL_law_1280 : decode cL_law 1280 = .ok (.invokevirtual 147, 3) := by decide +kernel
theorem dL_law_1283 : decode cL_law 1283 = .ok (.if_icmp .eq 168, 3) := by decide +kernel
theorem dL_law_1288 : decode cL_law 1288 = .ok (.aload_n 1, 1) := by decide +kernel
theorem dL_law_1289 : decode cL_law 1289 = .ok (.aload_n 0, 1) := by decide +kernel
theorem dL_law_1290 : decode cL_law 1290 = .ok (.iload 4, 2) := by decide +kernel
theorem dL_law_1292 : decode cL_law 1292 = .ok (.iconst 1, 1) := by decide +kernel
theorem dL_law_1293 : decode cL_law 1293 = .ok (.iadd, 1) := by decide +kernel
theorem dL_law_1294 : decode cL_law 1294 = .ok (.iaload, 1) := by decide +kernel
theorem dL_law_1295 : decode cL_law 1295 = .ok (.aload_n 0, 1) := by decide +kernel
theorem dL_law_1296 : decode cL_law 1296 = .ok (.iload 4, 2) := by decide +kernel
theorem dL_law_1298 : decode cL_law 1298 = .ok (.iconst 2, 1) := by decide +kernel
theorem dL_law_1299 : decode cL_law 1299 = .ok (.iadd, 1) := by decide +kernel
theorem dL_law_1300 : decode cL_law 1300 = .ok (.iaload, 1) := by decide +kernel
theorem dL_law_1301 : decode cL_law 1301 = .ok (.invokevirtual 148, 3) := by decide +kernel
theorem dL_law_1304 : decode cL_law 1304 = .ok (.aload_n 2, 1) := by decide +kernel
theorem dL_law_1305 : decode cL_law 1305 = .ok (.aload_n 0, 1) := by decide +kernel
theorem dL_law_1306 : decode cL_law 1306 = .ok (.iload 4, 2) := by decide +kernel
theorem dL_law_1308 : decode cL_law 1308 = .ok (.iconst 1, 1) := by decide +kernel
theorem dL_law_1309 : decode cL_law 1309 = .ok (.iadd, 1) := by decide +kernel
theorem dL_law_1310 : decode cL_law 1310 = .ok (.iaload, 1) := by decide +kernel
theorem dL_law_1311 : decode cL_law 1311 = .ok (.aload_n 0, 1) := by decide +kernel
theorem dL_law_1312 : decode cL_law 1312 = .ok (.iload 4, 2) := by decide +kernel
theorem dL_law_1314 : decode cL_law 1314 = .ok (.iconst 2, 1) := by decide +kernel
theorem dL_law_1315 : decode cL_law 1315 = .ok (.iadd, 1) := by decide +kernel
theorem dL_law_1316 : decode cL_law 1316 = .ok (.iaload, 1) := by decide +kernel
theorem dL_law_1317 : decode cL_law 1317 = .ok (.invokevirtual 151, 3) := by decide +kernel
theorem dL_law_1320 : decode cL_law 1320 = .ok (.if_icmp .eq 131, 3) := by decide +kernel
theorem dL_law_1325 : decode cL_law 1325 = .ok (.aload_n 1, 1) := by decide +kernel
theorem dL_law_1326 : decode cL_law 1326 = .ok (.aload_n 0, 1) := by decide +kernel
theorem dL_law_1327 : decode cL_law 1327 = .ok (.iload 4, 2) := by decide +kernel
theorem dL_law_1329 : decode cL_law 1329 = .ok (.iconst 1, 1) := by decide +kernel
theorem dL_law_1330 : decode cL_law 1330 = .ok (.iadd, 1) := by decide +kernel
theorem dL_law_1331 : decode cL_law 1331 = .ok (.iaload, 1) := by decide +kernel
theorem dL_law_1332 : decode cL_law 1332 = .ok (.invokevirtual 152, 3) := by decide +kernel
theorem dL_law_1335 : decode cL_law 1335 = .ok (.aload_n 2, 1) := by decide +kernel
theorem dL_law_1336 : decode cL_law 1336 = .ok (.aload_n 0, 1) := by decide +kernel
theorem dL_law_1337 : decode cL_law 1337 = .ok (.iload 4, 2) := by decide +kernel
theorem dL_law_1339 : decode cL_law 1339 = .ok (.iconst 1, 1) := by decide +kernel
theorem dL_law_1340 : decode cL_law 1340 = .ok (.iadd, 1) := by decide +kernel
theorem dL_law_1341 : decode cL_law 1341 = .ok (.iaload, 1) := by decide +kernel
theorem dL_law_1342 : decode cL_law 1342 = .ok (.invokevirtual 155, 3) := by decide +kernel
theorem dL_law_1345 : decode cL_law 1345 = .ok (.if_icmp .eq 106, 3) := by decide +kernel
theorem dL_law_1350 : decode cL_law 1350 = .ok (.aload_n 1, 1) := by decide +kernel
theorem dL_law_1351 : decode cL_law 1351 = .ok (.aload_n 0, 1) := by decide +kernel
theorem dL_law_1352 : decode cL_law 1352 = .ok (.iload 4, 2) := by decide +kernel
theorem dL_law_1354 : decode cL_law 1354 = .ok (.iconst 1, 1) := by decide +kernel
theorem dL_law_1355 : decode cL_law 1355 = .ok (.iadd, 1) := by decide +kernel
theorem dL_law_1356 : decode cL_law 1356 = .ok (.iaload, 1) := by decide +kernel
theorem dL_law_1357 : decode cL_law 1357 = .ok (.aload_n 0, 1) := by decide +kernel
theorem dL_law_1358 : decode cL_law 1358 = .ok (.iload 4, 2) := by decide +kernel
theorem dL_law_1360 : decode cL_law 1360 = .ok (.iconst 2, 1) := by decide +kernel
theorem dL_law_1361 : decode cL_law 1361 = .ok (.iadd, 1) := by decide +kernel
theorem dL_law_1362 : decode cL_law 1362 = .ok (.iaload, 1) := by decide +kernel
theorem dL_law_1363 : decode cL_law 1363 = .ok (.aload_n 0, 1) := by decide +kernel
theorem dL_law_1364 : decode cL_law 1364 = .ok (.iload 4, 2) := by decide +kernel
theorem dL_law_1366 : decode cL_law 1366 = .ok (.iconst 3, 1) := by decide +kernel
theorem dL_law_1367 : decode cL_law 1367 = .ok (.iadd, 1) := by decide +kernel
theorem dL_law_1368 : decode cL_law 1368 = .ok (.iaload, 1) := by decide +kernel
theorem dL_law_1369 : decode cL_law 1369 = .ok (.invokevirtual 156, 3) := by decide +kernel
theorem dL_law_1372 : decode cL_law 1372 = .ok (.aload_n 2, 1) := by decide +kernel
theorem dL_law_1373 : decode cL_law 1373 = .ok (.aload_n 0, 1) := by decide +kernel
theorem dL_law_1374 : decode cL_law 1374 = .ok (.iload 4, 2) := by decide +kernel
theorem dL_law_1376 : decode cL_law 1376 = .ok (.iconst 1, 1) := by decide +kernel
theorem dL_law_1377 : decode cL_law 1377 = .ok (.iadd, 1) := by decide +kernel
theorem dL_law_1378 : decode cL_law 1378 = .ok (.iaload, 1) := by decide +kernel
theorem dL_law_1379 : decode cL_law 1379 = .ok (.aload_n 0, 1) := by decide +kernel
theorem dL_law_1380 : decode cL_law 1380 = .ok (.iload 4, 2) := by decide +kernel
theorem dL_law_1382 : decode cL_law 1382 = .ok (.iconst 2, 1) := by decide +kernel
theorem dL_law_1383 : decode cL_law 1383 = .ok (.iadd, 1) := by decide +kernel
theorem dL_law_1384 : decode cL_law 1384 = .ok (.iaload, 1) := by decide +kernel
theorem dL_law_1385 : decode cL_law 1385 = .ok (.aload_n 0, 1) := by decide +kernel
theorem dL_law_1386 : decode cL_law 1386 = .ok (.iload 4, 2) := by decide +kernel
theorem dL_law_1388 : decode cL_law 1388 = .ok (.iconst 3, 1) := by decide +kernel
theorem dL_law_1389 : decode cL_law 1389 = .ok (.iadd, 1) := by decide +kernel
theorem dL_law_1390 : decode cL_law 1390 = .ok (.iaload, 1) := by decide +kernel
theorem dL_law_1391 : decode cL_law 1391 = .ok (.invokevirtual 160, 3) := by decide +kernel
theorem dL_law_1394 : decode cL_law 1394 = .ok (.lcmp, 1) := by decide +kernel
theorem dL_law_1395 : decode cL_law 1395 = .ok (.ifCond .eq 56, 3) := by decide +kernel
theorem dL_law_1400 : decode cL_law 1400 = .ok (.aload_n 1, 1) := by decide +kernel
theorem dL_law_1401 : decode cL_law 1401 = .ok (.invokevirtual 161, 3) := by decide +kernel
theorem dL_law_1404 : decode cL_law 1404 = .ok (.aload_n 2, 1) := by decide +kernel
theorem dL_law_1405 : decode cL_law 1405 = .ok (.invokevirtual 164, 3) := by decide +kernel
theorem dL_law_1408 : decode cL_law 1408 = .ok (.if_icmp .eq 43, 3) := by decide +kernel
theorem dL_law_1413 : decode cL_law 1413 = .ok (.aload_n 1, 1) := by decide +kernel
theorem dL_law_1414 : decode cL_law 1414 = .ok (.invokevirtual 165, 3) := by decide +kernel
theorem dL_law_1417 : decode cL_law 1417 = .ok (.aload_n 2, 1) := by decide +kernel
theorem dL_law_1418 : decode cL_law 1418 = .ok (.invokevirtual 168, 3) := by decide +kernel
theorem dL_law_1421 : decode cL_law 1421 = .ok (.if_icmp .eq 30, 3) := by decide +kernel
theorem dL_law_1426 : decode cL_law 1426 = .ok (.aload_n 1, 1) := by decide +kernel
theorem dL_law_1427 : decode cL_law 1427 = .ok (.aload_n 0, 1) := by decide +kernel
theorem dL_law_1428 : decode cL_law 1428 = .ok (.iload 4, 2) := by decide +kernel
theorem dL_law_1430 : decode cL_law 1430 = .ok (.iconst 1, 1) := by decide +kernel
theorem dL_law_1431 : decode cL_law 1431 = .ok (.iadd, 1) := by decide +kernel
theorem dL_law_1432 : decode cL_law 1432 = .ok (.iaload, 1) := by decide +kernel
theorem dL_law_1433 : decode cL_law 1433 = .ok (.invokevirtual 169, 3) := by decide +kernel
theorem dL_law_1436 : decode cL_law 1436 = .ok (.aload_n 2, 1) := by decide +kernel
theorem dL_law_1437 : decode cL_law 1437 = .ok (.aload_n 0, 1) := by decide +kernel
theorem dL_law_1438 : decode cL_law 1438 = .ok (.iload 4, 2) := by decide +kernel
theorem dL_law_1440 : decode cL_law 1440 = .ok (.iconst 1, 1) := by decide +kernel
theorem dL_law_1441 : decode cL_law 1441 = .ok (.iadd, 1) := by decide +kernel
theorem dL_law_1442 : decode cL_law 1442 = .ok (.iaload, 1) := by decide +kernel
theorem dL_law_1443 : decode cL_law 1443 = .ok (.invokevirtual 172, 3) := by decide +kernel
theorem dL_law_1446 : decode cL_law 1446 = .ok (.if_icmp .eq 5, 3) := by decide +kernel
theorem dL_law_1451 : decode cL_law 1451 = .ok (.iinc 4 6, 3) := by decide +kernel
theorem dL_law_1454 : decode cL_law 1454 = .ok (.goto (-1431), 3) := by decide +kernel
theorem dL_law_1457 : decode cL_law 1457 = .ok (.iconst 1, 1) := by decide +kernel
theorem dL_law_1458 : decode cL_law 1458 = .ok (.ireturn, 1) := by decide +kernel
end
section
theorem xwm {w : Cond} (i : Nat) (h : lw_tbl[i]? = some w) (g : goodWord w = true) : w ∈ xgt := List.mem_filter.mpr ⟨List.mem_of_getElem? h, g⟩
theorem xw_oc : Cond.code Lib.objectInit ⟨#[0xb1]⟩ 1 none ∈ xgt := xwm 150 (by decide +kernel) (by decide +kernel)
theorem xw_0 : Cond.methodLink RX11 3 Lib.objectInit ∈ xgt := xwm 148 (by decide +kernel) (by decide +kernel)
theorem xw_1 : Cond.instanceMethod Lib.objectInit ∈ xgt := xwm 149 (by decide +kernel) (by decide +kernel)
theorem xw_2 : Cond.arrayClass .byte ∈ xgt := xwm 176 (by decide +kernel) (by decide +kernel)
theorem xw_3 : Cond.fieldLink RX11 9 (TX11 0).1 (TX11 0).2.1 (TX11 0).2.2.1 ∈ xgt := xwm 671 (by decide +kernel) (by decide +kernel)
theorem xw_4 : Cond.classLink RX11 13 RX4 ∈ xgt := xwm 151 (by decide +kernel) (by decide +kernel)
theorem xw_5 : Cond.instantiable RX4 19 ∈ xgt := xwm 152 (by decide +kernel) (by decide +kernel)
theorem xw_6 : Cond.initialized RX4 ∈ xgt := xwm 117 (by decide +kernel) (by decide +kernel)
theorem xw_7 : Cond.instanceMethod yX4_init ∈ xgt := xwm 154 (by decide +kernel) (by decide +kernel)
theorem xw_8 : Cond.fieldLink RX11 16 (TX11 1).1 (TX11 1).2.1 (TX11 1).2.2.1 ∈ xgt := xwm 672 (by decide +kernel) (by decide +kernel)
theorem xw_9 : Cond.fieldLink RX11 20 (TX11 2).1 (TX11 2).2.1 (TX11 2).2.2.1 ∈ xgt := xwm 673 (by decide +kernel) (by decide +kernel)
theorem xw_10 : Cond.classLink RX11 23 RX8 ∈ xgt := xwm 330 (by decide +kernel) (by decide +kernel)
theorem xw_11 : Cond.instantiable RX8 4 ∈ xgt := xwm 331 (by decide +kernel) (by decide +kernel)
theorem xw_12 : Cond.initialized RX8 ∈ xgt := xwm 120 (by decide +kernel) (by decide +kernel)
theorem xw_13 : Cond.classLink RX11 25 RX9 ∈ xgt := xwm 332 (by decide +kernel) (by decide +kernel)
theorem xw_14 : Cond.instantiable RX9 9 ∈ xgt := xwm 333 (by decide +kernel) (by decide +kernel)
theorem xw_15 : Cond.initialized RX9 ∈ xgt := xwm 121 (by decide +kernel) (by decide +kernel)
theorem xw_16 : Cond.instanceMethod yX9_init ∈ xgt := xwm 335 (by decide +kernel) (by decide +kernel)
theorem xw_17 : Cond.methodLink RX11 27 yX9_init ∈ xgt := xwm 334 (by decide +kernel) (by decide +kernel)
theorem xw_18 : Cond.instanceMethod yX8_init ∈ xgt := xwm 427 (by decide +kernel) (by decide +kernel)
theorem xw_19 : Cond.methodLink RX11 30 yX8_init ∈ xgt := xwm 426 (by decide +kernel) (by decide +kernel)
theorem xw_20 : Cond.fieldLink RX11 33 (TX11 3).1 (TX11 3).2.1 (TX11 3).2.2.1 ∈ xgt := xwm 674 (by decide +kernel) (by decide +kernel)
theorem xw_21 : Cond.classLink RX11 37 RX10 ∈ xgt := xwm 444 (by decide +kernel) (by decide +kernel)
theorem xw_22 : Cond.instantiable RX10 13 ∈ xgt := xwm 445 (by decide +kernel) (by decide +kernel)
theorem xw_23 : Cond.initialized RX10 ∈ xgt := xwm 126 (by decide +kernel) (by decide +kernel)
theorem xw_24 : Cond.instanceMethod yX10_init ∈ xgt := xwm 447 (by decide +kernel) (by decide +kernel)
theorem xw_25 : Cond.fieldLink RX11 40 (TX11 4).1 (TX11 4).2.1 (TX11 4).2.2.1 ∈ xgt := xwm 675 (by decide +kernel) (by decide +kernel)
theorem xw_26 : Cond.fieldLink RX11 44 (TX11 5).1 (TX11 5).2.1 (TX11 5).2.2.1 ∈ xgt := xwm 676 (by decide +kernel) (by decide +kernel)
theorem xw_27 : Cond.classLink RX11 47 RX3 ∈ xgt := xwm 506 (by decide +kernel) (by decide +kernel)
theorem xw_28 : Cond.instantiable RX3 2 ∈ xgt := xwm 507 (by decide +kernel) (by decide +kernel)
theorem xw_29 : Cond.initialized RX3 ∈ xgt := xwm 127 (by decide +kernel) (by decide +kernel)
theorem xw_30 : Cond.instanceMethod yX3_init ∈ xgt := xwm 509 (by decide +kernel) (by decide +kernel)
theorem xw_31 : Cond.fieldLink RX11 50 (TX11 6).1 (TX11 6).2.1 (TX11 6).2.2.1 ∈ xgt := xwm 677 (by decide +kernel) (by decide +kernel)
theorem xw_32 : Cond.classLink RX11 54 RX5 ∈ xgt := xwm 520 (by decide +kernel) (by decide +kernel)
theorem xw_33 : Cond.instantiable RX5 6 ∈ xgt := xwm 521 (by decide +kernel) (by decide +kernel)
theorem xw_34 : Cond.initialized RX5 ∈ xgt := xwm 128 (by decide +kernel) (by decide +kernel)
theorem xw_35 : Cond.instanceMethod yX5_init ∈ xgt := xwm 523 (by decide +kernel) (by decide +kernel)
theorem xw_36 : Cond.methodLink RX11 56 yX5_init ∈ xgt := xwm 522 (by decide +kernel) (by decide +kernel)
theorem xw_37 : Cond.fieldLink RX11 59 (TX11 7).1 (TX11 7).2.1 (TX11 7).2.2.1 ∈ xgt := xwm 678 (by decide +kernel) (by decide +kernel)
theorem xw_38 : Cond.classLink RX11 63 RX1 ∈ xgt := xwm 546 (by decide +kernel) (by decide +kernel)
theorem xw_39 : Cond.instantiable RX1 11 ∈ xgt := xwm 547 (by decide +kernel) (by decide +kernel)
theorem xw_40 : Cond.initialized RX1 ∈ xgt := xwm 129 (by decide +kernel) (by decide +kernel)
theorem xw_41 : Cond.instanceMethod yX1_init ∈ xgt := xwm 549 (by decide +kernel) (by decide +kernel)
theorem xw_42 : Cond.methodLink RX11 65 yX1_init ∈ xgt := xwm 548 (by decide +kernel) (by decide +kernel)
theorem xw_43 : Cond.fieldLink RX11 68 (TX11 8).1 (TX11 8).2.1 (TX11 8).2.2.1 ∈ xgt := xwm 679 (by decide +kernel) (by decide +kernel)
theorem xw_44 : Cond.classLink RX11 72 RX7 ∈ xgt := xwm 590 (by decide +kernel) (by decide +kernel)
theorem xw_45 : Cond.instantiable RX7 6 ∈ xgt := xwm 591 (by decide +kernel) (by decide +kernel)
theorem xw_46 : Cond.initialized RX7 ∈ xgt := xwm 130 (by decide +kernel) (by decide +kernel)
theorem xw_47 : Cond.instanceMethod yX7_init ∈ xgt := xwm 593 (by decide +kernel) (by decide +kernel)
theorem xw_48 : Cond.methodLink RX11 74 yX7_init ∈ xgt := xwm 592 (by decide +kernel) (by decide +kernel)
theorem xw_49 : Cond.fieldLink RX11 75 (TX11 9).1 (TX11 9).2.1 (TX11 9).2.2.1 ∈ xgt := xwm 680 (by decide +kernel) (by decide +kernel)
theorem xw_50 : Cond.classLink RX11 79 RX0 ∈ xgt := xwm 618 (by decide +kernel) (by decide +kernel)
theorem xw_51 : Cond.instantiable RX0 10 ∈ xgt := xwm 619 (by decide +kernel) (by decide +kernel)
theorem xw_52 : Cond.initialized RX0 ∈ xgt := xwm 131 (by decide +kernel) (by decide +kernel)
theorem xw_53 : Cond.instanceMethod yX0_init ∈ xgt := xwm 621 (by decide +kernel) (by decide +kernel)
theorem xw_54 : Cond.methodLink RX11 81 yX0_init ∈ xgt := xwm 620 (by decide +kernel) (by decide +kernel)
theorem xw_55 : Cond.fieldLink RX11 82 (TX11 10).1 (TX11 10).2.1 (TX11 10).2.2.1 ∈ xgt := xwm 681 (by decide +kernel) (by decide +kernel)
theorem xw_56 : Cond.fieldLink RX11 86 (TX11 11).1 (TX11 11).2.1 (TX11 11).2.2.1 ∈ xgt := xwm 682 (by decide +kernel) (by decide +kernel)
theorem xw_57 : Cond.fieldLink RX11 90 (TX11 12).1 (TX11 12).2.1 (TX11 12).2.2.1 ∈ xgt := xwm 683 (by decide +kernel) (by decide +kernel)
theorem xw_58 : Cond.fieldLink RX11 93 (TX11 13).1 (TX11 13).2.1 (TX11 13).2.2.1 ∈ xgt := xwm 684 (by decide +kernel) (by decide +kernel)
theorem xw_59 : Cond.fieldLink RX11 96 (TX11 14).1 (TX11 14).2.1 (TX11 14).2.2.1 ∈ xgt := xwm 685 (by decide +kernel) (by decide +kernel)
theorem xw_60 : Cond.instanceMethod yX10_begin ∈ xgt := xwm 658 (by decide +kernel) (by decide +kernel)
theorem xw_61 : Cond.selects yX10_begin.cls yX10_begin yX10_begin ∈ xgt := xwm 659 (by decide +kernel) (by decide +kernel)
theorem xw_62 : Cond.methodLink RX11 100 yX10_begin ∈ xgt := xwm 657 (by decide +kernel) (by decide +kernel)
theorem xw_63 : Cond.code yX11_init cX11_init 1 none ∈ xgt := xwm 147 (by decide +kernel) (by decide +kernel)
theorem xw_64 : Cond.initialized RX11 ∈ xgt := xwm 116 (by decide +kernel) (by decide +kernel)
theorem xw_65 : Cond.code yX11_back cX11_back 1 (some .int) ∈ xgt := xwm 1285 (by decide +kernel) (by decide +kernel)
theorem xw_66 : Cond.fieldLink RX11 139 (TX4 2).1 (TX4 2).2.1 (TX4 2).2.2.1 ∈ xgt := xwm 233 (by decide +kernel) (by decide +kernel)
theorem xw_67 : Cond.instanceMethod yX6_holds ∈ xgt := xwm 911 (by decide +kernel) (by decide +kernel)
theorem xw_68 : Cond.selects yX6_holds.cls yX6_holds yX6_holds ∈ xgt := xwm 912 (by decide +kernel) (by decide +kernel)
theorem xw_69 : Cond.methodLink RX11 145 yX6_holds ∈ xgt := xwm 910 (by decide +kernel) (by decide +kernel)
theorem xw_70 : Cond.code yX11_bar cX11_bar 7 (some .int) ∈ xgt := xwm 1070 (by decide +kernel) (by decide +kernel)
theorem xw_71 : Cond.instanceMethod yX1_weigh ∈ xgt := xwm 1102 (by decide +kernel) (by decide +kernel)
theorem xw_72 : Cond.selects yX1_weigh.cls yX1_weigh yX1_weigh ∈ xgt := xwm 1103 (by decide +kernel) (by decide +kernel)
theorem xw_73 : Cond.methodLink RX11 267 yX1_weigh ∈ xgt := xwm 1101 (by decide +kernel) (by decide +kernel)
theorem xw_74 : Cond.instanceMethod yX1_mostNotes ∈ xgt := xwm 1133 (by decide +kernel) (by decide +kernel)
theorem xw_75 : Cond.selects yX1_mostNotes.cls yX1_mostNotes yX1_mostNotes ∈ xgt := xwm 1134 (by decide +kernel) (by decide +kernel)
theorem xw_76 : Cond.methodLink RX11 270 yX1_mostNotes ∈ xgt := xwm 1132 (by decide +kernel) (by decide +kernel)
theorem xw_77 : Cond.instanceMethod yX1_crownsFor ∈ xgt := xwm 1137 (by decide +kernel) (by decide +kernel)
theorem xw_78 : Cond.selects yX1_crownsFor.cls yX1_crownsFor yX1_crownsFor ∈ xgt := xwm 1138 (by decide +kernel) (by decide +kernel)
theorem xw_79 : Cond.methodLink RX11 273 yX1_crownsFor ∈ xgt := xwm 1136 (by decide +kernel) (by decide +kernel)
theorem xw_80 : Cond.code yX11_best cX11_best 4 (some .int) ∈ xgt := xwm 1100 (by decide +kernel) (by decide +kernel)
theorem xw_81 : Cond.fieldLink RX11 142 (TX4 3).1 (TX4 3).2.1 (TX4 3).2.2.1 ∈ xgt := xwm 237 (by decide +kernel) (by decide +kernel)
theorem xw_82 : Cond.code yX11_bids cX11_bids 3 (some .int) ∈ xgt := xwm 1027 (by decide +kernel) (by decide +kernel)
theorem xw_83 : Cond.instanceMethod yX4_hasPart ∈ xgt := xwm 923 (by decide +kernel) (by decide +kernel)
theorem xw_84 : Cond.selects yX4_hasPart.cls yX4_hasPart yX4_hasPart ∈ xgt := xwm 924 (by decide +kernel) (by decide +kernel)
theorem xw_85 : Cond.methodLink RX11 195 yX4_hasPart ∈ xgt := xwm 922 (by decide +kernel) (by decide +kernel)
theorem xw_86 : Cond.code yX11_chosen cX11_chosen 5 (some .int) ∈ xgt := xwm 1143 (by decide +kernel) (by decide +kernel)
theorem xw_87 : Cond.fieldLink RX11 127 (TX4 0).1 (TX4 0).2.1 (TX4 0).2.2.1 ∈ xgt := xwm 223 (by decide +kernel) (by decide +kernel)
theorem xw_88 : Cond.fieldLink RX11 292 (TX6 1).1 (TX6 1).2.1 (TX6 1).2.2.1 ∈ xgt := xwm 170 (by decide +kernel) (by decide +kernel)
theorem xw_89 : Cond.fieldLink RX11 136 (TX4 1).1 (TX4 1).2.1 (TX4 1).2.2.1 ∈ xgt := xwm 227 (by decide +kernel) (by decide +kernel)
theorem xw_90 : Cond.fieldLink RX11 357 (TX4 15).1 (TX4 15).2.1 (TX4 15).2.2.1 ∈ xgt := xwm 282 (by decide +kernel) (by decide +kernel)
theorem xw_91 : Cond.fieldLink RX11 361 (TX2 4).1 (TX2 4).2.1 (TX2 4).2.2.1 ∈ xgt := xwm 193 (by decide +kernel) (by decide +kernel)
theorem xw_92 : Cond.fieldLink RX11 227 (TX10 7).1 (TX10 7).2.1 (TX10 7).2.2.1 ∈ xgt := xwm 467 (by decide +kernel) (by decide +kernel)
theorem xw_93 : Cond.fieldLink RX11 239 (TX10 8).1 (TX10 8).2.1 (TX10 8).2.2.1 ∈ xgt := xwm 469 (by decide +kernel) (by decide +kernel)
theorem xw_94 : Cond.fieldLink RX11 246 (TX10 6).1 (TX10 6).2.1 (TX10 6).2.2.1 ∈ xgt := xwm 464 (by decide +kernel) (by decide +kernel)
theorem xw_95 : Cond.fieldLink RX11 121 (TX3 1).1 (TX3 1).2.1 (TX3 1).2.2.1 ∈ xgt := xwm 514 (by decide +kernel) (by decide +kernel)
theorem xw_96 : Cond.instanceMethod yX11_knownCount ∈ xgt := xwm 1198 (by decide +kernel) (by decide +kernel)
theorem xw_97 : Cond.selects yX11_knownCount.cls yX11_knownCount yX11_knownCount ∈ xgt := xwm 41 (by decide +kernel) (by decide +kernel)
theorem xw_98 : Cond.methodLink RX11 302 yX11_knownCount ∈ xgt := xwm 1196 (by decide +kernel) (by decide +kernel)
theorem xw_99 : Cond.fieldLink RX11 325 (TX10 10).1 (TX10 10).2.1 (TX10 10).2.2.1 ∈ xgt := xwm 475 (by decide +kernel) (by decide +kernel)
theorem xw_100 : Cond.methodLink RX11 216 yJ6_bitCount_0f7a4 ∈ xgt := xwm 1023 (by decide +kernel) (by decide +kernel)
theorem xw_101 : Cond.static yJ6_bitCount_0f7a4 ∈ xgt := xwm 959 (by decide +kernel) (by decide +kernel)
theorem xw_102 : Cond.instanceMethod yX10_allCoin ∈ xgt := xwm 1291 (by decide +kernel) (by decide +kernel)
theorem xw_103 : Cond.selects yX10_allCoin.cls yX10_allCoin yX10_allCoin ∈ xgt := xwm 1292 (by decide +kernel) (by decide +kernel)
theorem xw_104 : Cond.methodLink RX11 364 yX10_allCoin ∈ xgt := xwm 1290 (by decide +kernel) (by decide +kernel)
theorem xw_105 : Cond.code yX11_count cX11_count 2 (some .int) ∈ xgt := xwm 1289 (by decide +kernel) (by decide +kernel)
theorem xw_106 : Cond.code yX11_crackBoys cX11_crackBoys 3 none ∈ xgt := xwm 1084 (by decide +kernel) (by decide +kernel)
theorem xw_107 : Cond.code yX11_cracks cX11_cracks 2 (some .int) ∈ xgt := xwm 1037 (by decide +kernel) (by decide +kernel)
theorem xw_108 : Cond.code yX11_due cX11_due 4 (some .int) ∈ xgt := xwm 939 (by decide +kernel) (by decide +kernel)
theorem xw_109 : Cond.instanceMethod yX4_hasVerses ∈ xgt := xwm 1158 (by decide +kernel) (by decide +kernel)
theorem xw_110 : Cond.selects yX4_hasVerses.cls yX4_hasVerses yX4_hasVerses ∈ xgt := xwm 1159 (by decide +kernel) (by decide +kernel)
theorem xw_111 : Cond.methodLink RX11 280 yX4_hasVerses ∈ xgt := xwm 1157 (by decide +kernel) (by decide +kernel)
theorem xw_112 : Cond.instanceMethod yX7_hold ∈ xgt := xwm 1162 (by decide +kernel) (by decide +kernel)
theorem xw_113 : Cond.selects yX7_hold.cls yX7_hold yX7_hold ∈ xgt := xwm 1163 (by decide +kernel) (by decide +kernel)
theorem xw_114 : Cond.methodLink RX11 283 yX7_hold ∈ xgt := xwm 1161 (by decide +kernel) (by decide +kernel)
theorem xw_115 : Cond.code yX11_easter cX11_easter 4 (some .int) ∈ xgt := xwm 1175 (by decide +kernel) (by decide +kernel)
theorem xw_116 : Cond.instanceMethod yX11_isRound ∈ xgt := xwm 1233 (by decide +kernel) (by decide +kernel)
theorem xw_117 : Cond.selects yX11_isRound.cls yX11_isRound yX11_isRound ∈ xgt := xwm 43 (by decide +kernel) (by decide +kernel)
theorem xw_118 : Cond.methodLink RX11 331 yX11_isRound ∈ xgt := xwm 1231 (by decide +kernel) (by decide +kernel)
theorem xw_119 : Cond.code yX11_entry cX11_entry 7 (some .int) ∈ xgt := xwm 1255 (by decide +kernel) (by decide +kernel)
theorem xw_120 : Cond.code yX11_fault cX11_fault 2 (some .int) ∈ xgt := xwm 900 (by decide +kernel) (by decide +kernel)
theorem xw_121 : Cond.instanceMethod yX11_tapeNumber ∈ xgt := xwm 723 (by decide +kernel) (by decide +kernel)
theorem xw_122 : Cond.selects yX11_tapeNumber.cls yX11_tapeNumber yX11_tapeNumber ∈ xgt := xwm 1 (by decide +kernel) (by decide +kernel)
theorem xw_123 : Cond.methodLink RX11 104 yX11_tapeNumber ∈ xgt := xwm 721 (by decide +kernel) (by decide +kernel)
theorem xw_124 : Cond.code yX11_feed cX11_feed 6 (some .int) ∈ xgt := xwm 720 (by decide +kernel) (by decide +kernel)
theorem xw_125 : Cond.instanceMethod yX3_pitches ∈ xgt := xwm 1201 (by decide +kernel) (by decide +kernel)
theorem xw_126 : Cond.selects yX3_pitches.cls yX3_pitches yX3_pitches ∈ xgt := xwm 1202 (by decide +kernel) (by decide +kernel)
theorem xw_127 : Cond.methodLink RX11 306 yX3_pitches ∈ xgt := xwm 1200 (by decide +kernel) (by decide +kernel)
theorem xw_128 : Cond.instanceMethod yX11_reachOf ∈ xgt := xwm 1225 (by decide +kernel) (by decide +kernel)
theorem xw_129 : Cond.selects yX11_reachOf.cls yX11_reachOf yX11_reachOf ∈ xgt := xwm 42 (by decide +kernel) (by decide +kernel)
theorem xw_130 : Cond.methodLink RX11 328 yX11_reachOf ∈ xgt := xwm 1223 (by decide +kernel) (by decide +kernel)
theorem xw_131 : Cond.constantLong RX11 313 (lN 18446744073709551615) ∈ xgt := xwm 1210 (by decide +kernel) (by decide +kernel)
theorem xw_132 : Cond.code yX11_gang cX11_gang 7 (some .int) ∈ xgt := xwm 1222 (by decide +kernel) (by decide +kernel)
theorem xw_133 : Cond.instanceMethod yX3_add ∈ xgt := xwm 1181 (by decide +kernel) (by decide +kernel)
theorem xw_134 : Cond.selects yX3_add.cls yX3_add yX3_add ∈ xgt := xwm 1182 (by decide +kernel) (by decide +kernel)
theorem xw_135 : Cond.methodLink RX11 296 yX3_add ∈ xgt := xwm 1180 (by decide +kernel) (by decide +kernel)
theorem xw_136 : Cond.code yX11_hum cX11_hum 2 (some .int) ∈ xgt := xwm 1179 (by decide +kernel) (by decide +kernel)
theorem xw_137 : Cond.code yX11_isRound cX11_isRound 5 (some .boolean) ∈ xgt := xwm 1234 (by decide +kernel) (by decide +kernel)
theorem xw_138 : Cond.instanceMethod yX10_take ∈ xgt := xwm 1279 (by decide +kernel) (by decide +kernel)
theorem xw_139 : Cond.selects yX10_take.cls yX10_take yX10_take ∈ xgt := xwm 1280 (by decide +kernel) (by decide +kernel)
theorem xw_140 : Cond.methodLink RX11 354 yX10_take ∈ xgt := xwm 1278 (by decide +kernel) (by decide +kernel)
theorem xw_141 : Cond.code yX11_keep cX11_keep 1 (some .int) ∈ xgt := xwm 1277 (by decide +kernel) (by decide +kernel)
theorem xw_142 : Cond.fieldLink RX11 299 (TX10 11).1 (TX10 11).2.1 (TX10 11).2.2.1 ∈ xgt := xwm 477 (by decide +kernel) (by decide +kernel)
theorem xw_143 : Cond.code yX11_known cX11_known 2 (some .boolean) ∈ xgt := xwm 1191 (by decide +kernel) (by decide +kernel)
theorem xw_144 : Cond.code yX11_knownCount cX11_knownCount 1 (some .int) ∈ xgt := xwm 1199 (by decide +kernel) (by decide +kernel)
theorem xw_145 : Cond.instanceMethod yX6_find ∈ xgt := xwm 793 (by decide +kernel) (by decide +kernel)
theorem xw_146 : Cond.selects yX6_find.cls yX6_find yX6_find ∈ xgt := xwm 794 (by decide +kernel) (by decide +kernel)
theorem xw_147 : Cond.methodLink RX11 131 yX6_find ∈ xgt := xwm 905 (by decide +kernel) (by decide +kernel)
theorem xw_148 : Cond.code yX11_named cX11_named 3 (some .int) ∈ xgt := xwm 904 (by decide +kernel) (by decide +kernel)
theorem xw_149 : Cond.code yX11_odds cX11_odds 6 (some .int) ∈ xgt := xwm 1214 (by decide +kernel) (by decide +kernel)
theorem xw_150 : Cond.code yX11_pay cX11_pay 5 (some .int) ∈ xgt := xwm 1268 (by decide +kernel) (by decide +kernel)
theorem xw_151 : Cond.code yX11_pitch cX11_pitch 5 (some .int) ∈ xgt := xwm 931 (by decide +kernel) (by decide +kernel)
theorem xw_152 : Cond.code yX11_reachOf cX11_reachOf 5 (some .long) ∈ xgt := xwm 1226 (by decide +kernel) (by decide +kernel)
theorem xw_153 : Cond.code yX11_redeem cX11_redeem 6 (some .int) ∈ xgt := xwm 1045 (by decide +kernel) (by decide +kernel)
theorem xw_154 : Cond.code yX11_round cX11_round 5 (some .int) ∈ xgt := xwm 1230 (by decide +kernel) (by decide +kernel)
theorem xw_155 : Cond.code yX11_run cX11_run 3 (some .int) ∈ xgt := xwm 1259 (by decide +kernel) (by decide +kernel)
theorem xw_156 : Cond.code yX11_sings cX11_sings 4 (some .int) ∈ xgt := xwm 1066 (by decide +kernel) (by decide +kernel)
theorem xw_157 : Cond.code yX11_sold cX11_sold 4 (some .int) ∈ xgt := xwm 1156 (by decide +kernel) (by decide +kernel)
theorem xw_158 : Cond.code yX11_sounds cX11_sounds 4 (some .int) ∈ xgt := xwm 1021 (by decide +kernel) (by decide +kernel)
theorem xw_159 : Cond.code yX11_strike cX11_strike 2 (some .int) ∈ xgt := xwm 1187 (by decide +kernel) (by decide +kernel)
theorem xw_160 : Cond.instanceMethod yX10_dismissAll ∈ xgt := xwm 668 (by decide +kernel) (by decide +kernel)
theorem xw_161 : Cond.selects yX10_dismissAll.cls yX10_dismissAll yX10_dismissAll ∈ xgt := xwm 669 (by decide +kernel) (by decide +kernel)
theorem xw_162 : Cond.methodLink RX11 261 yX10_dismissAll ∈ xgt := xwm 1080 (by decide +kernel) (by decide +kernel)
theorem xw_163 : Cond.instanceMethod yX11_crackBoys ∈ xgt := xwm 1083 (by decide +kernel) (by decide +kernel)
theorem xw_164 : Cond.selects yX11_crackBoys.cls yX11_crackBoys yX11_crackBoys ∈ xgt := xwm 33 (by decide +kernel) (by decide +kernel)
theorem xw_165 : Cond.methodLink RX11 264 yX11_crackBoys ∈ xgt := xwm 1081 (by decide +kernel) (by decide +kernel)
theorem xw_166 : Cond.fieldLink RX11 124 (TX1 10).1 (TX1 10).2.1 (TX1 10).2.2.1 ∈ xgt := xwm 566 (by decide +kernel) (by decide +kernel)
theorem xw_167 : Cond.code yX11_sunday cX11_sunday 3 (some .int) ∈ xgt := xwm 1074 (by decide +kernel) (by decide +kernel)
theorem xw_168 : Cond.code yX11_tapeNumber cX11_tapeNumber 3 none ∈ xgt := xwm 724 (by decide +kernel) (by decide +kernel)
theorem xw_169 : Cond.code yX11_tavern cX11_tavern 3 (some .int) ∈ xgt := xwm 909 (by decide +kernel) (by decide +kernel)
theorem xw_170 : Cond.instanceMethod yX8_tell ∈ xgt := xwm 730 (by decide +kernel) (by decide +kernel)
theorem xw_171 : Cond.selects yX8_tell.cls yX8_tell yX8_tell ∈ xgt := xwm 731 (by decide +kernel) (by decide +kernel)
theorem xw_172 : Cond.methodLink RX11 108 yX8_tell ∈ xgt := xwm 729 (by decide +kernel) (by decide +kernel)
theorem xw_173 : Cond.fieldLink RX11 112 (TX8 0).1 (TX8 0).2.1 (TX8 0).2.2.1 ∈ xgt := xwm 431 (by decide +kernel) (by decide +kernel)
theorem xw_174 : Cond.fieldLink RX11 116 (TX9 7).1 (TX9 7).2.1 (TX9 7).2.2.1 ∈ xgt := xwm 404 (by decide +kernel) (by decide +kernel)
theorem xw_175 : Cond.fieldLink RX11 117 (TX9 8).1 (TX9 8).2.1 (TX9 8).2.2.1 ∈ xgt := xwm 406 (by decide +kernel) (by decide +kernel)
theorem xw_176 : Cond.instanceMethod yX4_take ∈ xgt := xwm 883 (by decide +kernel) (by decide +kernel)
theorem xw_177 : Cond.selects yX4_take.cls yX4_take yX4_take ∈ xgt := xwm 884 (by decide +kernel) (by decide +kernel)
theorem xw_178 : Cond.methodLink RX11 118 yX4_take ∈ xgt := xwm 882 (by decide +kernel) (by decide +kernel)
theorem xw_179 : Cond.code yX11_text cX11_text 3 (some .int) ∈ xgt := xwm 728 (by decide +kernel) (by decide +kernel)
theorem xw_180 : Cond.code yX11_thieves cX11_thieves 5 (some .int) ∈ xgt := xwm 1195 (by decide +kernel) (by decide +kernel)
theorem xw_181 : Cond.code yX11_undo cX11_undo 3 (some .int) ∈ xgt := xwm 1058 (by decide +kernel) (by decide +kernel)
theorem xw_182 : Cond.code yX11_verse cX11_verse 3 (some .int) ∈ xgt := xwm 921 (by decide +kernel) (by decide +kernel)
theorem xw_183 : Cond.code yX11_whole cX11_whole 9 (some .long) ∈ xgt := xwm 1272 (by decide +kernel) (by decide +kernel)
theorem xw_184 : Cond.methodLink RX0 3 Lib.objectInit ∈ xgt := xwm 623 (by decide +kernel) (by decide +kernel)
theorem xw_185 : Cond.arrayClass .int ∈ xgt := xwm 177 (by decide +kernel) (by decide +kernel)
theorem xw_186 : Cond.fieldLink RX0 9 (TX0 3).1 (TX0 3).2.1 (TX0 3).2.2.1 ∈ xgt := xwm 628 (by decide +kernel) (by decide +kernel)
theorem xw_187 : Cond.fieldLink RX0 15 (TX0 4).1 (TX0 4).2.1 (TX0 4).2.2.1 ∈ xgt := xwm 629 (by decide +kernel) (by decide +kernel)
theorem xw_188 : Cond.fieldLink RX0 18 (TX0 5).1 (TX0 5).2.1 (TX0 5).2.2.1 ∈ xgt := xwm 630 (by decide +kernel) (by decide +kernel)
theorem xw_189 : Cond.fieldLink RX0 21 (TX0 6).1 (TX0 6).2.1 (TX0 6).2.2.1 ∈ xgt := xwm 632 (by decide +kernel) (by decide +kernel)
theorem xw_190 : Cond.fieldLink RX0 25 (TX0 7).1 (TX0 7).2.1 (TX0 7).2.2.1 ∈ xgt := xwm 633 (by decide +kernel) (by decide +kernel)
theorem xw_191 : Cond.fieldLink RX0 28 (TX0 8).1 (TX0 8).2.1 (TX0 8).2.2.1 ∈ xgt := xwm 634 (by decide +kernel) (by decide +kernel)
theorem xw_192 : Cond.constant RX0 31 (nI 1000000) ∈ xgt := xwm 624 (by decide +kernel) (by decide +kernel)
theorem xw_193 : Cond.fieldLink RX0 32 (TX0 9).1 (TX0 9).2.1 (TX0 9).2.2.1 ∈ xgt := xwm 635 (by decide +kernel) (by decide +kernel)
theorem xw_194 : Cond.fieldLink RX0 35 (TX0 0).1 (TX0 0).2.1 (TX0 0).2.2.1 ∈ xgt := xwm 625 (by decide +kernel) (by decide +kernel)
theorem xw_195 : Cond.fieldLink RX0 39 (TX0 1).1 (TX0 1).2.1 (TX0 1).2.2.1 ∈ xgt := xwm 626 (by decide +kernel) (by decide +kernel)
theorem xw_196 : Cond.fieldLink RX0 43 (TX0 2).1 (TX0 2).2.1 (TX0 2).2.2.1 ∈ xgt := xwm 627 (by decide +kernel) (by decide +kernel)
theorem xw_197 : Cond.code yX0_init cX0_init 4 none ∈ xgt := xwm 622 (by decide +kernel) (by decide +kernel)
theorem xw_198 : Cond.methodLink RX1 5 Lib.objectInit ∈ xgt := xwm 551 (by decide +kernel) (by decide +kernel)
theorem xw_199 : Cond.fieldLink RX1 11 (TX1 3).1 (TX1 3).2.1 (TX1 3).2.2.1 ∈ xgt := xwm 557 (by decide +kernel) (by decide +kernel)
theorem xw_200 : Cond.fieldLink RX1 15 (TX1 4).1 (TX1 4).2.1 (TX1 4).2.2.1 ∈ xgt := xwm 558 (by decide +kernel) (by decide +kernel)
theorem xw_201 : Cond.fieldLink RX1 18 (TX1 5).1 (TX1 5).2.1 (TX1 5).2.2.1 ∈ xgt := xwm 559 (by decide +kernel) (by decide +kernel)
theorem xw_202 : Cond.classLink RX1 21 "[[I" ∈ xgt := xwm 552 (by decide +kernel) (by decide +kernel)
theorem xw_203 : Cond.fieldLink RX1 23 (TX1 6).1 (TX1 6).2.1 (TX1 6).2.2.1 ∈ xgt := xwm 560 (by decide +kernel) (by decide +kernel)
theorem xw_204 : Cond.fieldLink RX1 26 (TX1 7).1 (TX1 7).2.1 (TX1 7).2.2.1 ∈ xgt := xwm 561 (by decide +kernel) (by decide +kernel)
theorem xw_205 : Cond.fieldLink RX1 29 (TX1 8).1 (TX1 8).2.1 (TX1 8).2.2.1 ∈ xgt := xwm 563 (by decide +kernel) (by decide +kernel)
theorem xw_206 : Cond.fieldLink RX1 33 (TX1 9).1 (TX1 9).2.1 (TX1 9).2.2.1 ∈ xgt := xwm 564 (by decide +kernel) (by decide +kernel)
theorem xw_207 : Cond.fieldLink RX1 36 (TX1 10).1 (TX1 10).2.1 (TX1 10).2.2.1 ∈ xgt := xwm 565 (by decide +kernel) (by decide +kernel)
theorem xw_208 : Cond.fieldLink RX1 40 (TX1 0).1 (TX1 0).2.1 (TX1 0).2.2.1 ∈ xgt := xwm 554 (by decide +kernel) (by decide +kernel)
theorem xw_209 : Cond.fieldLink RX1 44 (TX1 1).1 (TX1 1).2.1 (TX1 1).2.2.1 ∈ xgt := xwm 555 (by decide +kernel) (by decide +kernel)
theorem xw_210 : Cond.fieldLink RX1 48 (TX1 2).1 (TX1 2).2.1 (TX1 2).2.2.1 ∈ xgt := xwm 556 (by decide +kernel) (by decide +kernel)
theorem xw_211 : Cond.code yX1_init cX1_init 4 none ∈ xgt := xwm 550 (by decide +kernel) (by decide +kernel)
theorem xw_212 : Cond.code yX1_crownsFor cX1_crownsFor 2 (some .int) ∈ xgt := xwm 1139 (by decide +kernel) (by decide +kernel)
theorem xw_213 : Cond.code yX1_mostNotes cX1_mostNotes 3 (some .int) ∈ xgt := xwm 1135 (by decide +kernel) (by decide +kernel)
theorem xw_214 : Cond.fieldLink RX1 52 (TX4 2).1 (TX4 2).2.1 (TX4 2).2.2.1 ∈ xgt := xwm 231 (by decide +kernel) (by decide +kernel)
theorem xw_215 : Cond.fieldLink RX1 58 (TX6 1).1 (TX6 1).2.1 (TX6 1).2.2.1 ∈ xgt := xwm 169 (by decide +kernel) (by decide +kernel)
theorem xw_216 : Cond.constant RX1 63 (nI 1000000) ∈ xgt := xwm 1105 (by decide +kernel) (by decide +kernel)
theorem xw_217 : Cond.methodLink RX1 64 yJ7_fill_53178 ∈ xgt := xwm 1106 (by decide +kernel) (by decide +kernel)
theorem xw_218 : Cond.static yJ7_fill_53178 ∈ xgt := xwm 662 (by decide +kernel) (by decide +kernel)
theorem xw_219 : Cond.code yX1_weigh cX1_weigh 4 none ∈ xgt := xwm 1104 (by decide +kernel) (by decide +kernel)
theorem xw_220 : Cond.methodLink RX2 3 Lib.objectInit ∈ xgt := xwm 183 (by decide +kernel) (by decide +kernel)
theorem xw_221 : Cond.fieldLink RX2 9 (TX2 0).1 (TX2 0).2.1 (TX2 0).2.2.1 ∈ xgt := xwm 184 (by decide +kernel) (by decide +kernel)
theorem xw_222 : Cond.fieldLink RX2 15 (TX2 1).1 (TX2 1).2.1 (TX2 1).2.2.1 ∈ xgt := xwm 186 (by decide +kernel) (by decide +kernel)
theorem xw_223 : Cond.fieldLink RX2 18 (TX2 2).1 (TX2 2).2.1 (TX2 2).2.2.1 ∈ xgt := xwm 188 (by decide +kernel) (by decide +kernel)
theorem xw_224 : Cond.fieldLink RX2 21 (TX2 3).1 (TX2 3).2.1 (TX2 3).2.2.1 ∈ xgt := xwm 190 (by decide +kernel) (by decide +kernel)
theorem xw_225 : Cond.fieldLink RX2 24 (TX2 4).1 (TX2 4).2.1 (TX2 4).2.2.1 ∈ xgt := xwm 192 (by decide +kernel) (by decide +kernel)
theorem xw_226 : Cond.fieldLink RX2 28 (TX2 5).1 (TX2 5).2.1 (TX2 5).2.2.1 ∈ xgt := xwm 194 (by decide +kernel) (by decide +kernel)
theorem xw_227 : Cond.fieldLink RX2 31 (TX2 6).1 (TX2 6).2.1 (TX2 6).2.2.1 ∈ xgt := xwm 195 (by decide +kernel) (by decide +kernel)
theorem xw_228 : Cond.fieldLink RX2 34 (TX2 7).1 (TX2 7).2.1 (TX2 7).2.2.1 ∈ xgt := xwm 196 (by decide +kernel) (by decide +kernel)
theorem xw_229 : Cond.fieldLink RX2 37 (TX2 8).1 (TX2 8).2.1 (TX2 8).2.2.1 ∈ xgt := xwm 197 (by decide +kernel) (by decide +kernel)
theorem xw_230 : Cond.fieldLink RX2 40 (TX2 9).1 (TX2 9).2.1 (TX2 9).2.2.1 ∈ xgt := xwm 198 (by decide +kernel) (by decide +kernel)
theorem xw_231 : Cond.code yX2_init cX2_init 1 none ∈ xgt := xwm 182 (by decide +kernel) (by decide +kernel)
theorem xw_232 : Cond.initialized RX2 ∈ xgt := xwm 119 (by decide +kernel) (by decide +kernel)
theorem xw_233 : Cond.methodLink RX2 44 yJ7_fill_53178 ∈ xgt := xwm 741 (by decide +kernel) (by decide +kernel)
theorem xw_234 : Cond.code yX2_clear cX2_clear 1 none ∈ xgt := xwm 740 (by decide +kernel) (by decide +kernel)
theorem xw_235 : Cond.methodLink RX2 50 arraycopyName ∈ xgt := xwm 896 (by decide +kernel) (by decide +kernel)
theorem xw_236 : Cond.native arraycopyName ∈ xgt := xwm 666 (by decide +kernel) (by decide +kernel)
theorem xw_237 : Cond.static arraycopyName ∈ xgt := xwm 665 (by decide +kernel) (by decide +kernel)
theorem xw_238 : Cond.initialized "java/lang/System" ∈ xgt := xwm 133 (by decide +kernel) (by decide +kernel)
theorem xw_239 : Cond.code yX2_take cX2_take 2 none ∈ xgt := xwm 895 (by decide +kernel) (by decide +kernel)
theorem xw_240 : Cond.methodLink RX3 3 Lib.objectInit ∈ xgt := xwm 511 (by decide +kernel) (by decide +kernel)
theorem xw_241 : Cond.fieldLink RX3 9 (TX3 0).1 (TX3 0).2.1 (TX3 0).2.2.1 ∈ xgt := xwm 512 (by decide +kernel) (by decide +kernel)
theorem xw_242 : Cond.fieldLink RX3 15 (TX3 1).1 (TX3 1).2.1 (TX3 1).2.2.1 ∈ xgt := xwm 513 (by decide +kernel) (by decide +kernel)
theorem xw_243 : Cond.code yX3_init cX3_init 1 none ∈ xgt := xwm 510 (by decide +kernel) (by decide +kernel)
theorem xw_244 : Cond.code yX3_add cX3_add 2 (some .int) ∈ xgt := xwm 1183 (by decide +kernel) (by decide +kernel)
theorem xw_245 : Cond.methodLink RX3 19 Lib.Math.min.name ∈ xgt := xwm 1204 (by decide +kernel) (by decide +kernel)
theorem xw_246 : Cond.static Lib.Math.min.name ∈ xgt := xwm 747 (by decide +kernel) (by decide +kernel)
theorem xw_247 : Cond.initialized "java/lang/Math" ∈ xgt := xwm 135 (by decide +kernel) (by decide +kernel)
theorem xw_248 : Cond.code Lib.Math.min.name Lib.Math.min.code 2 (some .int) ∈ xgt := xwm 748 (by decide +kernel) (by decide +kernel)
theorem xw_249 : Cond.code yX3_pitches cX3_pitches 6 (some .long) ∈ xgt := xwm 1203 (by decide +kernel) (by decide +kernel)
theorem xw_250 : Cond.methodLink RX4 3 Lib.objectInit ∈ xgt := xwm 156 (by decide +kernel) (by decide +kernel)
theorem xw_251 : Cond.classLink RX4 9 RX6 ∈ xgt := xwm 157 (by decide +kernel) (by decide +kernel)
theorem xw_252 : Cond.instantiable RX6 2 ∈ xgt := xwm 158 (by decide +kernel) (by decide +kernel)
theorem xw_253 : Cond.initialized RX6 ∈ xgt := xwm 118 (by decide +kernel) (by decide +kernel)
theorem xw_254 : Cond.instanceMethod yX6_init ∈ xgt := xwm 160 (by decide +kernel) (by decide +kernel)
theorem xw_255 : Cond.methodLink RX4 11 yX6_init ∈ xgt := xwm 159 (by decide +kernel) (by decide +kernel)
theorem xw_256 : Cond.fieldLink RX4 14 (TX4 0).1 (TX4 0).2.1 (TX4 0).2.2.1 ∈ xgt := xwm 220 (by decide +kernel) (by decide +kernel)
theorem xw_257 : Cond.fieldLink RX4 20 (TX4 1).1 (TX4 1).2.1 (TX4 1).2.2.1 ∈ xgt := xwm 224 (by decide +kernel) (by decide +kernel)
theorem xw_258 : Cond.fieldLink RX4 23 (TX4 2).1 (TX4 2).2.1 (TX4 2).2.2.1 ∈ xgt := xwm 229 (by decide +kernel) (by decide +kernel)
theorem xw_259 : Cond.fieldLink RX4 26 (TX4 3).1 (TX4 3).2.1 (TX4 3).2.2.1 ∈ xgt := xwm 234 (by decide +kernel) (by decide +kernel)
theorem xw_260 : Cond.fieldLink RX4 29 (TX4 4).1 (TX4 4).2.1 (TX4 4).2.2.1 ∈ xgt := xwm 239 (by decide +kernel) (by decide +kernel)
theorem xw_261 : Cond.fieldLink RX4 33 (TX4 5).1 (TX4 5).2.1 (TX4 5).2.2.1 ∈ xgt := xwm 243 (by decide +kernel) (by decide +kernel)
theorem xw_262 : Cond.fieldLink RX4 36 (TX4 6).1 (TX4 6).2.1 (TX4 6).2.2.1 ∈ xgt := xwm 246 (by decide +kernel) (by decide +kernel)
theorem xw_263 : Cond.fieldLink RX4 39 (TX4 7).1 (TX4 7).2.1 (TX4 7).2.2.1 ∈ xgt := xwm 249 (by decide +kernel) (by decide +kernel)
theorem xw_264 : Cond.fieldLink RX4 42 (TX4 8).1 (TX4 8).2.1 (TX4 8).2.2.1 ∈ xgt := xwm 253 (by decide +kernel) (by decide +kernel)
theorem xw_265 : Cond.fieldLink RX4 45 (TX4 9).1 (TX4 9).2.1 (TX4 9).2.2.1 ∈ xgt := xwm 257 (by decide +kernel) (by decide +kernel)
theorem xw_266 : Cond.fieldLink RX4 48 (TX4 10).1 (TX4 10).2.1 (TX4 10).2.2.1 ∈ xgt := xwm 261 (by decide +kernel) (by decide +kernel)
theorem xw_267 : Cond.fieldLink RX4 51 (TX4 11).1 (TX4 11).2.1 (TX4 11).2.2.1 ∈ xgt := xwm 264 (by decide +kernel) (by decide +kernel)
theorem xw_268 : Cond.fieldLink RX4 54 (TX4 12).1 (TX4 12).2.1 (TX4 12).2.2.1 ∈ xgt := xwm 269 (by decide +kernel) (by decide +kernel)
theorem xw_269 : Cond.fieldLink RX4 57 (TX4 13).1 (TX4 13).2.1 (TX4 13).2.2.1 ∈ xgt := xwm 274 (by decide +kernel) (by decide +kernel)
theorem xw_270 : Cond.fieldLink RX4 60 (TX4 14).1 (TX4 14).2.1 (TX4 14).2.2.1 ∈ xgt := xwm 276 (by decide +kernel) (by decide +kernel)
theorem xw_271 : Cond.classLink RX4 63 RX2 ∈ xgt := xwm 178 (by decide +kernel) (by decide +kernel)
theorem xw_272 : Cond.instantiable RX2 10 ∈ xgt := xwm 179 (by decide +kernel) (by decide +kernel)
theorem xw_273 : Cond.instanceMethod yX2_init ∈ xgt := xwm 181 (by decide +kernel) (by decide +kernel)
theorem xw_274 : Cond.fieldLink RX4 66 (TX4 15).1 (TX4 15).2.1 (TX4 15).2.2.1 ∈ xgt := xwm 279 (by decide +kernel) (by decide +kernel)
theorem xw_275 : Cond.fieldLink RX4 70 (TX4 16).1 (TX4 16).2.1 (TX4 16).2.2.1 ∈ xgt := xwm 283 (by decide +kernel) (by decide +kernel)
theorem xw_276 : Cond.fieldLink RX4 74 (TX4 17).1 (TX4 17).2.1 (TX4 17).2.2.1 ∈ xgt := xwm 285 (by decide +kernel) (by decide +kernel)
theorem xw_277 : Cond.fieldLink RX4 77 (TX4 18).1 (TX4 18).2.1 (TX4 18).2.2.1 ∈ xgt := xwm 288 (by decide +kernel) (by decide +kernel)
theorem xw_278 : Cond.code yX4_init cX4_init 1 none ∈ xgt := xwm 155 (by decide +kernel) (by decide +kernel)
theorem xw_279 : Cond.fieldLink RX4 80 (TX6 1).1 (TX6 1).2.1 (TX6 1).2.2.1 ∈ xgt := xwm 165 (by decide +kernel) (by decide +kernel)
theorem xw_280 : Cond.instanceMethod yX2_clear ∈ xgt := xwm 738 (by decide +kernel) (by decide +kernel)
theorem xw_281 : Cond.selects yX2_clear.cls yX2_clear yX2_clear ∈ xgt := xwm 739 (by decide +kernel) (by decide +kernel)
theorem xw_282 : Cond.methodLink RX4 83 yX2_clear ∈ xgt := xwm 737 (by decide +kernel) (by decide +kernel)
theorem xw_283 : Cond.code yX4_clear cX4_clear 1 none ∈ xgt := xwm 736 (by decide +kernel) (by decide +kernel)
theorem xw_284 : Cond.methodLink RX4 99 yX6_holds ∈ xgt := xwm 926 (by decide +kernel) (by decide +kernel)
theorem xw_285 : Cond.code yX4_hasPart cX4_hasPart 3 (some .boolean) ∈ xgt := xwm 925 (by decide +kernel) (by decide +kernel)
theorem xw_286 : Cond.code yX4_hasVerses cX4_hasVerses 2 (some .boolean) ∈ xgt := xwm 1160 (by decide +kernel) (by decide +kernel)
theorem xw_287 : Cond.instanceMethod yX6_take ∈ xgt := xwm 887 (by decide +kernel) (by decide +kernel)
theorem xw_288 : Cond.selects yX6_take.cls yX6_take yX6_take ∈ xgt := xwm 888 (by decide +kernel) (by decide +kernel)
theorem xw_289 : Cond.methodLink RX4 86 yX6_take ∈ xgt := xwm 886 (by decide +kernel) (by decide +kernel)
theorem xw_290 : Cond.methodLink RX4 90 arraycopyName ∈ xgt := xwm 891 (by decide +kernel) (by decide +kernel)
theorem xw_291 : Cond.instanceMethod yX2_take ∈ xgt := xwm 893 (by decide +kernel) (by decide +kernel)
theorem xw_292 : Cond.selects yX2_take.cls yX2_take yX2_take ∈ xgt := xwm 894 (by decide +kernel) (by decide +kernel)
theorem xw_293 : Cond.methodLink RX4 96 yX2_take ∈ xgt := xwm 892 (by decide +kernel) (by decide +kernel)
theorem xw_294 : Cond.code yX4_take cX4_take 2 none ∈ xgt := xwm 885 (by decide +kernel) (by decide +kernel)
theorem xw_295 : Cond.methodLink RX5 3 Lib.objectInit ∈ xgt := xwm 525 (by decide +kernel) (by decide +kernel)
theorem xw_296 : Cond.arrayClass .long ∈ xgt := xwm 545 (by decide +kernel) (by decide +kernel)
theorem xw_297 : Cond.fieldLink RX5 9 (TX5 2).1 (TX5 2).2.1 (TX5 2).2.2.1 ∈ xgt := xwm 528 (by decide +kernel) (by decide +kernel)
theorem xw_298 : Cond.fieldLink RX5 15 (TX5 3).1 (TX5 3).2.1 (TX5 3).2.2.1 ∈ xgt := xwm 529 (by decide +kernel) (by decide +kernel)
theorem xw_299 : Cond.fieldLink RX5 18 (TX5 4).1 (TX5 4).2.1 (TX5 4).2.2.1 ∈ xgt := xwm 530 (by decide +kernel) (by decide +kernel)
theorem xw_300 : Cond.fieldLink RX5 22 (TX5 5).1 (TX5 5).2.1 (TX5 5).2.2.1 ∈ xgt := xwm 531 (by decide +kernel) (by decide +kernel)
theorem xw_301 : Cond.fieldLink RX5 26 (TX5 0).1 (TX5 0).2.1 (TX5 0).2.2.1 ∈ xgt := xwm 526 (by decide +kernel) (by decide +kernel)
theorem xw_302 : Cond.fieldLink RX5 30 (TX5 1).1 (TX5 1).2.1 (TX5 1).2.2.1 ∈ xgt := xwm 527 (by decide +kernel) (by decide +kernel)
theorem xw_303 : Cond.code yX5_init cX5_init 3 none ∈ xgt := xwm 524 (by decide +kernel) (by decide +kernel)
theorem xw_304 : Cond.methodLink RX6 3 Lib.objectInit ∈ xgt := xwm 162 (by decide +kernel) (by decide +kernel)
theorem xw_305 : Cond.fieldLink RX6 9 (TX6 1).1 (TX6 1).2.1 (TX6 1).2.2.1 ∈ xgt := xwm 164 (by decide +kernel) (by decide +kernel)
theorem xw_306 : Cond.fieldLink RX6 15 (TX6 0).1 (TX6 0).2.1 (TX6 0).2.2.1 ∈ xgt := xwm 163 (by decide +kernel) (by decide +kernel)
theorem xw_307 : Cond.code yX6_init cX6_init 2 none ∈ xgt := xwm 161 (by decide +kernel) (by decide +kernel)
theorem xw_308 : Cond.code yX6_find cX6_find 3 (some .int) ∈ xgt := xwm 795 (by decide +kernel) (by decide +kernel)
theorem xw_309 : Cond.code yX6_holds cX6_holds 2 (some .boolean) ∈ xgt := xwm 913 (by decide +kernel) (by decide +kernel)
theorem xw_310 : Cond.methodLink RX6 23 arraycopyName ∈ xgt := xwm 890 (by decide +kernel) (by decide +kernel)
theorem xw_311 : Cond.code yX6_take cX6_take 2 none ∈ xgt := xwm 889 (by decide +kernel) (by decide +kernel)
theorem xw_312 : Cond.methodLink RX7 3 Lib.objectInit ∈ xgt := xwm 595 (by decide +kernel) (by decide +kernel)
theorem xw_313 : Cond.fieldLink RX7 9 (TX7 3).1 (TX7 3).2.1 (TX7 3).2.2.1 ∈ xgt := xwm 599 (by decide +kernel) (by decide +kernel)
theorem xw_314 : Cond.fieldLink RX7 15 (TX7 4).1 (TX7 4).2.1 (TX7 4).2.2.1 ∈ xgt := xwm 601 (by decide +kernel) (by decide +kernel)
theorem xw_315 : Cond.fieldLink RX7 18 (TX7 5).1 (TX7 5).2.1 (TX7 5).2.2.1 ∈ xgt := xwm 603 (by decide +kernel) (by decide +kernel)
theorem xw_316 : Cond.fieldLink RX7 21 (TX7 0).1 (TX7 0).2.1 (TX7 0).2.2.1 ∈ xgt := xwm 596 (by decide +kernel) (by decide +kernel)
theorem xw_317 : Cond.fieldLink RX7 25 (TX7 1).1 (TX7 1).2.1 (TX7 1).2.2.1 ∈ xgt := xwm 597 (by decide +kernel) (by decide +kernel)
theorem xw_318 : Cond.fieldLink RX7 29 (TX7 2).1 (TX7 2).2.1 (TX7 2).2.2.1 ∈ xgt := xwm 598 (by decide +kernel) (by decide +kernel)
theorem xw_319 : Cond.code yX7_init cX7_init 4 none ∈ xgt := xwm 594 (by decide +kernel) (by decide +kernel)
theorem xw_320 : Cond.fieldLink RX7 33 (TX10 2).1 (TX10 2).2.1 (TX10 2).2.2.1 ∈ xgt := xwm 455 (by decide +kernel) (by decide +kernel)
theorem xw_321 : Cond.methodLink RX7 38 arraycopyName ∈ xgt := xwm 1165 (by decide +kernel) (by decide +kernel)
theorem xw_322 : Cond.fieldLink RX7 44 (TX4 2).1 (TX4 2).2.1 (TX4 2).2.2.1 ∈ xgt := xwm 230 (by decide +kernel) (by decide +kernel)
theorem xw_323 : Cond.fieldLink RX7 50 (TX6 1).1 (TX6 1).2.1 (TX6 1).2.2.1 ∈ xgt := xwm 167 (by decide +kernel) (by decide +kernel)
theorem xw_324 : Cond.code yX7_hold cX7_hold 4 (some .int) ∈ xgt := xwm 1164 (by decide +kernel) (by decide +kernel)
theorem xw_325 : Cond.methodLink RX8 3 Lib.objectInit ∈ xgt := xwm 429 (by decide +kernel) (by decide +kernel)
theorem xw_326 : Cond.fieldLink RX8 9 (TX8 2).1 (TX8 2).2.1 (TX8 2).2.2.1 ∈ xgt := xwm 433 (by decide +kernel) (by decide +kernel)
theorem xw_327 : Cond.fieldLink RX8 15 (TX8 3).1 (TX8 3).2.1 (TX8 3).2.2.1 ∈ xgt := xwm 434 (by decide +kernel) (by decide +kernel)
theorem xw_328 : Cond.fieldLink RX8 18 (TX8 0).1 (TX8 0).2.1 (TX8 0).2.2.1 ∈ xgt := xwm 430 (by decide +kernel) (by decide +kernel)
theorem xw_329 : Cond.fieldLink RX8 22 (TX8 1).1 (TX8 1).2.1 (TX8 1).2.2.1 ∈ xgt := xwm 432 (by decide +kernel) (by decide +kernel)
theorem xw_330 : Cond.code yX8_init cX8_init 3 none ∈ xgt := xwm 428 (by decide +kernel) (by decide +kernel)
theorem xw_331 : Cond.instanceMethod yX4_clear ∈ xgt := xwm 734 (by decide +kernel) (by decide +kernel)
theorem xw_332 : Cond.selects yX4_clear.cls yX4_clear yX4_clear ∈ xgt := xwm 735 (by decide +kernel) (by decide +kernel)
theorem xw_333 : Cond.methodLink RX8 26 yX4_clear ∈ xgt := xwm 733 (by decide +kernel) (by decide +kernel)
theorem xw_334 : Cond.instanceMethod yX9_start ∈ xgt := xwm 743 (by decide +kernel) (by decide +kernel)
theorem xw_335 : Cond.selects yX9_start.cls yX9_start yX9_start ∈ xgt := xwm 744 (by decide +kernel) (by decide +kernel)
theorem xw_336 : Cond.methodLink RX8 31 yX9_start ∈ xgt := xwm 742 (by decide +kernel) (by decide +kernel)
theorem xw_337 : Cond.fieldLink RX8 37 (TX9 4).1 (TX9 4).2.1 (TX9 4).2.2.1 ∈ xgt := xwm 397 (by decide +kernel) (by decide +kernel)
theorem xw_338 : Cond.code yX8_tell cX8_tell 4 (some .int) ∈ xgt := xwm 732 (by decide +kernel) (by decide +kernel)
theorem xw_339 : Cond.methodLink RX9 3 Lib.objectInit ∈ xgt := xwm 337 (by decide +kernel) (by decide +kernel)
theorem xw_340 : Cond.fieldLink RX9 9 (TX9 1).1 (TX9 1).2.1 (TX9 1).2.2.1 ∈ xgt := xwm 393 (by decide +kernel) (by decide +kernel)
theorem xw_341 : Cond.fieldLink RX9 15 (TX9 2).1 (TX9 2).2.1 (TX9 2).2.2.1 ∈ xgt := xwm 394 (by decide +kernel) (by decide +kernel)
theorem xw_342 : Cond.fieldLink RX9 19 (TX9 3).1 (TX9 3).2.1 (TX9 3).2.2.1 ∈ xgt := xwm 395 (by decide +kernel) (by decide +kernel)
theorem xw_343 : Cond.fieldLink RX9 22 (TX9 4).1 (TX9 4).2.1 (TX9 4).2.2.1 ∈ xgt := xwm 396 (by decide +kernel) (by decide +kernel)
theorem xw_344 : Cond.fieldLink RX9 25 (TX9 5).1 (TX9 5).2.1 (TX9 5).2.2.1 ∈ xgt := xwm 399 (by decide +kernel) (by decide +kernel)
theorem xw_345 : Cond.fieldLink RX9 28 (TX9 6).1 (TX9 6).2.1 (TX9 6).2.2.1 ∈ xgt := xwm 400 (by decide +kernel) (by decide +kernel)
theorem xw_346 : Cond.fieldLink RX9 31 (TX9 7).1 (TX9 7).2.1 (TX9 7).2.2.1 ∈ xgt := xwm 403 (by decide +kernel) (by decide +kernel)
theorem xw_347 : Cond.fieldLink RX9 34 (TX9 8).1 (TX9 8).2.1 (TX9 8).2.2.1 ∈ xgt := xwm 405 (by decide +kernel) (by decide +kernel)
theorem xw_348 : Cond.fieldLink RX9 37 (TX9 0).1 (TX9 0).2.1 (TX9 0).2.2.1 ∈ xgt := xwm 392 (by decide +kernel) (by decide +kernel)
theorem xw_349 : Cond.instanceMethod yX9_packWords ∈ xgt := xwm 341 (by decide +kernel) (by decide +kernel)
theorem xw_350 : Cond.selects yX9_packWords.cls yX9_packWords yX9_packWords ∈ xgt := xwm 0 (by decide +kernel) (by decide +kernel)
theorem xw_351 : Cond.methodLink RX9 43 yX9_packWords ∈ xgt := xwm 339 (by decide +kernel) (by decide +kernel)
theorem xw_352 : Cond.code yX9_init cX9_init 2 none ∈ xgt := xwm 336 (by decide +kernel) (by decide +kernel)
theorem xw_353 : Cond.code yX9_next cX9_next 1 none ∈ xgt := xwm 752 (by decide +kernel) (by decide +kernel)
theorem xw_354 : Cond.instanceMethod yJ0_length_8abf5 ∈ xgt := xwm 344 (by decide +kernel) (by decide +kernel)
theorem xw_355 : Cond.selects yJ0_length_8abf5.cls yJ0_length_8abf5 yJ0_length_8abf5 ∈ xgt := xwm 345 (by decide +kernel) (by decide +kernel)
theorem xw_356 : Cond.methodLink RX9 49 yJ0_length_8abf5 ∈ xgt := xwm 343 (by decide +kernel) (by decide +kernel)
theorem xw_357 : Cond.instanceMethod yJ0_charAt_5068e ∈ xgt := xwm 354 (by decide +kernel) (by decide +kernel)
theorem xw_358 : Cond.selects yJ0_charAt_5068e.cls yJ0_charAt_5068e yJ0_charAt_5068e ∈ xgt := xwm 355 (by decide +kernel) (by decide +kernel)
theorem xw_359 : Cond.methodLink RX9 55 yJ0_charAt_5068e ∈ xgt := xwm 353 (by decide +kernel) (by decide +kernel)
theorem xw_360 : Cond.code yX9_packWords cX9_packWords 7 none ∈ xgt := xwm 342 (by decide +kernel) (by decide +kernel)
theorem xw_361 : Cond.methodLink RX9 59 Lib.Math.min.name ∈ xgt := xwm 746 (by decide +kernel) (by decide +kernel)
theorem xw_362 : Cond.instanceMethod yX9_next ∈ xgt := xwm 750 (by decide +kernel) (by decide +kernel)
theorem xw_363 : Cond.selects yX9_next.cls yX9_next yX9_next ∈ xgt := xwm 751 (by decide +kernel) (by decide +kernel)
theorem xw_364 : Cond.methodLink RX9 65 yX9_next ∈ xgt := xwm 749 (by decide +kernel) (by decide +kernel)
theorem xw_365 : Cond.code yX9_start cX9_start 2 none ∈ xgt := xwm 745 (by decide +kernel) (by decide +kernel)
theorem xw_366 : Cond.methodLink RX10 3 Lib.objectInit ∈ xgt := xwm 449 (by decide +kernel) (by decide +kernel)
theorem xw_367 : Cond.fieldLink RX10 9 (TX10 0).1 (TX10 0).2.1 (TX10 0).2.2.1 ∈ xgt := xwm 450 (by decide +kernel) (by decide +kernel)
theorem xw_368 : Cond.fieldLink RX10 15 (TX10 1).1 (TX10 1).2.1 (TX10 1).2.2.1 ∈ xgt := xwm 452 (by decide +kernel) (by decide +kernel)
theorem xw_369 : Cond.fieldLink RX10 18 (TX10 2).1 (TX10 2).2.1 (TX10 2).2.2.1 ∈ xgt := xwm 454 (by decide +kernel) (by decide +kernel)
theorem xw_370 : Cond.fieldLink RX10 21 (TX10 3).1 (TX10 3).2.1 (TX10 3).2.2.1 ∈ xgt := xwm 457 (by decide +kernel) (by decide +kernel)
theorem xw_371 : Cond.fieldLink RX10 24 (TX10 4).1 (TX10 4).2.1 (TX10 4).2.2.1 ∈ xgt := xwm 459 (by decide +kernel) (by decide +kernel)
theorem xw_372 : Cond.fieldLink RX10 27 (TX10 5).1 (TX10 5).2.1 (TX10 5).2.2.1 ∈ xgt := xwm 461 (by decide +kernel) (by decide +kernel)
theorem xw_373 : Cond.fieldLink RX10 30 (TX10 6).1 (TX10 6).2.1 (TX10 6).2.2.1 ∈ xgt := xwm 463 (by decide +kernel) (by decide +kernel)
theorem xw_374 : Cond.fieldLink RX10 34 (TX10 7).1 (TX10 7).2.1 (TX10 7).2.2.1 ∈ xgt := xwm 465 (by decide +kernel) (by decide +kernel)
theorem xw_375 : Cond.fieldLink RX10 37 (TX10 8).1 (TX10 8).2.1 (TX10 8).2.2.1 ∈ xgt := xwm 468 (by decide +kernel) (by decide +kernel)
theorem xw_376 : Cond.fieldLink RX10 40 (TX10 9).1 (TX10 9).2.1 (TX10 9).2.2.1 ∈ xgt := xwm 470 (by decide +kernel) (by decide +kernel)
theorem xw_377 : Cond.fieldLink RX10 43 (TX10 10).1 (TX10 10).2.1 (TX10 10).2.2.1 ∈ xgt := xwm 472 (by decide +kernel) (by decide +kernel)
theorem xw_378 : Cond.fieldLink RX10 46 (TX10 11).1 (TX10 11).2.1 (TX10 11).2.2.1 ∈ xgt := xwm 476 (by decide +kernel) (by decide +kernel)
theorem xw_379 : Cond.fieldLink RX10 49 (TX10 12).1 (TX10 12).2.1 (TX10 12).2.2.1 ∈ xgt := xwm 478 (by decide +kernel) (by decide +kernel)
theorem xw_380 : Cond.code yX10_init cX10_init 1 none ∈ xgt := xwm 448 (by decide +kernel) (by decide +kernel)
theorem xw_381 : Cond.code yX10_allCoin cX10_allCoin 6 (some .int) ∈ xgt := xwm 1293 (by decide +kernel) (by decide +kernel)
theorem xw_382 : Cond.methodLink RX10 52 yJ7_fill_53178 ∈ xgt := xwm 661 (by decide +kernel) (by decide +kernel)
theorem xw_383 : Cond.fieldLink RX10 58 (TX4 5).1 (TX4 5).2.1 (TX4 5).2.2.1 ∈ xgt := xwm 244 (by decide +kernel) (by decide +kernel)
theorem xw_384 : Cond.fieldLink RX10 61 (TX4 0).1 (TX4 0).2.1 (TX4 0).2.2.1 ∈ xgt := xwm 221 (by decide +kernel) (by decide +kernel)
theorem xw_385 : Cond.fieldLink RX10 65 (TX6 1).1 (TX6 1).2.1 (TX6 1).2.2.1 ∈ xgt := xwm 168 (by decide +kernel) (by decide +kernel)
theorem xw_386 : Cond.methodLink RX10 70 arraycopyName ∈ xgt := xwm 664 (by decide +kernel) (by decide +kernel)
theorem xw_387 : Cond.fieldLink RX10 76 (TX4 14).1 (TX4 14).2.1 (TX4 14).2.2.1 ∈ xgt := xwm 277 (by decide +kernel) (by decide +kernel)
theorem xw_388 : Cond.fieldLink RX10 77 (TX4 3).1 (TX4 3).2.1 (TX4 3).2.2.1 ∈ xgt := xwm 235 (by decide +kernel) (by decide +kernel)
theorem xw_389 : Cond.methodLink RX10 80 yX10_dismissAll ∈ xgt := xwm 667 (by decide +kernel) (by decide +kernel)
theorem xw_390 : Cond.fieldLink RX10 83 (TX4 17).1 (TX4 17).2.1 (TX4 17).2.2.1 ∈ xgt := xwm 286 (by decide +kernel) (by decide +kernel)
theorem xw_391 : Cond.fieldLink RX10 84 (TX4 18).1 (TX4 18).2.1 (TX4 18).2.2.1 ∈ xgt := xwm 289 (by decide +kernel) (by decide +kernel)
theorem xw_392 : Cond.code yX10_begin cX10_begin 2 none ∈ xgt := xwm 660 (by decide +kernel) (by decide +kernel)
theorem xw_393 : Cond.code yX10_dismissAll cX10_dismissAll 1 none ∈ xgt := xwm 670 (by decide +kernel) (by decide +kernel)
theorem xw_394 : Cond.code yX10_take cX10_take 2 none ∈ xgt := xwm 1281 (by decide +kernel) (by decide +kernel)
theorem xw_395 : Cond.methodLink RX12 1 Lib.objectInit ∈ xgt := xwm 1390 (by decide +kernel) (by decide +kernel)
theorem xw_396 : Cond.fieldLink RX12 7 (TX12 1).1 (TX12 1).2.1 (TX12 1).2.2.1 ∈ xgt := xwm 1396 (by decide +kernel) (by decide +kernel)
theorem xw_397 : Cond.fieldLink RX12 13 (TX12 3).1 (TX12 3).2.1 (TX12 3).2.2.1 ∈ xgt := xwm 1398 (by decide +kernel) (by decide +kernel)
theorem xw_398 : Cond.fieldLink RX12 16 (TX12 4).1 (TX12 4).2.1 (TX12 4).2.2.1 ∈ xgt := xwm 1399 (by decide +kernel) (by decide +kernel)
theorem xw_399 : Cond.fieldLink RX12 19 (TX12 5).1 (TX12 5).2.1 (TX12 5).2.2.1 ∈ xgt := xwm 1400 (by decide +kernel) (by decide +kernel)
theorem xw_400 : Cond.fieldLink RX12 22 (TX12 6).1 (TX12 6).2.1 (TX12 6).2.2.1 ∈ xgt := xwm 1401 (by decide +kernel) (by decide +kernel)
theorem xw_401 : Cond.fieldLink RX12 25 (TX12 7).1 (TX12 7).2.1 (TX12 7).2.2.1 ∈ xgt := xwm 1402 (by decide +kernel) (by decide +kernel)
theorem xw_402 : Cond.fieldLink RX12 28 (TX12 8).1 (TX12 8).2.1 (TX12 8).2.2.1 ∈ xgt := xwm 1403 (by decide +kernel) (by decide +kernel)
theorem xw_403 : Cond.fieldLink RX12 31 (TX12 9).1 (TX12 9).2.1 (TX12 9).2.2.1 ∈ xgt := xwm 1404 (by decide +kernel) (by decide +kernel)
theorem xw_404 : Cond.arrayClass .boolean ∈ xgt := xwm 1603 (by decide +kernel) (by decide +kernel)
theorem xw_405 : Cond.fieldLink RX12 34 (TX12 10).1 (TX12 10).2.1 (TX12 10).2.2.1 ∈ xgt := xwm 1405 (by decide +kernel) (by decide +kernel)
theorem xw_406 : Cond.fieldLink RX12 38 (TX12 11).1 (TX12 11).2.1 (TX12 11).2.2.1 ∈ xgt := xwm 1406 (by decide +kernel) (by decide +kernel)
theorem xw_407 : Cond.fieldLink RX12 41 (TX12 12).1 (TX12 12).2.1 (TX12 12).2.2.1 ∈ xgt := xwm 1407 (by decide +kernel) (by decide +kernel)
theorem xw_408 : Cond.fieldLink RX12 44 (TX12 13).1 (TX12 13).2.1 (TX12 13).2.2.1 ∈ xgt := xwm 1408 (by decide +kernel) (by decide +kernel)
theorem xw_409 : Cond.fieldLink RX12 47 (TX12 14).1 (TX12 14).2.1 (TX12 14).2.2.1 ∈ xgt := xwm 1409 (by decide +kernel) (by decide +kernel)
theorem xw_410 : Cond.fieldLink RX12 50 (TX12 15).1 (TX12 15).2.1 (TX12 15).2.2.1 ∈ xgt := xwm 1410 (by decide +kernel) (by decide +kernel)
theorem xw_411 : Cond.fieldLink RX12 53 (TX12 16).1 (TX12 16).2.1 (TX12 16).2.2.1 ∈ xgt := xwm 1411 (by decide +kernel) (by decide +kernel)
theorem xw_412 : Cond.fieldLink RX12 56 (TX12 17).1 (TX12 17).2.1 (TX12 17).2.2.1 ∈ xgt := xwm 1412 (by decide +kernel) (by decide +kernel)
theorem xw_413 : Cond.fieldLink RX12 59 (TX12 18).1 (TX12 18).2.1 (TX12 18).2.2.1 ∈ xgt := xwm 1413 (by decide +kernel) (by decide +kernel)
theorem xw_414 : Cond.fieldLink RX12 62 (TX12 19).1 (TX12 19).2.1 (TX12 19).2.2.1 ∈ xgt := xwm 1414 (by decide +kernel) (by decide +kernel)
theorem xw_415 : Cond.fieldLink RX12 65 (TX12 20).1 (TX12 20).2.1 (TX12 20).2.2.1 ∈ xgt := xwm 1415 (by decide +kernel) (by decide +kernel)
theorem xw_416 : Cond.fieldLink RX12 68 (TX12 21).1 (TX12 21).2.1 (TX12 21).2.2.1 ∈ xgt := xwm 1416 (by decide +kernel) (by decide +kernel)
theorem xw_417 : Cond.fieldLink RX12 71 (TX12 22).1 (TX12 22).2.1 (TX12 22).2.2.1 ∈ xgt := xwm 1417 (by decide +kernel) (by decide +kernel)
theorem xw_418 : Cond.fieldLink RX12 74 (TX12 23).1 (TX12 23).2.1 (TX12 23).2.2.1 ∈ xgt := xwm 1418 (by decide +kernel) (by decide +kernel)
theorem xw_419 : Cond.fieldLink RX12 77 (TX12 34).1 (TX12 34).2.1 (TX12 34).2.2.1 ∈ xgt := xwm 1429 (by decide +kernel) (by decide +kernel)
theorem xw_420 : Cond.fieldLink RX12 81 (TX12 37).1 (TX12 37).2.1 (TX12 37).2.2.1 ∈ xgt := xwm 1432 (by decide +kernel) (by decide +kernel)
theorem xw_421 : Cond.fieldLink RX12 84 (TX12 38).1 (TX12 38).2.1 (TX12 38).2.2.1 ∈ xgt := xwm 1433 (by decide +kernel) (by decide +kernel)
theorem xw_422 : Cond.fieldLink RX12 87 (TX12 39).1 (TX12 39).2.1 (TX12 39).2.2.1 ∈ xgt := xwm 1434 (by decide +kernel) (by decide +kernel)
theorem xw_423 : Cond.fieldLink RX12 90 (TX12 40).1 (TX12 40).2.1 (TX12 40).2.2.1 ∈ xgt := xwm 1435 (by decide +kernel) (by decide +kernel)
theorem xw_424 : Cond.fieldLink RX12 93 (TX12 41).1 (TX12 41).2.1 (TX12 41).2.2.1 ∈ xgt := xwm 1436 (by decide +kernel) (by decide +kernel)
theorem xw_425 : Cond.fieldLink RX12 96 (TX12 42).1 (TX12 42).2.1 (TX12 42).2.2.1 ∈ xgt := xwm 1437 (by decide +kernel) (by decide +kernel)
theorem xw_426 : Cond.fieldLink RX12 99 (TX12 43).1 (TX12 43).2.1 (TX12 43).2.2.1 ∈ xgt := xwm 1438 (by decide +kernel) (by decide +kernel)
theorem xw_427 : Cond.fieldLink RX12 102 (TX12 44).1 (TX12 44).2.1 (TX12 44).2.2.1 ∈ xgt := xwm 1439 (by decide +kernel) (by decide +kernel)
theorem xw_428 : Cond.fieldLink RX12 105 (TX12 45).1 (TX12 45).2.1 (TX12 45).2.2.1 ∈ xgt := xwm 1440 (by decide +kernel) (by decide +kernel)
theorem xw_429 : Cond.fieldLink RX12 108 (TX12 46).1 (TX12 46).2.1 (TX12 46).2.2.1 ∈ xgt := xwm 1441 (by decide +kernel) (by decide +kernel)
theorem xw_430 : Cond.fieldLink RX12 111 (TX12 47).1 (TX12 47).2.1 (TX12 47).2.2.1 ∈ xgt := xwm 1442 (by decide +kernel) (by decide +kernel)
theorem xw_431 : Cond.fieldLink RX12 114 (TX12 48).1 (TX12 48).2.1 (TX12 48).2.2.1 ∈ xgt := xwm 1443 (by decide +kernel) (by decide +kernel)
theorem xw_432 : Cond.fieldLink RX12 117 (TX12 50).1 (TX12 50).2.1 (TX12 50).2.2.1 ∈ xgt := xwm 1445 (by decide +kernel) (by decide +kernel)
theorem xw_433 : Cond.fieldLink RX12 121 (TX12 51).1 (TX12 51).2.1 (TX12 51).2.2.1 ∈ xgt := xwm 1446 (by decide +kernel) (by decide +kernel)
theorem xw_434 : Cond.fieldLink RX12 124 (TX12 53).1 (TX12 53).2.1 (TX12 53).2.2.1 ∈ xgt := xwm 1448 (by decide +kernel) (by decide +kernel)
theorem xw_435 : Cond.fieldLink RX12 127 (TX12 54).1 (TX12 54).2.1 (TX12 54).2.2.1 ∈ xgt := xwm 1449 (by decide +kernel) (by decide +kernel)
theorem xw_436 : Cond.fieldLink RX12 130 (TX12 55).1 (TX12 55).2.1 (TX12 55).2.2.1 ∈ xgt := xwm 1450 (by decide +kernel) (by decide +kernel)
theorem xw_437 : Cond.fieldLink RX12 133 (TX12 56).1 (TX12 56).2.1 (TX12 56).2.2.1 ∈ xgt := xwm 1451 (by decide +kernel) (by decide +kernel)
theorem xw_438 : Cond.fieldLink RX12 136 (TX12 57).1 (TX12 57).2.1 (TX12 57).2.2.1 ∈ xgt := xwm 1452 (by decide +kernel) (by decide +kernel)
theorem xw_439 : Cond.fieldLink RX12 139 (TX12 58).1 (TX12 58).2.1 (TX12 58).2.2.1 ∈ xgt := xwm 1453 (by decide +kernel) (by decide +kernel)
theorem xw_440 : Cond.fieldLink RX12 142 (TX12 62).1 (TX12 62).2.1 (TX12 62).2.2.1 ∈ xgt := xwm 1457 (by decide +kernel) (by decide +kernel)
theorem xw_441 : Cond.fieldLink RX12 145 (TX12 63).1 (TX12 63).2.1 (TX12 63).2.2.1 ∈ xgt := xwm 1458 (by decide +kernel) (by decide +kernel)
theorem xw_442 : Cond.fieldLink RX12 148 (TX12 64).1 (TX12 64).2.1 (TX12 64).2.2.1 ∈ xgt := xwm 1459 (by decide +kernel) (by decide +kernel)
theorem xw_443 : Cond.fieldLink RX12 151 (TX12 65).1 (TX12 65).2.1 (TX12 65).2.2.1 ∈ xgt := xwm 1460 (by decide +kernel) (by decide +kernel)
theorem xw_444 : Cond.fieldLink RX12 154 (TX12 66).1 (TX12 66).2.1 (TX12 66).2.2.1 ∈ xgt := xwm 1461 (by decide +kernel) (by decide +kernel)
theorem xw_445 : Cond.fieldLink RX12 157 (TX12 67).1 (TX12 67).2.1 (TX12 67).2.2.1 ∈ xgt := xwm 1462 (by decide +kernel) (by decide +kernel)
theorem xw_446 : Cond.instanceMethod yX12_begins ∈ xgt := xwm 1393 (by decide +kernel) (by decide +kernel)
theorem xw_447 : Cond.selects yX12_begins.cls yX12_begins yX12_begins ∈ xgt := xwm 47 (by decide +kernel) (by decide +kernel)
theorem xw_448 : Cond.methodLink RX12 160 yX12_begins ∈ xgt := xwm 1391 (by decide +kernel) (by decide +kernel)
theorem xw_449 : Cond.code yX12_init cX12_init 1 none ∈ xgt := xwm 1389 (by decide +kernel) (by decide +kernel)
theorem xw_450 : Cond.initialized RX12 ∈ xgt := xwm 134 (by decide +kernel) (by decide +kernel)
theorem xw_451 : Cond.code yX12_areVerses cX12_areVerses 2 (some .boolean) ∈ xgt := xwm 1950 (by decide +kernel) (by decide +kernel)
theorem xw_452 : Cond.fieldLink RX12 163 (TX12 0).1 (TX12 0).2.1 (TX12 0).2.2.1 ∈ xgt := xwm 1395 (by decide +kernel) (by decide +kernel)
theorem xw_453 : Cond.fieldLink RX12 328 (TX12 49).1 (TX12 49).2.1 (TX12 49).2.2.1 ∈ xgt := xwm 1444 (by decide +kernel) (by decide +kernel)
theorem xw_454 : Cond.code yX12_back cX12_back 1 (some .int) ∈ xgt := xwm 2054 (by decide +kernel) (by decide +kernel)
theorem xw_455 : Cond.instanceMethod yX12_isVerse ∈ xgt := xwm 1782 (by decide +kernel) (by decide +kernel)
theorem xw_456 : Cond.selects yX12_isVerse.cls yX12_isVerse yX12_isVerse ∈ xgt := xwm 80 (by decide +kernel) (by decide +kernel)
theorem xw_457 : Cond.methodLink RX12 332 yX12_isVerse ∈ xgt := xwm 1780 (by decide +kernel) (by decide +kernel)
theorem xw_458 : Cond.code yX12_bar cX12_bar 6 (some .int) ∈ xgt := xwm 1885 (by decide +kernel) (by decide +kernel)
theorem xw_459 : Cond.code yX12_begins cX12_begins 2 none ∈ xgt := xwm 1394 (by decide +kernel) (by decide +kernel)
theorem xw_460 : Cond.methodLink RX12 446 yX12_isCrowns ∈ xgt := xwm 1900 (by decide +kernel) (by decide +kernel)
theorem xw_461 : Cond.static yX12_isCrowns ∈ xgt := xwm 1901 (by decide +kernel) (by decide +kernel)
theorem xw_462 : Cond.instanceMethod yX12_layBest ∈ xgt := xwm 1905 (by decide +kernel) (by decide +kernel)
theorem xw_463 : Cond.selects yX12_layBest.cls yX12_layBest yX12_layBest ∈ xgt := xwm 96 (by decide +kernel) (by decide +kernel)
theorem xw_464 : Cond.methodLink RX12 449 yX12_layBest ∈ xgt := xwm 1903 (by decide +kernel) (by decide +kernel)
theorem xw_465 : Cond.code yX12_best cX12_best 3 (some .int) ∈ xgt := xwm 1899 (by decide +kernel) (by decide +kernel)
theorem xw_466 : Cond.code yX12_bids cX12_bids 3 (some .int) ∈ xgt := xwm 1852 (by decide +kernel) (by decide +kernel)
theorem xw_467 : Cond.code yX12_bitsOf cX12_bitsOf 3 (some .int) ∈ xgt := xwm 2005 (by decide +kernel) (by decide +kernel)
theorem xw_468 : Cond.instanceMethod yX12_isPart ∈ xgt := xwm 1786 (by decide +kernel) (by decide +kernel)
theorem xw_469 : Cond.selects yX12_isPart.cls yX12_isPart yX12_isPart ∈ xgt := xwm 81 (by decide +kernel) (by decide +kernel)
theorem xw_470 : Cond.methodLink RX12 344 yX12_isPart ∈ xgt := xwm 1784 (by decide +kernel) (by decide +kernel)
theorem xw_471 : Cond.code yX12_chosen cX12_chosen 6 (some .int) ∈ xgt := xwm 1938 (by decide +kernel) (by decide +kernel)
theorem xw_472 : Cond.code yX12_copies cX12_copies 4 none ∈ xgt := xwm 2050 (by decide +kernel) (by decide +kernel)
theorem xw_473 : Cond.fieldLink RX12 325 (TX12 61).1 (TX12 61).2.1 (TX12 61).2.2.1 ∈ xgt := xwm 1456 (by decide +kernel) (by decide +kernel)
theorem xw_474 : Cond.instanceMethod yX12_knownMany ∈ xgt := xwm 1981 (by decide +kernel) (by decide +kernel)
theorem xw_475 : Cond.selects yX12_knownMany.cls yX12_knownMany yX12_knownMany ∈ xgt := xwm 108 (by decide +kernel) (by decide +kernel)
theorem xw_476 : Cond.methodLink RX12 467 yX12_knownMany ∈ xgt := xwm 1979 (by decide +kernel) (by decide +kernel)
theorem xw_477 : Cond.methodLink RX12 485 yX12_bitsOf ∈ xgt := xwm 2003 (by decide +kernel) (by decide +kernel)
theorem xw_478 : Cond.static yX12_bitsOf ∈ xgt := xwm 2004 (by decide +kernel) (by decide +kernel)
theorem xw_479 : Cond.code yX12_count cX12_count 4 (some .int) ∈ xgt := xwm 2058 (by decide +kernel) (by decide +kernel)
theorem xw_480 : Cond.instanceMethod yX12_isVoice ∈ xgt := xwm 1762 (by decide +kernel) (by decide +kernel)
theorem xw_481 : Cond.selects yX12_isVoice.cls yX12_isVoice yX12_isVoice ∈ xgt := xwm 77 (by decide +kernel) (by decide +kernel)
theorem xw_482 : Cond.methodLink RX12 335 yX12_isVoice ∈ xgt := xwm 1760 (by decide +kernel) (by decide +kernel)
theorem xw_483 : Cond.code yX12_cracks cX12_cracks 2 (some .int) ∈ xgt := xwm 1861 (by decide +kernel) (by decide +kernel)
theorem xw_484 : Cond.code yX12_due cX12_due 4 (some .int) ∈ xgt := xwm 1795 (by decide +kernel) (by decide +kernel)
theorem xw_485 : Cond.instanceMethod yX12_areVerses ∈ xgt := xwm 1949 (by decide +kernel) (by decide +kernel)
theorem xw_486 : Cond.selects yX12_areVerses.cls yX12_areVerses yX12_areVerses ∈ xgt := xwm 105 (by decide +kernel) (by decide +kernel)
theorem xw_487 : Cond.methodLink RX12 461 yX12_areVerses ∈ xgt := xwm 1947 (by decide +kernel) (by decide +kernel)
theorem xw_488 : Cond.instanceMethod yX12_sells ∈ xgt := xwm 1953 (by decide +kernel) (by decide +kernel)
theorem xw_489 : Cond.selects yX12_sells.cls yX12_sells yX12_sells ∈ xgt := xwm 106 (by decide +kernel) (by decide +kernel)
theorem xw_490 : Cond.methodLink RX12 464 yX12_sells ∈ xgt := xwm 1951 (by decide +kernel) (by decide +kernel)
theorem xw_491 : Cond.code yX12_easter cX12_easter 4 (some .int) ∈ xgt := xwm 1958 (by decide +kernel) (by decide +kernel)
theorem xw_492 : Cond.code yX12_entry cX12_entry 6 (some .int) ∈ xgt := xwm 2024 (by decide +kernel) (by decide +kernel)
theorem xw_493 : Cond.fieldLink RX12 318 (TX12 33).1 (TX12 33).2.1 (TX12 33).2.2.1 ∈ xgt := xwm 1428 (by decide +kernel) (by decide +kernel)
theorem xw_494 : Cond.code yX12_fault cX12_fault 2 (some .int) ∈ xgt := xwm 1751 (by decide +kernel) (by decide +kernel)
theorem xw_495 : Cond.fieldLink RX12 166 (TX12 2).1 (TX12 2).2.1 (TX12 2).2.2.1 ∈ xgt := xwm 1397 (by decide +kernel) (by decide +kernel)
theorem xw_496 : Cond.code yX12_feed cX12_feed 8 (some .int) ∈ xgt := xwm 1611 (by decide +kernel) (by decide +kernel)
theorem xw_497 : Cond.code yX12_found cX12_found 5 (some .int) ∈ xgt := xwm 1672 (by decide +kernel) (by decide +kernel)
theorem xw_498 : Cond.instanceMethod yX12_strikes ∈ xgt := xwm 1977 (by decide +kernel) (by decide +kernel)
theorem xw_499 : Cond.selects yX12_strikes.cls yX12_strikes yX12_strikes ∈ xgt := xwm 107 (by decide +kernel) (by decide +kernel)
theorem xw_500 : Cond.methodLink RX12 473 yX12_strikes ∈ xgt := xwm 1975 (by decide +kernel) (by decide +kernel)
theorem xw_501 : Cond.instanceMethod yX12_isGang ∈ xgt := xwm 2008 (by decide +kernel) (by decide +kernel)
theorem xw_502 : Cond.selects yX12_isGang.cls yX12_isGang yX12_isGang ∈ xgt := xwm 111 (by decide +kernel) (by decide +kernel)
theorem xw_503 : Cond.methodLink RX12 488 yX12_isGang ∈ xgt := xwm 2006 (by decide +kernel) (by decide +kernel)
theorem xw_504 : Cond.code yX12_gang cX12_gang 3 (some .int) ∈ xgt := xwm 2002 (by decide +kernel) (by decide +kernel)
theorem xw_505 : Cond.code yX12_half cX12_half 3 none ∈ xgt := xwm 1747 (by decide +kernel) (by decide +kernel)
theorem xw_506 : Cond.fieldLink RX12 169 (TX12 27).1 (TX12 27).2.1 (TX12 27).2.2.1 ∈ xgt := xwm 1422 (by decide +kernel) (by decide +kernel)
theorem xw_507 : Cond.fieldLink RX12 172 (TX12 26).1 (TX12 26).2.1 (TX12 26).2.2.1 ∈ xgt := xwm 1421 (by decide +kernel) (by decide +kernel)
theorem xw_508 : Cond.code yX12_here cX12_here 1 (some .int) ∈ xgt := xwm 1627 (by decide +kernel) (by decide +kernel)
theorem xw_509 : Cond.code yX12_hum cX12_hum 2 (some .int) ∈ xgt := xwm 1962 (by decide +kernel) (by decide +kernel)
theorem xw_510 : Cond.code yX12_isCrowns cX12_isCrowns 1 (some .boolean) ∈ xgt := xwm 1902 (by decide +kernel) (by decide +kernel)
theorem xw_511 : Cond.code yX12_isGang cX12_isGang 5 (some .boolean) ∈ xgt := xwm 2009 (by decide +kernel) (by decide +kernel)
theorem xw_512 : Cond.code yX12_isPart cX12_isPart 3 (some .boolean) ∈ xgt := xwm 1787 (by decide +kernel) (by decide +kernel)
theorem xw_513 : Cond.code yX12_isTavern cX12_isTavern 2 (some .boolean) ∈ xgt := xwm 1775 (by decide +kernel) (by decide +kernel)
theorem xw_514 : Cond.code yX12_isVerse cX12_isVerse 2 (some .boolean) ∈ xgt := xwm 1783 (by decide +kernel) (by decide +kernel)
theorem xw_515 : Cond.code yX12_isVoice cX12_isVoice 2 (some .boolean) ∈ xgt := xwm 1763 (by decide +kernel) (by decide +kernel)
theorem xw_516 : Cond.instanceMethod yX12_copies ∈ xgt := xwm 2049 (by decide +kernel) (by decide +kernel)
theorem xw_517 : Cond.selects yX12_copies.cls yX12_copies yX12_copies ∈ xgt := xwm 114 (by decide +kernel) (by decide +kernel)
theorem xw_518 : Cond.methodLink RX12 508 yX12_copies ∈ xgt := xwm 2047 (by decide +kernel) (by decide +kernel)
theorem xw_519 : Cond.code yX12_keep cX12_keep 1 (some .int) ∈ xgt := xwm 2046 (by decide +kernel) (by decide +kernel)
theorem xw_520 : Cond.code yX12_known cX12_known 2 (some .boolean) ∈ xgt := xwm 1970 (by decide +kernel) (by decide +kernel)
theorem xw_521 : Cond.code yX12_knownMany cX12_knownMany 1 (some .int) ∈ xgt := xwm 1982 (by decide +kernel) (by decide +kernel)
theorem xw_522 : Cond.instanceMethod yX12_layDues ∈ xgt := xwm 1909 (by decide +kernel) (by decide +kernel)
theorem xw_523 : Cond.selects yX12_layDues.cls yX12_layDues yX12_layDues ∈ xgt := xwm 97 (by decide +kernel) (by decide +kernel)
theorem xw_524 : Cond.methodLink RX12 424 yX12_layDues ∈ xgt := xwm 1907 (by decide +kernel) (by decide +kernel)
theorem xw_525 : Cond.code yX12_layBest cX12_layBest 4 none ∈ xgt := xwm 1906 (by decide +kernel) (by decide +kernel)
theorem xw_526 : Cond.code yX12_layDues cX12_layDues 3 none ∈ xgt := xwm 1910 (by decide +kernel) (by decide +kernel)
theorem xw_527 : Cond.code yX12_look cX12_look 3 (some .int) ∈ xgt := xwm 1759 (by decide +kernel) (by decide +kernel)
theorem xw_528 : Cond.methodLink RX12 229 yX12_found ∈ xgt := xwm 1670 (by decide +kernel) (by decide +kernel)
theorem xw_529 : Cond.static yX12_found ∈ xgt := xwm 1671 (by decide +kernel) (by decide +kernel)
theorem xw_530 : Cond.code yX12_named cX12_named 3 (some .int) ∈ xgt := xwm 1755 (by decide +kernel) (by decide +kernel)
theorem xw_531 : Cond.code yX12_odds cX12_odds 6 (some .int) ∈ xgt := xwm 1994 (by decide +kernel) (by decide +kernel)
theorem xw_532 : Cond.instanceMethod yX12_isTavern ∈ xgt := xwm 1774 (by decide +kernel) (by decide +kernel)
theorem xw_533 : Cond.selects yX12_isTavern.cls yX12_isTavern yX12_isTavern ∈ xgt := xwm 79 (by decide +kernel) (by decide +kernel)
theorem xw_534 : Cond.methodLink RX12 341 yX12_isTavern ∈ xgt := xwm 1772 (by decide +kernel) (by decide +kernel)
theorem xw_535 : Cond.code yX12_pay cX12_pay 5 (some .int) ∈ xgt := xwm 2036 (by decide +kernel) (by decide +kernel)
theorem xw_536 : Cond.code yX12_pitch cX12_pitch 4 (some .int) ∈ xgt := xwm 1791 (by decide +kernel) (by decide +kernel)
theorem xw_537 : Cond.code yX12_reads cX12_reads 3 none ∈ xgt := xwm 1619 (by decide +kernel) (by decide +kernel)
theorem xw_538 : Cond.code yX12_redeem cX12_redeem 6 (some .int) ∈ xgt := xwm 1869 (by decide +kernel) (by decide +kernel)
theorem xw_539 : Cond.code yX12_round cX12_round 5 (some .int) ∈ xgt := xwm 2013 (by decide +kernel) (by decide +kernel)
theorem xw_540 : Cond.code yX12_run cX12_run 3 (some .int) ∈ xgt := xwm 2028 (by decide +kernel) (by decide +kernel)
theorem xw_541 : Cond.code yX12_sells cX12_sells 8 (some .int) ∈ xgt := xwm 1954 (by decide +kernel) (by decide +kernel)
theorem xw_542 : Cond.code yX12_sings cX12_sings 4 (some .int) ∈ xgt := xwm 1881 (by decide +kernel) (by decide +kernel)
theorem xw_543 : Cond.code yX12_sold cX12_sold 4 (some .int) ∈ xgt := xwm 1946 (by decide +kernel) (by decide +kernel)
theorem xw_544 : Cond.code yX12_sounds cX12_sounds 4 (some .int) ∈ xgt := xwm 1848 (by decide +kernel) (by decide +kernel)
theorem xw_545 : Cond.code yX12_strike cX12_strike 2 (some .int) ∈ xgt := xwm 1966 (by decide +kernel) (by decide +kernel)
theorem xw_546 : Cond.code yX12_strikes cX12_strikes 2 none ∈ xgt := xwm 1978 (by decide +kernel) (by decide +kernel)
theorem xw_547 : Cond.code yX12_sunday cX12_sunday 4 (some .int) ∈ xgt := xwm 1889 (by decide +kernel) (by decide +kernel)
theorem xw_548 : Cond.code yX12_tavern cX12_tavern 5 (some .int) ∈ xgt := xwm 1771 (by decide +kernel) (by decide +kernel)
theorem xw_549 : Cond.fieldLink RX12 217 (TX12 31).1 (TX12 31).2.1 (TX12 31).2.2.1 ∈ xgt := xwm 1426 (by decide +kernel) (by decide +kernel)
theorem xw_550 : Cond.fieldLink RX12 220 (TX12 32).1 (TX12 32).2.1 (TX12 32).2.2.1 ∈ xgt := xwm 1427 (by decide +kernel) (by decide +kernel)
theorem xw_551 : Cond.instanceMethod yX12_reads ∈ xgt := xwm 1618 (by decide +kernel) (by decide +kernel)
theorem xw_552 : Cond.selects yX12_reads.cls yX12_reads yX12_reads ∈ xgt := xwm 48 (by decide +kernel) (by decide +kernel)
theorem xw_553 : Cond.methodLink RX12 254 yX12_reads ∈ xgt := xwm 1616 (by decide +kernel) (by decide +kernel)
theorem xw_554 : Cond.fieldLink RX12 243 (TX12 24).1 (TX12 24).2.1 (TX12 24).2.2.1 ∈ xgt := xwm 1419 (by decide +kernel) (by decide +kernel)
theorem xw_555 : Cond.fieldLink RX12 273 (TX12 25).1 (TX12 25).2.1 (TX12 25).2.2.1 ∈ xgt := xwm 1420 (by decide +kernel) (by decide +kernel)
theorem xw_556 : Cond.fieldLink RX12 312 (TX12 35).1 (TX12 35).2.1 (TX12 35).2.2.1 ∈ xgt := xwm 1430 (by decide +kernel) (by decide +kernel)
theorem xw_557 : Cond.fieldLink RX12 288 (TX12 36).1 (TX12 36).2.1 (TX12 36).2.2.1 ∈ xgt := xwm 1431 (by decide +kernel) (by decide +kernel)
theorem xw_558 : Cond.instanceMethod yX12_token ∈ xgt := xwm 1622 (by decide +kernel) (by decide +kernel)
theorem xw_559 : Cond.selects yX12_token.cls yX12_token yX12_token ∈ xgt := xwm 49 (by decide +kernel) (by decide +kernel)
theorem xw_560 : Cond.methodLink RX12 223 yX12_token ∈ xgt := xwm 1620 (by decide +kernel) (by decide +kernel)
theorem xw_561 : Cond.fieldLink RX12 182 (TX12 29).1 (TX12 29).2.1 (TX12 29).2.2.1 ∈ xgt := xwm 1424 (by decide +kernel) (by decide +kernel)
theorem xw_562 : Cond.methodLink RX12 321 yX12_half ∈ xgt := xwm 1745 (by decide +kernel) (by decide +kernel)
theorem xw_563 : Cond.static yX12_half ∈ xgt := xwm 1746 (by decide +kernel) (by decide +kernel)
theorem xw_564 : Cond.code yX12_text cX12_text 3 (some .int) ∈ xgt := xwm 1615 (by decide +kernel) (by decide +kernel)
theorem xw_565 : Cond.code yX12_thieves cX12_thieves 3 (some .int) ∈ xgt := xwm 1974 (by decide +kernel) (by decide +kernel)
theorem xw_566 : Cond.code yX12_thrown cX12_thrown 1 (some .int) ∈ xgt := xwm 1607 (by decide +kernel) (by decide +kernel)
theorem xw_567 : Cond.instanceMethod yX12_here ∈ xgt := xwm 1626 (by decide +kernel) (by decide +kernel)
theorem xw_568 : Cond.selects yX12_here.cls yX12_here yX12_here ∈ xgt := xwm 50 (by decide +kernel) (by decide +kernel)
theorem xw_569 : Cond.methodLink RX12 175 yX12_here ∈ xgt := xwm 1624 (by decide +kernel) (by decide +kernel)
theorem xw_570 : Cond.fieldLink RX12 179 (TX12 28).1 (TX12 28).2.1 (TX12 28).2.2.1 ∈ xgt := xwm 1423 (by decide +kernel) (by decide +kernel)
theorem xw_571 : Cond.code yX12_token cX12_token 2 none ∈ xgt := xwm 1623 (by decide +kernel) (by decide +kernel)
theorem xw_572 : Cond.code yX12_undo cX12_undo 3 (some .int) ∈ xgt := xwm 1877 (by decide +kernel) (by decide +kernel)
theorem xw_573 : Cond.code yX12_verse cX12_verse 3 (some .int) ∈ xgt := xwm 1779 (by decide +kernel) (by decide +kernel)
theorem xw_574 : Cond.constantLong RX12 504 (lN 18446744073709551615) ∈ xgt := xwm 2041 (by decide +kernel) (by decide +kernel)
theorem xw_575 : Cond.code yX12_whole cX12_whole 10 (some .long) ∈ xgt := xwm 2040 (by decide +kernel) (by decide +kernel)
theorem xw_576 : Cond.constant RJ6 265 (nI 1431655765) ∈ xgt := xwm 961 (by decide +kernel) (by decide +kernel)
theorem xw_577 : Cond.constant RJ6 266 (nI 858993459) ∈ xgt := xwm 962 (by decide +kernel) (by decide +kernel)
theorem xw_578 : Cond.constant RJ6 267 (nI 252645135) ∈ xgt := xwm 963 (by decide +kernel) (by decide +kernel)
theorem xw_579 : Cond.code yJ6_bitCount_0f7a4 cJ6_bitCount_0f7a4 1 (some .int) ∈ xgt := xwm 960 (by decide +kernel) (by decide +kernel)
theorem xw_580 : Cond.initialized RJ6 ∈ xgt := xwm 141 (by decide +kernel) (by decide +kernel)
theorem xw_581 : Cond.instanceMethod yJ0_isLatin1_aae02 ∈ xgt := xwm 358 (by decide +kernel) (by decide +kernel)
theorem xw_582 : Cond.selects yJ0_isLatin1_aae02.cls yJ0_isLatin1_aae02 yJ0_isLatin1_aae02 ∈ xgt := xwm 359 (by decide +kernel) (by decide +kernel)
theorem xw_583 : Cond.methodLink RJ0 492 yJ0_isLatin1_aae02 ∈ xgt := xwm 357 (by decide +kernel) (by decide +kernel)
theorem xw_584 : Cond.fieldLink RJ0 9 "java/lang/String" "value" "[B" ∈ xgt := xwm 2077 (by decide +kernel) (by decide +kernel)
theorem xw_585 : Cond.methodLink RJ0 495 yJ1_charAt_3b067 ∈ xgt := xwm 361 (by decide +kernel) (by decide +kernel)
theorem xw_586 : Cond.static yJ1_charAt_3b067 ∈ xgt := xwm 362 (by decide +kernel) (by decide +kernel)
theorem xw_587 : Cond.code yJ0_charAt_5068e cJ0_charAt_5068e 2 (some .char) ∈ xgt := xwm 356 (by decide +kernel) (by decide +kernel)
theorem xw_588 : Cond.initialized RJ0 ∈ xgt := xwm 122 (by decide +kernel) (by decide +kernel)
theorem xw_589 : Cond.fieldLink RJ0 1053 "jdk/internal/util/Preconditions" "SIOOBE_FORMATTER" "Ljava/util/function/BiFunction;" ∈ xgt := xwm 367 (by decide +kernel) (by decide +kernel)
theorem xw_590 : Cond.methodLink RJ0 1059 yJ3_checkIndex_8e157 ∈ xgt := xwm 369 (by decide +kernel) (by decide +kernel)
theorem xw_591 : Cond.static yJ3_checkIndex_8e157 ∈ xgt := xwm 370 (by decide +kernel) (by decide +kernel)
theorem xw_592 : Cond.code yJ0_checkIndex_df160 cJ0_checkIndex_df160 2 none ∈ xgt := xwm 366 (by decide +kernel) (by decide +kernel)
theorem xw_593 : Cond.fieldLink RJ0 38 "java/lang/String" "COMPACT_STRINGS" "Z" ∈ xgt := xwm 351 (by decide +kernel) (by decide +kernel)
theorem xw_594 : Cond.fieldLink RJ0 15 "java/lang/String" "coder" "B" ∈ xgt := xwm 2078 (by decide +kernel) (by decide +kernel)
theorem xw_595 : Cond.code yJ0_coder_7d493 cJ0_coder_7d493 1 (some .byte) ∈ xgt := xwm 350 (by decide +kernel) (by decide +kernel)
theorem xw_596 : Cond.code yJ0_isLatin1_aae02 cJ0_isLatin1_aae02 1 (some .boolean) ∈ xgt := xwm 360 (by decide +kernel) (by decide +kernel)
theorem xw_597 : Cond.instanceMethod yJ0_coder_7d493 ∈ xgt := xwm 348 (by decide +kernel) (by decide +kernel)
theorem xw_598 : Cond.selects yJ0_coder_7d493.cls yJ0_coder_7d493 yJ0_coder_7d493 ∈ xgt := xwm 349 (by decide +kernel) (by decide +kernel)
theorem xw_599 : Cond.methodLink RJ0 335 yJ0_coder_7d493 ∈ xgt := xwm 347 (by decide +kernel) (by decide +kernel)
theorem xw_600 : Cond.code yJ0_length_8abf5 cJ0_length_8abf5 1 (some .int) ∈ xgt := xwm 346 (by decide +kernel) (by decide +kernel)
theorem xw_601 : Cond.methodLink RJ1 9 yJ0_checkIndex_df160 ∈ xgt := xwm 364 (by decide +kernel) (by decide +kernel)
theorem xw_602 : Cond.static yJ0_checkIndex_df160 ∈ xgt := xwm 365 (by decide +kernel) (by decide +kernel)
theorem xw_603 : Cond.code yJ1_charAt_3b067 cJ1_charAt_3b067 2 (some .char) ∈ xgt := xwm 363 (by decide +kernel) (by decide +kernel)
theorem xw_604 : Cond.initialized RJ1 ∈ xgt := xwm 123 (by decide +kernel) (by decide +kernel)
theorem xw_605 : Cond.code yJ7_fill_53178 cJ7_fill_53178 4 none ∈ xgt := xwm 663 (by decide +kernel) (by decide +kernel)
theorem xw_606 : Cond.initialized RJ7 ∈ xgt := xwm 132 (by decide +kernel) (by decide +kernel)
theorem xw_607 : Cond.code yJ3_checkIndex_8e157 cJ3_checkIndex_8e157 3 (some .int) ∈ xgt := xwm 371 (by decide +kernel) (by decide +kernel)
theorem xw_608 : Cond.initialized RJ3 ∈ xgt := xwm 124 (by decide +kernel) (by decide +kernel)
theorem xw_609 : Cond.classLink RL 8 RX11 ∈ xgt := xwm 143 (by decide +kernel) (by decide +kernel)
theorem xw_610 : Cond.instantiable RX11 15 ∈ xgt := xwm 144 (by decide +kernel) (by decide +kernel)
theorem xw_611 : Cond.instanceMethod yX11_init ∈ xgt := xwm 146 (by decide +kernel) (by decide +kernel)
theorem xw_612 : Cond.methodLink RL 17 yX11_init ∈ xgt := xwm 145 (by decide +kernel) (by decide +kernel)
theorem xw_613 : Cond.classLink RL 18 RX12 ∈ xgt := xwm 1385 (by decide +kernel) (by decide +kernel)
theorem xw_614 : Cond.instantiable RX12 69 ∈ xgt := xwm 1386 (by decide +kernel) (by decide +kernel)
theorem xw_615 : Cond.instanceMethod yX12_init ∈ xgt := xwm 1388 (by decide +kernel) (by decide +kernel)
theorem xw_616 : Cond.methodLink RL 20 yX12_init ∈ xgt := xwm 1387 (by decide +kernel) (by decide +kernel)
theorem xw_617 : Cond.instanceMethod yX11_feed ∈ xgt := xwm 718 (by decide +kernel) (by decide +kernel)
theorem xw_618 : Cond.selects yX11_feed.cls yX11_feed yX11_feed ∈ xgt := xwm 719 (by decide +kernel) (by decide +kernel)
theorem xw_619 : Cond.methodLink RL 21 yX11_feed ∈ xgt := xwm 717 (by decide +kernel) (by decide +kernel)
theorem xw_620 : Cond.instanceMethod yX12_feed ∈ xgt := xwm 1609 (by decide +kernel) (by decide +kernel)
theorem xw_621 : Cond.selects yX12_feed.cls yX12_feed yX12_feed ∈ xgt := xwm 1610 (by decide +kernel) (by decide +kernel)
theorem xw_622 : Cond.methodLink RL 25 yX12_feed ∈ xgt := xwm 1608 (by decide +kernel) (by decide +kernel)
theorem xw_623 : Cond.instanceMethod yX11_text ∈ xgt := xwm 726 (by decide +kernel) (by decide +kernel)
theorem xw_624 : Cond.selects yX11_text.cls yX11_text yX11_text ∈ xgt := xwm 727 (by decide +kernel) (by decide +kernel)
theorem xw_625 : Cond.methodLink RL 26 yX11_text ∈ xgt := xwm 725 (by decide +kernel) (by decide +kernel)
theorem xw_626 : Cond.instanceMethod yX12_text ∈ xgt := xwm 1613 (by decide +kernel) (by decide +kernel)
theorem xw_627 : Cond.selects yX12_text.cls yX12_text yX12_text ∈ xgt := xwm 1614 (by decide +kernel) (by decide +kernel)
theorem xw_628 : Cond.methodLink RL 30 yX12_text ∈ xgt := xwm 1612 (by decide +kernel) (by decide +kernel)
theorem xw_629 : Cond.instanceMethod yX11_fault ∈ xgt := xwm 898 (by decide +kernel) (by decide +kernel)
theorem xw_630 : Cond.selects yX11_fault.cls yX11_fault yX11_fault ∈ xgt := xwm 899 (by decide +kernel) (by decide +kernel)
theorem xw_631 : Cond.methodLink RL 31 yX11_fault ∈ xgt := xwm 897 (by decide +kernel) (by decide +kernel)
theorem xw_632 : Cond.instanceMethod yX12_fault ∈ xgt := xwm 1749 (by decide +kernel) (by decide +kernel)
theorem xw_633 : Cond.selects yX12_fault.cls yX12_fault yX12_fault ∈ xgt := xwm 1750 (by decide +kernel) (by decide +kernel)
theorem xw_634 : Cond.methodLink RL 34 yX12_fault ∈ xgt := xwm 1748 (by decide +kernel) (by decide +kernel)
theorem xw_635 : Cond.instanceMethod yX11_named ∈ xgt := xwm 902 (by decide +kernel) (by decide +kernel)
theorem xw_636 : Cond.selects yX11_named.cls yX11_named yX11_named ∈ xgt := xwm 903 (by decide +kernel) (by decide +kernel)
theorem xw_637 : Cond.methodLink RL 35 yX11_named ∈ xgt := xwm 901 (by decide +kernel) (by decide +kernel)
theorem xw_638 : Cond.instanceMethod yX12_named ∈ xgt := xwm 1753 (by decide +kernel) (by decide +kernel)
theorem xw_639 : Cond.selects yX12_named.cls yX12_named yX12_named ∈ xgt := xwm 1754 (by decide +kernel) (by decide +kernel)
theorem xw_640 : Cond.methodLink RL 38 yX12_named ∈ xgt := xwm 1752 (by decide +kernel) (by decide +kernel)
theorem xw_641 : Cond.instanceMethod yX12_look ∈ xgt := xwm 1757 (by decide +kernel) (by decide +kernel)
theorem xw_642 : Cond.selects yX12_look.cls yX12_look yX12_look ∈ xgt := xwm 1758 (by decide +kernel) (by decide +kernel)
theorem xw_643 : Cond.methodLink RL 44 yX12_look ∈ xgt := xwm 1756 (by decide +kernel) (by decide +kernel)
theorem xw_644 : Cond.instanceMethod yX12_thrown ∈ xgt := xwm 1605 (by decide +kernel) (by decide +kernel)
theorem xw_645 : Cond.selects yX12_thrown.cls yX12_thrown yX12_thrown ∈ xgt := xwm 1606 (by decide +kernel) (by decide +kernel)
theorem xw_646 : Cond.methodLink RL 45 yX12_thrown ∈ xgt := xwm 1604 (by decide +kernel) (by decide +kernel)
theorem xw_647 : Cond.instanceMethod yX11_tavern ∈ xgt := xwm 907 (by decide +kernel) (by decide +kernel)
theorem xw_648 : Cond.selects yX11_tavern.cls yX11_tavern yX11_tavern ∈ xgt := xwm 908 (by decide +kernel) (by decide +kernel)
theorem xw_649 : Cond.methodLink RL 49 yX11_tavern ∈ xgt := xwm 906 (by decide +kernel) (by decide +kernel)
theorem xw_650 : Cond.instanceMethod yX12_tavern ∈ xgt := xwm 1769 (by decide +kernel) (by decide +kernel)
theorem xw_651 : Cond.selects yX12_tavern.cls yX12_tavern yX12_tavern ∈ xgt := xwm 1770 (by decide +kernel) (by decide +kernel)
theorem xw_652 : Cond.methodLink RL 52 yX12_tavern ∈ xgt := xwm 1768 (by decide +kernel) (by decide +kernel)
theorem xw_653 : Cond.instanceMethod yX11_verse ∈ xgt := xwm 919 (by decide +kernel) (by decide +kernel)
theorem xw_654 : Cond.selects yX11_verse.cls yX11_verse yX11_verse ∈ xgt := xwm 920 (by decide +kernel) (by decide +kernel)
theorem xw_655 : Cond.methodLink RL 53 yX11_verse ∈ xgt := xwm 918 (by decide +kernel) (by decide +kernel)
theorem xw_656 : Cond.instanceMethod yX12_verse ∈ xgt := xwm 1777 (by decide +kernel) (by decide +kernel)
theorem xw_657 : Cond.selects yX12_verse.cls yX12_verse yX12_verse ∈ xgt := xwm 1778 (by decide +kernel) (by decide +kernel)
theorem xw_658 : Cond.methodLink RL 56 yX12_verse ∈ xgt := xwm 1776 (by decide +kernel) (by decide +kernel)
theorem xw_659 : Cond.instanceMethod yX11_pitch ∈ xgt := xwm 929 (by decide +kernel) (by decide +kernel)
theorem xw_660 : Cond.selects yX11_pitch.cls yX11_pitch yX11_pitch ∈ xgt := xwm 930 (by decide +kernel) (by decide +kernel)
theorem xw_661 : Cond.methodLink RL 57 yX11_pitch ∈ xgt := xwm 928 (by decide +kernel) (by decide +kernel)
theorem xw_662 : Cond.instanceMethod yX12_pitch ∈ xgt := xwm 1789 (by decide +kernel) (by decide +kernel)
theorem xw_663 : Cond.selects yX12_pitch.cls yX12_pitch yX12_pitch ∈ xgt := xwm 1790 (by decide +kernel) (by decide +kernel)
theorem xw_664 : Cond.methodLink RL 61 yX12_pitch ∈ xgt := xwm 1788 (by decide +kernel) (by decide +kernel)
theorem xw_665 : Cond.instanceMethod yX11_due ∈ xgt := xwm 937 (by decide +kernel) (by decide +kernel)
theorem xw_666 : Cond.selects yX11_due.cls yX11_due yX11_due ∈ xgt := xwm 938 (by decide +kernel) (by decide +kernel)
theorem xw_667 : Cond.methodLink RL 62 yX11_due ∈ xgt := xwm 936 (by decide +kernel) (by decide +kernel)
theorem xw_668 : Cond.instanceMethod yX12_due ∈ xgt := xwm 1793 (by decide +kernel) (by decide +kernel)
theorem xw_669 : Cond.selects yX12_due.cls yX12_due yX12_due ∈ xgt := xwm 1794 (by decide +kernel) (by decide +kernel)
theorem xw_670 : Cond.methodLink RL 65 yX12_due ∈ xgt := xwm 1792 (by decide +kernel) (by decide +kernel)
theorem xw_671 : Cond.instanceMethod yX11_sounds ∈ xgt := xwm 1019 (by decide +kernel) (by decide +kernel)
theorem xw_672 : Cond.selects yX11_sounds.cls yX11_sounds yX11_sounds ∈ xgt := xwm 1020 (by decide +kernel) (by decide +kernel)
theorem xw_673 : Cond.methodLink RL 66 yX11_sounds ∈ xgt := xwm 1018 (by decide +kernel) (by decide +kernel)
theorem xw_674 : Cond.instanceMethod yX12_sounds ∈ xgt := xwm 1846 (by decide +kernel) (by decide +kernel)
theorem xw_675 : Cond.selects yX12_sounds.cls yX12_sounds yX12_sounds ∈ xgt := xwm 1847 (by decide +kernel) (by decide +kernel)
theorem xw_676 : Cond.methodLink RL 69 yX12_sounds ∈ xgt := xwm 1845 (by decide +kernel) (by decide +kernel)
theorem xw_677 : Cond.instanceMethod yX11_bids ∈ xgt := xwm 1025 (by decide +kernel) (by decide +kernel)
theorem xw_678 : Cond.selects yX11_bids.cls yX11_bids yX11_bids ∈ xgt := xwm 1026 (by decide +kernel) (by decide +kernel)
theorem xw_679 : Cond.methodLink RL 70 yX11_bids ∈ xgt := xwm 1024 (by decide +kernel) (by decide +kernel)
theorem xw_680 : Cond.instanceMethod yX12_bids ∈ xgt := xwm 1850 (by decide +kernel) (by decide +kernel)
theorem xw_681 : Cond.selects yX12_bids.cls yX12_bids yX12_bids ∈ xgt := xwm 1851 (by decide +kernel) (by decide +kernel)
theorem xw_682 : Cond.methodLink RL 73 yX12_bids ∈ xgt := xwm 1849 (by decide +kernel) (by decide +kernel)
theorem xw_683 : Cond.instanceMethod yX11_cracks ∈ xgt := xwm 1035 (by decide +kernel) (by decide +kernel)
theorem xw_684 : Cond.selects yX11_cracks.cls yX11_cracks yX11_cracks ∈ xgt := xwm 1036 (by decide +kernel) (by decide +kernel)
theorem xw_685 : Cond.methodLink RL 74 yX11_cracks ∈ xgt := xwm 1034 (by decide +kernel) (by decide +kernel)
theorem xw_686 : Cond.instanceMethod yX12_cracks ∈ xgt := xwm 1859 (by decide +kernel) (by decide +kernel)
theorem xw_687 : Cond.selects yX12_cracks.cls yX12_cracks yX12_cracks ∈ xgt := xwm 1860 (by decide +kernel) (by decide +kernel)
theorem xw_688 : Cond.methodLink RL 77 yX12_cracks ∈ xgt := xwm 1858 (by decide +kernel) (by decide +kernel)
theorem xw_689 : Cond.instanceMethod yX11_redeem ∈ xgt := xwm 1043 (by decide +kernel) (by decide +kernel)
theorem xw_690 : Cond.selects yX11_redeem.cls yX11_redeem yX11_redeem ∈ xgt := xwm 1044 (by decide +kernel) (by decide +kernel)
theorem xw_691 : Cond.methodLink RL 78 yX11_redeem ∈ xgt := xwm 1042 (by decide +kernel) (by decide +kernel)
theorem xw_692 : Cond.instanceMethod yX12_redeem ∈ xgt := xwm 1867 (by decide +kernel) (by decide +kernel)
theorem xw_693 : Cond.selects yX12_redeem.cls yX12_redeem yX12_redeem ∈ xgt := xwm 1868 (by decide +kernel) (by decide +kernel)
theorem xw_694 : Cond.methodLink RL 81 yX12_redeem ∈ xgt := xwm 1866 (by decide +kernel) (by decide +kernel)
theorem xw_695 : Cond.instanceMethod yX11_undo ∈ xgt := xwm 1056 (by decide +kernel) (by decide +kernel)
theorem xw_696 : Cond.selects yX11_undo.cls yX11_undo yX11_undo ∈ xgt := xwm 1057 (by decide +kernel) (by decide +kernel)
theorem xw_697 : Cond.methodLink RL 82 yX11_undo ∈ xgt := xwm 1055 (by decide +kernel) (by decide +kernel)
theorem xw_698 : Cond.instanceMethod yX12_undo ∈ xgt := xwm 1875 (by decide +kernel) (by decide +kernel)
theorem xw_699 : Cond.selects yX12_undo.cls yX12_undo yX12_undo ∈ xgt := xwm 1876 (by decide +kernel) (by decide +kernel)
theorem xw_700 : Cond.methodLink RL 85 yX12_undo ∈ xgt := xwm 1874 (by decide +kernel) (by decide +kernel)
theorem xw_701 : Cond.instanceMethod yX11_sings ∈ xgt := xwm 1064 (by decide +kernel) (by decide +kernel)
theorem xw_702 : Cond.selects yX11_sings.cls yX11_sings yX11_sings ∈ xgt := xwm 1065 (by decide +kernel) (by decide +kernel)
theorem xw_703 : Cond.methodLink RL 86 yX11_sings ∈ xgt := xwm 1063 (by decide +kernel) (by decide +kernel)
theorem xw_704 : Cond.instanceMethod yX12_sings ∈ xgt := xwm 1879 (by decide +kernel) (by decide +kernel)
theorem xw_705 : Cond.selects yX12_sings.cls yX12_sings yX12_sings ∈ xgt := xwm 1880 (by decide +kernel) (by decide +kernel)
theorem xw_706 : Cond.methodLink RL 89 yX12_sings ∈ xgt := xwm 1878 (by decide +kernel) (by decide +kernel)
theorem xw_707 : Cond.instanceMethod yX11_bar ∈ xgt := xwm 1068 (by decide +kernel) (by decide +kernel)
theorem xw_708 : Cond.selects yX11_bar.cls yX11_bar yX11_bar ∈ xgt := xwm 1069 (by decide +kernel) (by decide +kernel)
theorem xw_709 : Cond.methodLink RL 90 yX11_bar ∈ xgt := xwm 1067 (by decide +kernel) (by decide +kernel)
theorem xw_710 : Cond.instanceMethod yX12_bar ∈ xgt := xwm 1883 (by decide +kernel) (by decide +kernel)
theorem xw_711 : Cond.selects yX12_bar.cls yX12_bar yX12_bar ∈ xgt := xwm 1884 (by decide +kernel) (by decide +kernel)
theorem xw_712 : Cond.methodLink RL 93 yX12_bar ∈ xgt := xwm 1882 (by decide +kernel) (by decide +kernel)
theorem xw_713 : Cond.instanceMethod yX11_sunday ∈ xgt := xwm 1072 (by decide +kernel) (by decide +kernel)
theorem xw_714 : Cond.selects yX11_sunday.cls yX11_sunday yX11_sunday ∈ xgt := xwm 1073 (by decide +kernel) (by decide +kernel)
theorem xw_715 : Cond.methodLink RL 94 yX11_sunday ∈ xgt := xwm 1071 (by decide +kernel) (by decide +kernel)
theorem xw_716 : Cond.instanceMethod yX12_sunday ∈ xgt := xwm 1887 (by decide +kernel) (by decide +kernel)
theorem xw_717 : Cond.selects yX12_sunday.cls yX12_sunday yX12_sunday ∈ xgt := xwm 1888 (by decide +kernel) (by decide +kernel)
theorem xw_718 : Cond.methodLink RL 97 yX12_sunday ∈ xgt := xwm 1886 (by decide +kernel) (by decide +kernel)
theorem xw_719 : Cond.instanceMethod yX11_best ∈ xgt := xwm 1098 (by decide +kernel) (by decide +kernel)
theorem xw_720 : Cond.selects yX11_best.cls yX11_best yX11_best ∈ xgt := xwm 1099 (by decide +kernel) (by decide +kernel)
theorem xw_721 : Cond.methodLink RL 98 yX11_best ∈ xgt := xwm 1097 (by decide +kernel) (by decide +kernel)
theorem xw_722 : Cond.instanceMethod yX12_best ∈ xgt := xwm 1897 (by decide +kernel) (by decide +kernel)
theorem xw_723 : Cond.selects yX12_best.cls yX12_best yX12_best ∈ xgt := xwm 1898 (by decide +kernel) (by decide +kernel)
theorem xw_724 : Cond.methodLink RL 101 yX12_best ∈ xgt := xwm 1896 (by decide +kernel) (by decide +kernel)
theorem xw_725 : Cond.instanceMethod yX11_chosen ∈ xgt := xwm 1141 (by decide +kernel) (by decide +kernel)
theorem xw_726 : Cond.selects yX11_chosen.cls yX11_chosen yX11_chosen ∈ xgt := xwm 1142 (by decide +kernel) (by decide +kernel)
theorem xw_727 : Cond.methodLink RL 102 yX11_chosen ∈ xgt := xwm 1140 (by decide +kernel) (by decide +kernel)
theorem xw_728 : Cond.instanceMethod yX12_chosen ∈ xgt := xwm 1936 (by decide +kernel) (by decide +kernel)
theorem xw_729 : Cond.selects yX12_chosen.cls yX12_chosen yX12_chosen ∈ xgt := xwm 1937 (by decide +kernel) (by decide +kernel)
theorem xw_730 : Cond.methodLink RL 105 yX12_chosen ∈ xgt := xwm 1935 (by decide +kernel) (by decide +kernel)
theorem xw_731 : Cond.instanceMethod yX11_sold ∈ xgt := xwm 1154 (by decide +kernel) (by decide +kernel)
theorem xw_732 : Cond.selects yX11_sold.cls yX11_sold yX11_sold ∈ xgt := xwm 1155 (by decide +kernel) (by decide +kernel)
theorem xw_733 : Cond.methodLink RL 106 yX11_sold ∈ xgt := xwm 1153 (by decide +kernel) (by decide +kernel)
theorem xw_734 : Cond.instanceMethod yX12_sold ∈ xgt := xwm 1944 (by decide +kernel) (by decide +kernel)
theorem xw_735 : Cond.selects yX12_sold.cls yX12_sold yX12_sold ∈ xgt := xwm 1945 (by decide +kernel) (by decide +kernel)
theorem xw_736 : Cond.methodLink RL 109 yX12_sold ∈ xgt := xwm 1943 (by decide +kernel) (by decide +kernel)
theorem xw_737 : Cond.instanceMethod yX11_easter ∈ xgt := xwm 1173 (by decide +kernel) (by decide +kernel)
theorem xw_738 : Cond.selects yX11_easter.cls yX11_easter yX11_easter ∈ xgt := xwm 1174 (by decide +kernel) (by decide +kernel)
theorem xw_739 : Cond.methodLink RL 110 yX11_easter ∈ xgt := xwm 1172 (by decide +kernel) (by decide +kernel)
theorem xw_740 : Cond.instanceMethod yX12_easter ∈ xgt := xwm 1956 (by decide +kernel) (by decide +kernel)
theorem xw_741 : Cond.selects yX12_easter.cls yX12_easter yX12_easter ∈ xgt := xwm 1957 (by decide +kernel) (by decide +kernel)
theorem xw_742 : Cond.methodLink RL 113 yX12_easter ∈ xgt := xwm 1955 (by decide +kernel) (by decide +kernel)
theorem xw_743 : Cond.instanceMethod yX11_hum ∈ xgt := xwm 1177 (by decide +kernel) (by decide +kernel)
theorem xw_744 : Cond.selects yX11_hum.cls yX11_hum yX11_hum ∈ xgt := xwm 1178 (by decide +kernel) (by decide +kernel)
theorem xw_745 : Cond.methodLink RL 114 yX11_hum ∈ xgt := xwm 1176 (by decide +kernel) (by decide +kernel)
theorem xw_746 : Cond.instanceMethod yX12_hum ∈ xgt := xwm 1960 (by decide +kernel) (by decide +kernel)
theorem xw_747 : Cond.selects yX12_hum.cls yX12_hum yX12_hum ∈ xgt := xwm 1961 (by decide +kernel) (by decide +kernel)
theorem xw_748 : Cond.methodLink RL 117 yX12_hum ∈ xgt := xwm 1959 (by decide +kernel) (by decide +kernel)
theorem xw_749 : Cond.instanceMethod yX11_strike ∈ xgt := xwm 1185 (by decide +kernel) (by decide +kernel)
theorem xw_750 : Cond.selects yX11_strike.cls yX11_strike yX11_strike ∈ xgt := xwm 1186 (by decide +kernel) (by decide +kernel)
theorem xw_751 : Cond.methodLink RL 118 yX11_strike ∈ xgt := xwm 1184 (by decide +kernel) (by decide +kernel)
theorem xw_752 : Cond.instanceMethod yX12_strike ∈ xgt := xwm 1964 (by decide +kernel) (by decide +kernel)
theorem xw_753 : Cond.selects yX12_strike.cls yX12_strike yX12_strike ∈ xgt := xwm 1965 (by decide +kernel) (by decide +kernel)
theorem xw_754 : Cond.methodLink RL 121 yX12_strike ∈ xgt := xwm 1963 (by decide +kernel) (by decide +kernel)
theorem xw_755 : Cond.instanceMethod yX11_known ∈ xgt := xwm 1189 (by decide +kernel) (by decide +kernel)
theorem xw_756 : Cond.selects yX11_known.cls yX11_known yX11_known ∈ xgt := xwm 1190 (by decide +kernel) (by decide +kernel)
theorem xw_757 : Cond.methodLink RL 122 yX11_known ∈ xgt := xwm 1188 (by decide +kernel) (by decide +kernel)
theorem xw_758 : Cond.instanceMethod yX12_known ∈ xgt := xwm 1968 (by decide +kernel) (by decide +kernel)
theorem xw_759 : Cond.selects yX12_known.cls yX12_known yX12_known ∈ xgt := xwm 1969 (by decide +kernel) (by decide +kernel)
theorem xw_760 : Cond.methodLink RL 126 yX12_known ∈ xgt := xwm 1967 (by decide +kernel) (by decide +kernel)
theorem xw_761 : Cond.instanceMethod yX11_thieves ∈ xgt := xwm 1193 (by decide +kernel) (by decide +kernel)
theorem xw_762 : Cond.selects yX11_thieves.cls yX11_thieves yX11_thieves ∈ xgt := xwm 1194 (by decide +kernel) (by decide +kernel)
theorem xw_763 : Cond.methodLink RL 127 yX11_thieves ∈ xgt := xwm 1192 (by decide +kernel) (by decide +kernel)
theorem xw_764 : Cond.instanceMethod yX12_thieves ∈ xgt := xwm 1972 (by decide +kernel) (by decide +kernel)
theorem xw_765 : Cond.selects yX12_thieves.cls yX12_thieves yX12_thieves ∈ xgt := xwm 1973 (by decide +kernel) (by decide +kernel)
theorem xw_766 : Cond.methodLink RL 130 yX12_thieves ∈ xgt := xwm 1971 (by decide +kernel) (by decide +kernel)
theorem xw_767 : Cond.instanceMethod yX11_odds ∈ xgt := xwm 1212 (by decide +kernel) (by decide +kernel)
theorem xw_768 : Cond.selects yX11_odds.cls yX11_odds yX11_odds ∈ xgt := xwm 1213 (by decide +kernel) (by decide +kernel)
theorem xw_769 : Cond.methodLink RL 131 yX11_odds ∈ xgt := xwm 1211 (by decide +kernel) (by decide +kernel)
theorem xw_770 : Cond.instanceMethod yX12_odds ∈ xgt := xwm 1992 (by decide +kernel) (by decide +kernel)
theorem xw_771 : Cond.selects yX12_odds.cls yX12_odds yX12_odds ∈ xgt := xwm 1993 (by decide +kernel) (by decide +kernel)
theorem xw_772 : Cond.methodLink RL 134 yX12_odds ∈ xgt := xwm 1991 (by decide +kernel) (by decide +kernel)
theorem xw_773 : Cond.instanceMethod yX11_gang ∈ xgt := xwm 1220 (by decide +kernel) (by decide +kernel)
theorem xw_774 : Cond.selects yX11_gang.cls yX11_gang yX11_gang ∈ xgt := xwm 1221 (by decide +kernel) (by decide +kernel)
theorem xw_775 : Cond.methodLink RL 135 yX11_gang ∈ xgt := xwm 1219 (by decide +kernel) (by decide +kernel)
theorem xw_776 : Cond.instanceMethod yX12_gang ∈ xgt := xwm 2000 (by decide +kernel) (by decide +kernel)
theorem xw_777 : Cond.selects yX12_gang.cls yX12_gang yX12_gang ∈ xgt := xwm 2001 (by decide +kernel) (by decide +kernel)
theorem xw_778 : Cond.methodLink RL 138 yX12_gang ∈ xgt := xwm 1999 (by decide +kernel) (by decide +kernel)
theorem xw_779 : Cond.instanceMethod yX11_round ∈ xgt := xwm 1228 (by decide +kernel) (by decide +kernel)
theorem xw_780 : Cond.selects yX11_round.cls yX11_round yX11_round ∈ xgt := xwm 1229 (by decide +kernel) (by decide +kernel)
theorem xw_781 : Cond.methodLink RL 139 yX11_round ∈ xgt := xwm 1227 (by decide +kernel) (by decide +kernel)
theorem xw_782 : Cond.instanceMethod yX12_round ∈ xgt := xwm 2011 (by decide +kernel) (by decide +kernel)
theorem xw_783 : Cond.selects yX12_round.cls yX12_round yX12_round ∈ xgt := xwm 2012 (by decide +kernel) (by decide +kernel)
theorem xw_784 : Cond.methodLink RL 143 yX12_round ∈ xgt := xwm 2010 (by decide +kernel) (by decide +kernel)
theorem xw_785 : Cond.instanceMethod yX11_entry ∈ xgt := xwm 1253 (by decide +kernel) (by decide +kernel)
theorem xw_786 : Cond.selects yX11_entry.cls yX11_entry yX11_entry ∈ xgt := xwm 1254 (by decide +kernel) (by decide +kernel)
theorem xw_787 : Cond.methodLink RL 144 yX11_entry ∈ xgt := xwm 1252 (by decide +kernel) (by decide +kernel)
theorem xw_788 : Cond.instanceMethod yX12_entry ∈ xgt := xwm 2022 (by decide +kernel) (by decide +kernel)
theorem xw_789 : Cond.selects yX12_entry.cls yX12_entry yX12_entry ∈ xgt := xwm 2023 (by decide +kernel) (by decide +kernel)
theorem xw_790 : Cond.methodLink RL 147 yX12_entry ∈ xgt := xwm 2021 (by decide +kernel) (by decide +kernel)
theorem xw_791 : Cond.instanceMethod yX11_run ∈ xgt := xwm 1257 (by decide +kernel) (by decide +kernel)
theorem xw_792 : Cond.selects yX11_run.cls yX11_run yX11_run ∈ xgt := xwm 1258 (by decide +kernel) (by decide +kernel)
theorem xw_793 : Cond.methodLink RL 148 yX11_run ∈ xgt := xwm 1256 (by decide +kernel) (by decide +kernel)
theorem xw_794 : Cond.instanceMethod yX12_run ∈ xgt := xwm 2026 (by decide +kernel) (by decide +kernel)
theorem xw_795 : Cond.selects yX12_run.cls yX12_run yX12_run ∈ xgt := xwm 2027 (by decide +kernel) (by decide +kernel)
theorem xw_796 : Cond.methodLink RL 151 yX12_run ∈ xgt := xwm 2025 (by decide +kernel) (by decide +kernel)
theorem xw_797 : Cond.instanceMethod yX11_pay ∈ xgt := xwm 1266 (by decide +kernel) (by decide +kernel)
theorem xw_798 : Cond.selects yX11_pay.cls yX11_pay yX11_pay ∈ xgt := xwm 1267 (by decide +kernel) (by decide +kernel)
theorem xw_799 : Cond.methodLink RL 152 yX11_pay ∈ xgt := xwm 1265 (by decide +kernel) (by decide +kernel)
theorem xw_800 : Cond.instanceMethod yX12_pay ∈ xgt := xwm 2034 (by decide +kernel) (by decide +kernel)
theorem xw_801 : Cond.selects yX12_pay.cls yX12_pay yX12_pay ∈ xgt := xwm 2035 (by decide +kernel) (by decide +kernel)
theorem xw_802 : Cond.methodLink RL 155 yX12_pay ∈ xgt := xwm 2033 (by decide +kernel) (by decide +kernel)
theorem xw_803 : Cond.instanceMethod yX11_whole ∈ xgt := xwm 1270 (by decide +kernel) (by decide +kernel)
theorem xw_804 : Cond.selects yX11_whole.cls yX11_whole yX11_whole ∈ xgt := xwm 1271 (by decide +kernel) (by decide +kernel)
theorem xw_805 : Cond.methodLink RL 156 yX11_whole ∈ xgt := xwm 1269 (by decide +kernel) (by decide +kernel)
theorem xw_806 : Cond.instanceMethod yX12_whole ∈ xgt := xwm 2038 (by decide +kernel) (by decide +kernel)
theorem xw_807 : Cond.selects yX12_whole.cls yX12_whole yX12_whole ∈ xgt := xwm 2039 (by decide +kernel) (by decide +kernel)
theorem xw_808 : Cond.methodLink RL 160 yX12_whole ∈ xgt := xwm 2037 (by decide +kernel) (by decide +kernel)
theorem xw_809 : Cond.instanceMethod yX11_keep ∈ xgt := xwm 1275 (by decide +kernel) (by decide +kernel)
theorem xw_810 : Cond.selects yX11_keep.cls yX11_keep yX11_keep ∈ xgt := xwm 1276 (by decide +kernel) (by decide +kernel)
theorem xw_811 : Cond.methodLink RL 161 yX11_keep ∈ xgt := xwm 1274 (by decide +kernel) (by decide +kernel)
theorem xw_812 : Cond.instanceMethod yX12_keep ∈ xgt := xwm 2044 (by decide +kernel) (by decide +kernel)
theorem xw_813 : Cond.selects yX12_keep.cls yX12_keep yX12_keep ∈ xgt := xwm 2045 (by decide +kernel) (by decide +kernel)
theorem xw_814 : Cond.methodLink RL 164 yX12_keep ∈ xgt := xwm 2043 (by decide +kernel) (by decide +kernel)
theorem xw_815 : Cond.instanceMethod yX11_back ∈ xgt := xwm 1283 (by decide +kernel) (by decide +kernel)
theorem xw_816 : Cond.selects yX11_back.cls yX11_back yX11_back ∈ xgt := xwm 1284 (by decide +kernel) (by decide +kernel)
theorem xw_817 : Cond.methodLink RL 165 yX11_back ∈ xgt := xwm 1282 (by decide +kernel) (by decide +kernel)
theorem xw_818 : Cond.instanceMethod yX12_back ∈ xgt := xwm 2052 (by decide +kernel) (by decide +kernel)
theorem xw_819 : Cond.selects yX12_back.cls yX12_back yX12_back ∈ xgt := xwm 2053 (by decide +kernel) (by decide +kernel)
theorem xw_820 : Cond.methodLink RL 168 yX12_back ∈ xgt := xwm 2051 (by decide +kernel) (by decide +kernel)
theorem xw_821 : Cond.instanceMethod yX11_count ∈ xgt := xwm 1287 (by decide +kernel) (by decide +kernel)
theorem xw_822 : Cond.selects yX11_count.cls yX11_count yX11_count ∈ xgt := xwm 1288 (by decide +kernel) (by decide +kernel)
theorem xw_823 : Cond.methodLink RL 169 yX11_count ∈ xgt := xwm 1286 (by decide +kernel) (by decide +kernel)
theorem xw_824 : Cond.instanceMethod yX12_count ∈ xgt := xwm 2056 (by decide +kernel) (by decide +kernel)
theorem xw_825 : Cond.selects yX12_count.cls yX12_count yX12_count ∈ xgt := xwm 2057 (by decide +kernel) (by decide +kernel)
theorem xw_826 : Cond.methodLink RL 172 yX12_count ∈ xgt := xwm 2055 (by decide +kernel) (by decide +kernel)
theorem xin_X0 : ∀ w ∈ u_ws RX0 TX0 10, w ∈ xgt := by decide +kernel
theorem xin_X1 : ∀ w ∈ u_ws RX1 TX1 11, w ∈ xgt := by decide +kernel
theorem xin_X2 : ∀ w ∈ u_ws RX2 TX2 10, w ∈ xgt := by decide +kernel
theorem xin_X3 : ∀ w ∈ u_ws RX3 TX3 2, w ∈ xgt := by decide +kernel
theorem xin_X4 : ∀ w ∈ u_ws RX4 TX4 19, w ∈ xgt := by decide +kernel
theorem xin_X5 : ∀ w ∈ u_ws RX5 TX5 6, w ∈ xgt := by decide +kernel
theorem xin_X6 : ∀ w ∈ u_ws RX6 TX6 2, w ∈ xgt := by decide +kernel
theorem xin_X7 : ∀ w ∈ u_ws RX7 TX7 6, w ∈ xgt := by decide +kernel
theorem xin_X8 : ∀ w ∈ u_ws RX8 TX8 4, w ∈ xgt := by decide +kernel
theorem xin_X9 : ∀ w ∈ u_ws RX9 TX9 9, w ∈ xgt := by decide +kernel
theorem xin_X10 : ∀ w ∈ u_ws RX10 TX10 13, w ∈ xgt := by decide +kernel
theorem xin_X11 : ∀ w ∈ u_ws RX11 TX11 15, w ∈ xgt := by decide +kernel
theorem xin_X12 : ∀ w ∈ u_ws RX12 TX12 69, w ∈ xgt := by decide +kernel
end
section
/-! A machine of my own over numbers, that a program can run: abstract values (tag, number): (0, n) int, (1, i) the cell number i, (2, _) null, (3, k) the unknown int number k, (4, n) long, (5, k) the constant text number k, (6, k) its bytes, (7, _) a reference that is passed on alone.
A cell: inl (type, contents) an array, inr (class, fields) an object. -/
abbrev xV : Type := Nat × Nat
abbrev xC : Type := (Nat × List xV) ⊕ (Nat × List xV)
abbrev xH : Type := List xC
abbrev xL : Type := List (Nat × xV)
abbrev xOp : Type := Nat × Nat × Nat × Nat × List (Nat × Nat)
abbrev xM : Type := MethodName × ByteArray × Nat × Option FieldType × Nat × String × Room × List (Nat × xOp)
/-- what is known of the unknown ints: pairs that differ; bounds (moved by 2^31) -/
abbrev xK : Type := List (xV × xV) × List (Nat × Nat)
abbrev xR : Type := xK × Option xV × xH
abbrev xD : Type := List (Nat × xV × xV)
/-! what an abstract thing means -/
def xdi (ρ : Nat → Int32) (v : xV) : Int32 := match v with
  | (0, n) => nI n
  | (3, k) => ρ k
  | _ => 0
def xdl (v : xV) : Int64 := lN v.2
def xdv (b : Nat) (ρ : Nat → Int32) (sa : Nat → Nat) (v : xV) : Value := match v with
  | (0, n) => .int (nI n)
  | (1, i) => .ref (b + i)
  | (2, _) => .null
  | (3, k) => .int (ρ k)
  | (5, k) => .ref (sa k)
  | (6, k) => .ref (sa (k + 1000))
  | (7, _) => if sa 98 = 0 then .null else .ref (sa 99)
  | (_, n) => .long (lN n)
def xdr (b : Nat) (v : xV) : Option Nat := match v with
  | (1, i) => some (b + i)
  | _ => none
def xty (k : Nat) : FieldType := match k with
  | 0 => .int
  | 1 => .byte
  | 2 => .long
  | 3 => .boolean
  | _ => .array .int
def xzero (k : Nat) : xV := match k with
  | 2 => (4, 0)
  | 4 => (2, 0)
  | _ => (0, 0)
def xce (b : Nat) (ρ : Nat → Int32) (sa : Nat → Nat) (dA : Nat → ClassId) (c : xC) : va_E := match c with
  | .inl (2, vs) => .inl (dA 2, vs.length, .inr (.inl (fun j => xdl (vs.getD j (4, 0)))))
  | .inl (4, vs) => .inl (dA 4, vs.length, .inr (.inr (.inr (.inr (fun j => xdr b (vs.getD j (2, 0)))))))
  | .inl (k, vs) => .inl (dA k, vs.length, .inl (fun j => xdi ρ (vs.getD j (0, 0))))
  | .inr (ci, fs) => .inr (ci, fs.map (xdv b ρ sa))
def xcx (b : Nat) (ρ : Nat → Int32) (sa : Nat → Nat) (dA : Nat → ClassId) : Nat → xH → va_W
  | _, [] => []
  | i, c :: K => (b + i, xce b ρ sa dA c) :: xcx b ρ sa dA (i + 1) K
theorem xcx_get {b : Nat} {ρ : Nat → Int32} {sa : Nat → Nat} {dA : Nat → ClassId} : ∀ (K : xH) (o i : Nat), (xcx b ρ sa dA o K)[i]? = K[i]?.map (fun c => (b + (o + i), xce b ρ sa dA c))
  | [], o, i => by simp [xcx]
  | c :: K, o, 0 => by simp [xcx]
  | c :: K, o, i + 1 => by
    simp only [xcx, List.getElem?_cons_succ]
    rw [xcx_get K (o + 1) i, show o + 1 + i = o + (i + 1) by omega]
theorem xcx_set {b : Nat} {ρ : Nat → Int32} {sa : Nat → Nat} {dA : Nat → ClassId} : ∀ (K : xH) (o i : Nat) (c : xC), (xcx b ρ sa dA o K).set i (b + (o + i), xce b ρ sa dA c) = xcx b ρ sa dA o (K.set i c)
  | [], o, i, c => by simp [xcx]
  | d :: K, o, 0, c => by simp [xcx]
  | d :: K, o, i + 1, c => by
    simp only [xcx, List.set_cons_succ]
    rw [← xcx_set K (o + 1) i c, show o + 1 + i = o + (i + 1) by omega]
theorem xcx_push {b : Nat} {ρ : Nat → Int32} {sa : Nat → Nat} {dA : Nat → ClassId} : ∀ (K : xH) (o : Nat) (c : xC), xcx b ρ sa dA o (K ++ [c]) = xcx b ρ sa dA o K ++ [(b + (o + K.length), xce b ρ sa dA c)]
  | [], o, c => by simp [xcx]
  | d :: K, o, c => by
    simp only [List.cons_append, xcx, List.length_cons]
    rw [xcx_push K (o + 1) c, show o + 1 + K.length = o + (K.length + 1) by omega]
theorem xcx_D {b : Nat} {ρ : Nat → Int32} {sa : Nat → Nat} {dA : Nat → ClassId} {A : Nat → Prop} {K : xH} (h : ∀ i, i < K.length → A (b + i)) : va_D A (xcx b ρ sa dA 0 K) := by
  refine ⟨fun i j p q hi hj hpq => ?_, fun k q hk => ?_⟩
  · rw [xcx_get] at hi hj
    cases h1 : K[i]? with
    | none => rw [h1] at hi; cases hi
    | some x =>
      cases h2 : K[j]? with
      | none => rw [h2] at hj; cases hj
      | some y =>
        rw [h1] at hi; rw [h2] at hj
        cases hi; cases hj
        dsimp only at hpq
        omega
  · rw [xcx_get] at hk
    cases h1 : K[k]? with
    | none => rw [h1] at hk; cases hk
    | some x =>
      rw [h1] at hk
      cases hk
      have := (List.getElem?_eq_some_iff.mp h1).1
      rw [show b + (0 + k) = b + k by omega]
      exact h k this
/-! the numbers -/
def xbin (o x y : Nat) : Option Nat := match o with
  | 0 => some ((x + y) % 4294967296)
  | 1 => some ((x + (4294967296 - y % 4294967296)) % 4294967296)
  | 2 => some ((x * y) % 4294967296)
  | 3 => some (Nat.land x y)
  | 4 => some (Nat.lor x y)
  | 5 => some (Nat.xor x y)
  | 6 => if Nat.blt y 32 && Nat.blt (x * 2 ^ y) 4294967296 then some (x * 2 ^ y) else none
  | 7 => if Nat.blt y 32 && Nat.blt x 2147483648 then some (x / 2 ^ y) else none
  | 8 => if Nat.blt y 32 && Nat.blt x 4294967296 then some (x / 2 ^ y) else none
  | 9 => if Nat.blt 0 y && Nat.blt y 2147483648 && Nat.blt x 2147483648 then some (x / y) else none
  | 10 => if Nat.blt 0 y && Nat.blt y 2147483648 && Nat.blt x 2147483648 then some (x % y) else none
  | _ => none
def fbin (o : Nat) (x y : Int32) : Int32 := match o with
  | 0 => x + y
  | 1 => x - y
  | 2 => x * y
  | 3 => x &&& y
  | 4 => x ||| y
  | 5 => x ^^^ y
  | 6 => x <<< (y &&& 31)
  | 7 => x >>> (y &&& 31)
  | 8 => (x.toUInt32 >>> (y.toUInt32 &&& Int32.toUInt32 31)).toInt32
  | 9 => x / y
  | 10 => x - x / y * y
  | _ => 0
theorem nI_m (n : Nat) : nI (n % 4294967296) = nI n := by
  apply Int32.toBitVec_inj.mp
  show BitVec.ofNat 32 _ = BitVec.ofNat 32 _
  apply BitVec.eq_of_toNat_eq
  simp
theorem nI_bv (n : Nat) : (nI n).toBitVec = BitVec.ofNat 32 n := rfl
theorem xs_l : ∀ n, n < 32 → ((nI n &&& 31).toBitVec.smod 32).toNat = n := by decide +kernel
theorem xs_u : ∀ n, n < 32 → (((nI n).toUInt32 &&& Int32.toUInt32 31).toBitVec % 32).toNat = n := by decide +kernel
theorem xbin_ok {o x y z : Nat} (h : xbin o x y = some z) : fbin o (nI x) (nI y) = nI z := by
  match o, h with
  | 0, h => cases h; rw [nI_m]; exact nI_add x y
  | 1, h =>
    cases h
    rw [nI_m, ← nI_add]
    show nI x - nI y = _
    have e : nI (4294967296 - y % 4294967296) + nI y = 0 := by
      rw [← nI_m y, nI_add, show 4294967296 - y % 4294967296 + y % 4294967296 = 4294967296 by omega]
      decide +kernel
    have e2 : nI (4294967296 - y % 4294967296) = - nI y := by
      rw [← Int32.add_zero (-nI y), ← e, Int32.add_comm, Int32.add_assoc, Int32.add_right_neg, Int32.add_zero]
    rw [e2, Int32.sub_eq_add_neg]
  | 2, h => cases h; rw [nI_m]; exact pk_mul x y
  | 3, h =>
    cases h
    apply Int32.toBitVec_inj.mp
    show BitVec.ofNat 32 x &&& BitVec.ofNat 32 y = BitVec.ofNat 32 (x &&& y)
    apply BitVec.eq_of_toNat_eq
    simp [Nat.and_mod_two_pow]
  | 4, h =>
    cases h
    apply Int32.toBitVec_inj.mp
    show BitVec.ofNat 32 x ||| BitVec.ofNat 32 y = BitVec.ofNat 32 (x ||| y)
    apply BitVec.eq_of_toNat_eq
    simp [Nat.or_mod_two_pow]
  | 5, h =>
    cases h
    apply Int32.toBitVec_inj.mp
    show BitVec.ofNat 32 x ^^^ BitVec.ofNat 32 y = BitVec.ofNat 32 (x ^^^ y)
    apply BitVec.eq_of_toNat_eq
    simp [Nat.xor_mod_two_pow]
  | 6, h =>
    simp only [xbin] at h
    split at h
    · next hc =>
      simp only [Bool.and_eq_true, Nat.blt_eq] at hc
      cases h
      exact pk_shlN _ y (xs_l y hc.1) hc.2
    · cases h
  | 7, h =>
    simp only [xbin] at h
    split at h
    · next hc =>
      simp only [Bool.and_eq_true, Nat.blt_eq] at hc
      cases h
      exact pk_shrN hc.2 _ y (xs_l y hc.1)
    · cases h
  | 8, h =>
    simp only [xbin] at h
    split at h
    · next hc =>
      simp only [Bool.and_eq_true, Nat.blt_eq] at hc
      cases h
      exact pk_ushrN hc.2 _ y (xs_u y hc.1)
    · cases h
  | 9, h =>
    simp only [xbin] at h
    split at h
    · next hc =>
      simp only [Bool.and_eq_true, Nat.blt_eq] at hc
      cases h
      exact pk_div hc.2 hc.1.1 hc.1.2
    · cases h
  | 10, h =>
    simp only [xbin] at h
    split at h
    · next hc =>
      simp only [Bool.and_eq_true, Nat.blt_eq] at hc
      cases h
      exact pk_rem hc.2 hc.1.1 hc.1.2
    · cases h
/-- comparing: 0 =, 1 not =, 2 <, 3 >=, 4 >, 5 <= -/
def xcp (c : Nat) (x y : Int32) : Prop := match c with
  | 0 => x = y
  | 1 => ¬ x = y
  | 2 => x < y
  | 3 => y ≤ x
  | 4 => y < x
  | _ => x ≤ y
def xsg (n : Nat) : Nat := (n + 2147483648) % 4294967296
def xcb (c x y : Nat) : Bool := match c with
  | 0 => Nat.beq x y
  | 1 => !(Nat.beq x y)
  | 2 => Nat.blt (xsg x) (xsg y)
  | 3 => Nat.ble (xsg y) (xsg x)
  | 4 => Nat.blt (xsg y) (xsg x)
  | _ => Nat.ble (xsg x) (xsg y)
theorem xti {n : Nat} (h : n < 4294967296) : (nI n).toInt = (xsg n : Int) - 2147483648 := by
  show (BitVec.ofNat 32 n).toInt = _
  rw [BitVec.toInt_eq_toNat_cond]
  simp only [BitVec.toNat_ofNat, xsg]
  have e : n % 2 ^ 32 = n := Nat.mod_eq_of_lt h
  rw [e]
  split <;> omega
theorem xcb_ok {c x y : Nat} (hx : x < 4294967296) (hy : y < 4294967296) : xcb c x y = true ↔ xcp c (nI x) (nI y) := by
  have ex := xti hx
  have ey := xti hy
  have eq : nI x = nI y ↔ x = y := by
    refine ⟨fun h => ?_, fun h => by rw [h]⟩
    have h2 : (nI x).toInt = (nI y).toInt := by rw [h]
    rw [ex, ey] at h2
    simp only [xsg] at h2
    omega
  match c with
  | 0 =>
    show Nat.beq x y = true ↔ nI x = nI y
    rw [eq, Nat.beq_eq]
  | 1 =>
    show (!(Nat.beq x y)) = true ↔ ¬ nI x = nI y
    rw [eq, ← Nat.beq_eq]
    cases Nat.beq x y <;> simp
  | 2 =>
    show Nat.blt (xsg x) (xsg y) = true ↔ nI x < nI y
    rw [Nat.blt_eq, Int32.lt_iff_toInt_lt, ex, ey]; omega
  | 3 =>
    show Nat.ble (xsg y) (xsg x) = true ↔ nI y ≤ nI x
    rw [Nat.ble_eq, Int32.le_iff_toInt_le, ex, ey]; omega
  | 4 =>
    show Nat.blt (xsg y) (xsg x) = true ↔ nI y < nI x
    rw [Nat.blt_eq, Int32.lt_iff_toInt_lt, ex, ey]; omega
  | c + 5 =>
    show Nat.ble (xsg x) (xsg y) = true ↔ nI x ≤ nI y
    rw [Nat.ble_eq, Int32.le_iff_toInt_le, ex, ey]; omega
/-! what is known of the unknown ints -/
def sgI (x : Int32) : Nat := (x.toInt + 2147483648).toNat
theorem sgI_i (x : Int32) : (sgI x : Int) = x.toInt + 2147483648 := by
  have h := Int32.le_toInt x
  simp only [sgI]
  omega
theorem sgI_lt (x : Int32) : sgI x < 4294967296 := by
  have h := Int32.toInt_lt x
  have h2 := sgI_i x
  omega
theorem sgI_nI {n : Nat} (h : n < 4294967296) : sgI (nI n) = xsg n := by
  have h1 := sgI_i (nI n)
  rw [xti h] at h1
  omega
theorem xsg2 {n : Nat} (h : n < 4294967296) : xsg (xsg n) = n := by
  simp only [xsg]
  omega
theorem xsg_lt (n : Nat) : xsg n < 4294967296 := Nat.mod_lt _ (by decide)
theorem sgI_inj {x y : Int32} (h : sgI x = sgI y) : x = y := by
  apply Int32.toInt_inj.mp
  have h1 := sgI_i x
  have h2 := sgI_i y
  omega
theorem sgI_eq {x : Int32} {n : Nat} (hn : n < 4294967296) (h : sgI x = n) : x = nI (xsg n) := sgI_inj (by rw [sgI_nI (xsg_lt n), xsg2 hn]; exact h)
theorem sgI_ltI (x y : Int32) : x < y ↔ sgI x < sgI y := by
  have h1 := sgI_i x
  have h2 := sgI_i y
  rw [Int32.lt_iff_toInt_lt]
  omega
def xKok (ρ : Nat → Int32) (κ : xK) : Prop := (∀ q ∈ κ.1, ¬ xdi ρ q.1 = xdi ρ q.2) ∧ ∀ (k lo hi : Nat), κ.2[k]? = some (lo, hi) → lo ≤ sgI (ρ k) ∧ sgI (ρ k) ≤ hi
/-- an int -/
def xint (v : xV) : Bool := match v with
  | (0, n) => Nat.blt n 4294967296
  | (3, _) => true
  | _ => false
def xrng (iv : List (Nat × Nat)) (v : xV) : Nat × Nat := match v with
  | (0, n) => (xsg n, xsg n)
  | (3, k) => iv.getD k (0, 4294967295)
  | _ => (0, 4294967295)
theorem xrng_ok {ρ : Nat → Int32} {κ : xK} (h : xKok ρ κ) {v : xV} (hv : xint v = true) : (xrng κ.2 v).1 ≤ sgI (xdi ρ v) ∧ sgI (xdi ρ v) ≤ (xrng κ.2 v).2 := by
  match v, hv with
  | (0, n), hv =>
    have hn : n < 4294967296 := by simpa [xint, Nat.blt_eq] using hv
    simp only [xrng, xdi]
    rw [sgI_nI hn]
    exact ⟨Nat.le_refl _, Nat.le_refl _⟩
  | (3, k), _ =>
    simp only [xrng, xdi]
    rw [List.getD_eq_getElem?_getD]
    cases hk : κ.2[k]? with
    | none =>
      have := sgI_lt (ρ k)
      exact ⟨Nat.zero_le _, by simp; omega⟩
    | some q => exact h.2 k q.1 q.2 hk
/-- a known unknown -/
def xnm (iv : List (Nat × Nat)) (v : xV) : xV := match v with
  | (3, k) => match iv[k]? with
    | some (lo, hi) => if Nat.beq lo hi then (0, xsg lo) else (3, k)
    | none => (3, k)
  | v => v
theorem xnm_ok {ρ : Nat → Int32} {κ : xK} (h : xKok ρ κ) {b : Nat} {sa : Nat → Nat} (v : xV) : xdv b ρ sa (xnm κ.2 v) = xdv b ρ sa v ∧ xdi ρ (xnm κ.2 v) = xdi ρ v := by
  match v with
  | (0, _) | (1, _) | (2, _) | (4, _) | (5, _) | (6, _) | (7, _) => exact ⟨rfl, rfl⟩
  | (n + 8, _) => exact ⟨rfl, rfl⟩
  | (3, k) =>
    simp only [xnm]
    cases hk : κ.2[k]? with
    | none => exact ⟨rfl, rfl⟩
    | some q =>
      obtain ⟨lo, hi⟩ := q
      dsimp only
      split
      · next he =>
        have he : lo = hi := Nat.eq_of_beq_eq_true he
        subst he
        obtain ⟨h1, h2⟩ := h.2 k lo lo hk
        have e : sgI (ρ k) = lo := by omega
        have := sgI_eq (by have := sgI_lt (ρ k); omega) e
        simp only [xdv, xdi]
        rw [← this]
        exact ⟨rfl, rfl⟩
      · exact ⟨rfl, rfl⟩
def xsetr (iv : List (Nat × Nat)) (v : xV) (lo hi : Nat) : List (Nat × Nat) := match v with
  | (3, k) => match iv[k]? with
    | some (l, h) => iv.set k (Nat.max l lo, Nat.min h hi)
    | none => iv
  | _ => iv
theorem xsetr_ok {ρ : Nat → Int32} {cs : List (xV × xV)} {iv : List (Nat × Nat)} (h : xKok ρ (cs, iv)) {v : xV} {lo hi : Nat} (h1 : lo ≤ sgI (xdi ρ v)) (h2 : sgI (xdi ρ v) ≤ hi) : xKok ρ (cs, xsetr iv v lo hi) := by
  refine ⟨h.1, ?_⟩
  match v, h1, h2 with
  | (0, _), _, _ | (1, _), _, _ | (2, _), _, _ => exact h.2
  | (n + 4, _), _, _ => exact h.2
  | (3, k), h1, h2 =>
    simp only [xsetr]
    cases hk : iv[k]? with
    | none => exact h.2
    | some q =>
      obtain ⟨l, u⟩ := q
      intro j lo' hi' hj
      dsimp only at hj
      by_cases e : j = k
      · subst e
        have hl := (List.getElem?_eq_some_iff.mp hk).1
        rw [List.getElem?_set_self hl] at hj
        cases hj
        have h3 := h.2 j l u hk
        simp only [xdi] at h1 h2
        exact ⟨Nat.max_le.mpr ⟨h3.1, h1⟩, Nat.le_min.mpr ⟨h3.2, h2⟩⟩
      · rw [List.getElem?_set_ne (Ne.symm e)] at hj
        exact h.2 j lo' hi' hj
def xcons (iv : List (Nat × Nat)) : Bool := iv.all (fun q => Nat.ble q.1 q.2)
theorem xcons_ok {ρ : Nat → Int32} {κ : xK} (h : xKok ρ κ) : xcons κ.2 = true := by
  refine List.all_eq_true.mpr (fun q hq => ?_)
  obtain ⟨k, hk⟩ := List.getElem?_of_mem hq
  have := h.2 k q.1 q.2 hk
  exact Nat.ble_eq.mpr (by omega)
/-- the base compare: k 0 '=', 1 '<' -/
def xbp (k : Nat) (x y : Int32) : Prop := if k = 0 then x = y else x < y
def xdec (κ : xK) (k : Nat) (x y : xV) : Option Bool :=
  let a := xrng κ.2 x
  let b := xrng κ.2 y
  if Nat.beq k 0 then
    if Nat.beq a.1 a.2 && (Nat.beq b.1 b.2 && Nat.beq a.1 b.1) then some true
    else if Nat.blt a.2 b.1 || Nat.blt b.2 a.1 then some false
    else if κ.1.any (fun q => Nat.beq q.1.1 x.1 && Nat.beq q.1.2 x.2 && (Nat.beq q.2.1 y.1 && Nat.beq q.2.2 y.2)) then some false
    else none
  else if Nat.blt a.2 b.1 then some true
  else if Nat.ble b.2 a.1 then some false
  else none
theorem xdec_ok {ρ : Nat → Int32} {κ : xK} (h : xKok ρ κ) {k : Nat} {x y : xV} (hx : xint x = true) (hy : xint y = true) {r : Bool} (hd : xdec κ k x y = some r) : r = true ↔ xbp k (xdi ρ x) (xdi ρ y) := by
  have h1 := xrng_ok h hx
  have h2 := xrng_ok h hy
  simp only [xdec] at hd
  by_cases hk : k = 0
  · subst hk
    rw [if_pos (by rfl)] at hd
    simp only [xbp, if_pos]
    split at hd
    · next hc =>
      simp only [Bool.and_eq_true, Nat.beq_eq] at hc
      cases hd
      exact ⟨fun _ => sgI_inj (by omega), fun _ => rfl⟩
    · split at hd
      · next hc =>
        simp only [Bool.or_eq_true, Nat.blt_eq] at hc
        cases hd
        refine ⟨fun q => (by cases q), fun e => ?_⟩
        rw [e] at h1
        omega
      · split at hd
        · next hc =>
          cases hd
          refine ⟨fun q => (by cases q), fun e => ?_⟩
          obtain ⟨q, hq, hh⟩ := List.any_eq_true.mp hc
          simp only [Bool.and_eq_true, Nat.beq_eq] at hh
          obtain ⟨⟨e1, e2⟩, e3, e4⟩ := hh
          have ex : q.1 = x := Prod.ext e1 e2
          have ey : q.2 = y := Prod.ext e3 e4
          exact absurd (by rw [ex, ey]; exact e) (h.1 q hq)
        · cases hd
  · rw [if_neg (by rw [Nat.beq_eq]; exact hk)] at hd
    simp only [xbp, if_neg hk]
    rw [sgI_ltI]
    split at hd
    · next hc =>
      simp only [Nat.blt_eq] at hc
      cases hd
      exact ⟨fun _ => by omega, fun _ => rfl⟩
    · split at hd
      · next hc =>
        simp only [Nat.ble_eq] at hc
        cases hd
        exact ⟨fun q => (by cases q), fun _ => by omega⟩
      · cases hd
/-- what a branch teaches -/
def xlrn (κ : xK) (k : Nat) (x y : xV) (r : Bool) : xK :=
  let a := xrng κ.2 x
  let b := xrng κ.2 y
  if Nat.beq k 0 then (if r then (κ.1, xsetr (xsetr κ.2 x b.1 b.2) y a.1 a.2) else ((x, y) :: κ.1, κ.2))
  else if r then (κ.1, xsetr (xsetr κ.2 x 0 (b.2 - 1)) y (a.1 + 1) 4294967295)
  else (κ.1, xsetr (xsetr κ.2 x b.1 4294967295) y 0 a.2)
theorem xlrn_ok {ρ : Nat → Int32} {κ : xK} (h : xKok ρ κ) {k : Nat} {x y : xV} (hx : xint x = true) (hy : xint y = true) {r : Bool} (hb : r = true ↔ xbp k (xdi ρ x) (xdi ρ y)) : xKok ρ (xlrn κ k x y r) := by
  have h1 := xrng_ok h hx
  have h2 := xrng_ok h hy
  have l1 := sgI_lt (xdi ρ x)
  have l2 := sgI_lt (xdi ρ y)
  simp only [xlrn]
  by_cases hk : k = 0
  · subst hk
    simp only [xbp, if_pos] at hb
    rw [if_pos (by rfl)]
    cases r with
    | true =>
      have e := hb.mp rfl
      rw [if_pos rfl]
      exact xsetr_ok (xsetr_ok (cs := κ.1) (iv := κ.2) h (by rw [e]; exact h2.1) (by rw [e]; exact h2.2)) (by rw [← e]; exact h1.1) (by rw [← e]; exact h1.2)
    | false =>
      rw [if_neg (by decide)]
      refine ⟨fun q hq => ?_, h.2⟩
      rcases List.mem_cons.mp hq with e | hq
      · rw [e]
        exact fun z => by have := hb.mpr z; cases this
      · exact h.1 q hq
  · simp only [xbp, if_neg hk] at hb
    rw [if_neg (by rw [Nat.beq_eq]; exact hk)]
    rw [sgI_ltI] at hb
    cases r with
    | true =>
      have e := hb.mp rfl
      rw [if_pos rfl]
      exact xsetr_ok (xsetr_ok (cs := κ.1) (iv := κ.2) h (Nat.zero_le _) (by omega)) (by omega) (by omega)
    | false =>
      have e : ¬ sgI (xdi ρ x) < sgI (xdi ρ y) := fun z => by have := hb.mpr z; cases this
      rw [if_neg (by decide)]
      exact xsetr_ok (xsetr_ok (cs := κ.1) (iv := κ.2) h (by omega) (by omega)) (Nat.zero_le _) (by omega)
/-- the normal form of a compare: base, left, right, negated -/
def xnf (c : Nat) (x y : xV) : Nat × xV × xV × Bool := match c with
  | 0 => (0, x, y, false)
  | 1 => (0, x, y, true)
  | 2 => (1, x, y, false)
  | 3 => (1, x, y, true)
  | 4 => (1, y, x, false)
  | _ => (1, y, x, true)
theorem xnf_ok {ρ : Nat → Int32} (c : Nat) (x y : xV) : xcp c (xdi ρ x) (xdi ρ y) ↔ (xbp (xnf c x y).1 (xdi ρ (xnf c x y).2.1) (xdi ρ (xnf c x y).2.2.1) ↔ (xnf c x y).2.2.2 = false) := by
  match c with
  | 0 => simp [xcp, xnf, xbp]
  | 1 => simp [xcp, xnf, xbp]
  | 2 => simp [xcp, xnf, xbp]
  | 3 => simp [xcp, xnf, xbp, Int32.not_lt]
  | 4 => simp [xcp, xnf, xbp]
  | c + 5 => simp [xcp, xnf, xbp, Int32.not_lt]
def xadd (x y : Option (List xR)) : Option (List xR) := match x, y with
  | some a, some b => some (a ++ b)
  | _, _ => none
/-- a compare: one way where it is known, else both, each with what it teaches -/
def xfork (κ : xK) (c : Nat) (x y : xV) (kt kf : xK → Option (List xR)) : Option (List xR) :=
  let q := xnf c (xnm κ.2 x) (xnm κ.2 y)
  if xint q.2.1 && xint q.2.2.1 then
    match xdec κ q.1 q.2.1 q.2.2.1 with
    | some r => if Bool.xor r q.2.2.2 then kt κ else kf κ
    | none =>
      let k1 := xlrn κ q.1 q.2.1 q.2.2.1 true
      let k2 := xlrn κ q.1 q.2.1 q.2.2.1 false
      xadd (if xcons k1.2 then (if q.2.2.2 then kf k1 else kt k1) else some []) (if xcons k2.2 then (if q.2.2.2 then kt k2 else kf k2) else some [])
  else none
theorem xfork_ok {ρ : Nat → Int32} {κ : xK} (h : xKok ρ κ) {c : Nat} {x y : xV} {kt kf : xK → Option (List xR)} {Ls : List xR} (hf : xfork κ c x y kt kf = some Ls) :
    (xcp c (xdi ρ x) (xdi ρ y) → ∃ κ' L, kt κ' = some L ∧ xKok ρ κ' ∧ ∀ q ∈ L, q ∈ Ls) ∧ (¬ xcp c (xdi ρ x) (xdi ρ y) → ∃ κ' L, kf κ' = some L ∧ xKok ρ κ' ∧ ∀ q ∈ L, q ∈ Ls) := by
  simp only [xfork] at hf
  have hn := xnf_ok (ρ := ρ) c (xnm κ.2 x) (xnm κ.2 y)
  rw [(xnm_ok h (b := 0) (sa := fun _ => 0) x).2, (xnm_ok h (b := 0) (sa := fun _ => 0) y).2] at hn
  generalize xnf c (xnm κ.2 x) (xnm κ.2 y) = q at hf hn
  obtain ⟨k, u, w, ng⟩ := q
  dsimp only at hf hn
  split at hf
  · next hi =>
    simp only [Bool.and_eq_true] at hi
    cases hd : xdec κ k u w with
    | some r =>
      rw [hd] at hf
      dsimp only at hf
      have hr := xdec_ok h hi.1 hi.2 hd
      rw [← hr] at hn
      refine ⟨fun hc => ⟨κ, Ls, ?_, h, fun _ z => z⟩, fun hc => ⟨κ, Ls, ?_, h, fun _ z => z⟩⟩
      · have := hn.mp hc
        cases r <;> cases ng <;> simp_all
      · have := fun z => hc (hn.mpr z)
        cases r <;> cases ng <;> simp_all
    | none =>
      rw [hd] at hf
      dsimp only at hf
      generalize ha : (if xcons (xlrn κ k u w true).2 = true then (if ng = true then kf (xlrn κ k u w true) else kt (xlrn κ k u w true)) else some []) = a at hf
      generalize hb : (if xcons (xlrn κ k u w false).2 = true then (if ng = true then kt (xlrn κ k u w false) else kf (xlrn κ k u w false)) else some []) = b at hf
      cases a with
      | none => cases hf
      | some La =>
        cases b with
        | none => cases hf
        | some Lb =>
          cases hf
          by_cases hbp : xbp k (xdi ρ u) (xdi ρ w)
          · have hK := xlrn_ok h hi.1 hi.2 (r := true) (k := k) ⟨fun _ => hbp, fun _ => rfl⟩
            rw [if_pos (xcons_ok hK)] at ha
            refine ⟨fun hc => ⟨_, La, ?_, hK, fun q hq => List.mem_append_left _ hq⟩, fun hc => ⟨_, La, ?_, hK, fun q hq => List.mem_append_left _ hq⟩⟩
            · have := (hn.mp hc).mp hbp
              subst this
              simpa using ha
            · have : ng = true := by
                cases ng
                · exact absurd (hn.mpr ⟨fun _ => rfl, fun _ => hbp⟩) hc
                · rfl
              subst this
              simpa using ha
          · have hK := xlrn_ok h hi.1 hi.2 (r := false) (k := k) ⟨fun z => (by cases z), fun z => absurd z hbp⟩
            rw [if_pos (xcons_ok hK)] at hb
            refine ⟨fun hc => ⟨_, Lb, ?_, hK, fun q hq => List.mem_append_right _ hq⟩, fun hc => ⟨_, Lb, ?_, hK, fun q hq => List.mem_append_right _ hq⟩⟩
            · have : ng = true := by
                cases ng
                · exact absurd ((hn.mp hc).mpr rfl) hbp
                · rfl
              subst this
              simpa using hb
            · have : ng = false := by
                cases ng
                · rfl
                · exact absurd (hn.mpr ⟨fun z => absurd z hbp, fun z => by cases z⟩) hc
              subst this
              simpa using hb
  · cases hf
end
section
abbrev xCx (p : Program) (s : State) (m : MethodId) (args : Array Value) (c : Code) (cc : ByteArray) (own : String) : Prop := p.tables.exec = Jvm.exec ∧ c.code = cc ∧ s.vm.findClass own = some m.cls ∧ ∀ w ∈ xgt, w.before args s = true
/-- the words of a private method of a nest mate -/
def xnw : List Cond := [.methodLinkNest RX11 15 yX4_init RX11, .methodLinkNest RX11 39 yX10_init RX11, .methodLinkNest RX11 49 yX3_init RX11, .methodLinkNest RX4 65 yX2_init RX11]
/-- the constant texts of the class of tokens: their lengths, their bytes -/
def xlen : List Nat := [68, 48]
def xbyt : List (List Nat) := [[116, 97, 118, 101, 114, 110, 32, 118, 111, 105, 99, 101, 32, 118, 101, 114, 115, 101, 32, 98, 97, 107, 101, 114, 32, 112, 117, 114, 115, 101, 32, 115, 101, 101, 100, 32, 108, 97, 119, 32, 98, 111, 121, 32, 112, 97, 119, 110, 32, 111, 100, 100, 115, 32, 112, 97, 114, 116, 32, 100, 117, 101, 32, 99, 114, 97, 99, 107], [111, 114, 32, 97, 110, 100, 32, 110, 111, 116, 32, 100, 101, 98, 116, 32, 114, 97, 116, 101, 32, 110, 111, 116, 101, 115, 32, 114, 101, 115, 116, 115, 32, 104, 105, 103, 104, 32, 119, 101, 101, 107, 32, 112, 97, 114, 116, 115]]
/-- the words of a throw that no good word says -/
def xthr : List Cond := (vx_atS RX11 153 "java/lang/IndexOutOfBoundsException" ["java/lang/RuntimeException", "java/lang/Exception"]).filter (fun w => !goodWord w)
/-- what holds beside the world: nest mates, arrays of arrays, constant texts (sa k the text, sa (k + 1000) its bytes), statics -/
def xFx (b : Nat) (sa : Nat → Nat) (s : State) : Prop := (∀ w ∈ xnw, va_Nw w s) ∧ va_Nw (.arrayOver (.array .int)) s ∧
  (∀ k, k < 2 → va_O "java/lang/String" (sa k) (fun q => b ≤ q) s s.heap ∧ va_OF "java/lang/String" "coder" "B" (.int 0) (sa k) (fun q => b ≤ q) s s.heap ∧ va_OF "java/lang/String" "value" "[B" (.ref (sa (k + 1000))) (sa k) (fun q => b ≤ q) s s.heap ∧ va_T .byte (sa (k + 1000)) (xlen.getD k 0) (fun j => .int (nI ((xbyt.getD k []).getD j 0))) (fun q => b ≤ q) s s.heap) ∧
  vk_R RX9 41 "tavern voice verse baker purse seed law boy pawn odds part due crack" (sa 0) s ∧ vk_R RX9 47 "or and not debt rate notes rests high week parts" (sa 1) s ∧
  va_Z "java/lang/String" "COMPACT_STRINGS" "Z" (.int 1) (fun q => b ≤ q) s s.heap ∧ va_Z "jdk/internal/util/Preconditions" "SIOOBE_FORMATTER" "Ljava/util/function/BiFunction;" (if sa 98 = 0 then .null else .ref (sa 99)) (fun q => b ≤ q) s s.heap ∧
  (vx_Zq Bundle.tN "UNASSIGNED_STACK" Bundle.steD (fun q => b ≤ q) s s.heap ∧ vx_Zq Bundle.tN "SUPPRESSED_SENTINEL" Bundle.listD (fun q => b ≤ q) s s.heap ∧ vk_R RX11 151 "no such voice" (sa 60) s ∧ ∀ w ∈ xthr, va_Nw w s)
def xkd (k : Nat) (v : Value) : Prop := match k with
  | 0 => ∃ x, v = .int x
  | 1 => v = .null ∨ ∃ a, v = .ref a
  | _ => ∃ x, v = .long x
def xT (cc : ByteArray) (own : String) (pc nx : Nat) (st st' : List Value) : Prop := ∀ (p : Program) (l : Launch) (e : Env) (R : Room) (s : State) (m : MethodId) (args : Array Value) (below : List Frame) (meth : Method) (c : Code) (H : Heap) (locs : List Loc) (cells slots : Nat) (Q : State → Prop) (ls : Array Slot) (rest : List Value), xCx p s m args c cc own → W p l e R s m args below meth c H locs cells slots Q (F0 m nx ls (st' ++ rest)) → W p l e R s m args below meth c H locs cells slots Q (F0 m pc ls (st ++ rest))
def xB (cc : ByteArray) (own : String) (pc nx tgt k : Nat) : Prop := ∀ (p : Program) (l : Launch) (e : Env) (R : Room) (s : State) (m : MethodId) (args : Array Value) (below : List Frame) (meth : Method) (c : Code) (H : Heap) (locs : List Loc) (cells slots : Nat) (Q : State → Prop) (ls : Array Slot) (rest : List Value), xCx p s m args c cc own → ∀ x y : Int32, (xcp k x y → W p l e R s m args below meth c H locs cells slots Q (F0 m tgt ls rest)) → (¬ xcp k x y → W p l e R s m args below meth c H locs cells slots Q (F0 m nx ls rest)) → W p l e R s m args below meth c H locs cells slots Q (F0 m pc ls (.int y :: .int x :: rest))
def xB0 (cc : ByteArray) (own : String) (pc nx tgt k : Nat) : Prop := ∀ (p : Program) (l : Launch) (e : Env) (R : Room) (s : State) (m : MethodId) (args : Array Value) (below : List Frame) (meth : Method) (c : Code) (H : Heap) (locs : List Loc) (cells slots : Nat) (Q : State → Prop) (ls : Array Slot) (rest : List Value), xCx p s m args c cc own → ∀ x : Int32, (xcp k x (nI 0) → W p l e R s m args below meth c H locs cells slots Q (F0 m tgt ls rest)) → (¬ xcp k x (nI 0) → W p l e R s m args below meth c H locs cells slots Q (F0 m nx ls rest)) → W p l e R s m args below meth c H locs cells slots Q (F0 m pc ls (.int x :: rest))
def xLd (cc : ByteArray) (own : String) (pc nx k i : Nat) : Prop := ∀ (p : Program) (l : Launch) (e : Env) (R : Room) (s : State) (m : MethodId) (args : Array Value) (below : List Frame) (meth : Method) (c : Code) (H : Heap) (locs : List Loc) (cells slots : Nat) (Q : State → Prop) (ls : Array Slot) (rest : List Value), xCx p s m args c cc own → ∀ v : Value, xkd k v → ls[i]? = some (.val v) → W p l e R s m args below meth c H locs cells slots Q (F0 m nx ls (v :: rest)) → W p l e R s m args below meth c H locs cells slots Q (F0 m pc ls rest)
def xfl (k i : Nat) (q : Nat × Value) : Bool := match k with
  | 2 => !(q.1 == i) && (!(q.1 == i + 1) && !(q.1 + 1 == i && q.2.category == 2))
  | _ => !(q.1 == i) && !(q.1 + 1 == i && q.2.category == 2)
def xwd (k : Nat) : Nat := match k with
  | 2 => 1
  | _ => 0
def xSt (cc : ByteArray) (own : String) (pc nx k i : Nat) : Prop := ∀ (p : Program) (l : Launch) (e : Env) (R : Room) (s : State) (m : MethodId) (args : Array Value) (below : List Frame) (meth : Method) (c : Code) (H : Heap) (locs : List Loc) (cells slots : Nat) (Q : State → Prop) (ls : Array Slot) (rest : List Value), xCx p s m args c cc own → ∀ (nL : Nat) (lv : List (Nat × Value)) (v : Value), xkd k v → lv_has ls nL lv → i + xwd k < nL → (∀ ls' : Array Slot, lv_has ls' nL ((i, v) :: lv.filter (xfl k i)) → W p l e R s m args below meth c H locs cells slots Q (F0 m nx ls' rest)) → W p l e R s m args below meth c H locs cells slots Q (F0 m pc ls (v :: rest))
def xIn (cc : ByteArray) (own : String) (pc nx i n : Nat) : Prop := ∀ (p : Program) (l : Launch) (e : Env) (R : Room) (s : State) (m : MethodId) (args : Array Value) (below : List Frame) (meth : Method) (c : Code) (H : Heap) (locs : List Loc) (cells slots : Nat) (Q : State → Prop) (ls : Array Slot) (rest : List Value), xCx p s m args c cc own → ∀ (nL k : Nat) (lv : List (Nat × Value)) (x : Int32), lv_has ls nL lv → lv[k]? = some (i, .int x) → i < nL → (∀ ls' : Array Slot, lv_has ls' nL ((i, .int (x + nI n)) :: lv.filter (xfl 0 i)) → W p l e R s m args below meth c H locs cells slots Q (F0 m nx ls' rest)) → W p l e R s m args below meth c H locs cells slots Q (F0 m pc ls rest)
def xSw (cc : ByteArray) (own : String) (pc dflt : Nat) (cs : List (Nat × Nat)) : Prop := ∀ (p : Program) (l : Launch) (e : Env) (R : Room) (s : State) (m : MethodId) (args : Array Value) (below : List Frame) (meth : Method) (c : Code) (H : Heap) (locs : List Loc) (cells slots : Nat) (Q : State → Prop) (ls : Array Slot) (rest : List Value), xCx p s m args c cc own → ∀ x : Int32, ((∃ q ∈ cs, x = nI q.1 ∧ W p l e R s m args below meth c H locs cells slots Q (F0 m q.2 ls rest)) ∨ ((∀ q ∈ cs, ¬ x = nI q.1) ∧ W p l e R s m args below meth c H locs cells slots Q (F0 m dflt ls rest))) → W p l e R s m args below meth c H locs cells slots Q (F0 m pc ls (.int x :: rest))
def xGf (cc : ByteArray) (own : String) (pc nx ci k : Nat) : Prop := ∀ (p : Program) (l : Launch) (e : Env) (R : Room) (s : State) (m : MethodId) (args : Array Value) (below : List Frame) (meth : Method) (c : Code) (H : Heap) (locs : List Loc) (cells slots : Nat) (Q : State → Prop) (ls : Array Slot) (rest : List Value), xCx p s m args c cc own → ∀ (D : va_G) (tys : List (ClassId × FieldType)) (ws : va_W) (q0 a : Nat) (fs : List Value) (v : Value), va_K D vwCl tys s → va_P D vwCl ws H → ws[q0]? = some (a, .inr (ci, fs)) → fs[k]? = some v → W p l e R s m args below meth c H locs cells slots Q (F0 m nx ls (v :: rest)) → W p l e R s m args below meth c H locs cells slots Q (F0 m pc ls (.ref a :: rest))
def xPf (cc : ByteArray) (own : String) (pc nx ci k : Nat) (ty : FieldType) (fin : Bool) : Prop := ∀ (p : Program) (l : Launch) (e : Env) (R : Room) (s : State) (m : MethodId) (args : Array Value) (below : List Frame) (meth : Method) (c : Code) (H : Heap) (locs : List Loc) (cells slots : Nat) (Q : State → Prop) (ls : Array Slot) (rest : List Value), xCx p s m args c cc own → ∀ (D : va_G) (tys : List (ClassId × FieldType)) (ws : va_W) (q0 a : Nat) (A : Nat → Prop) (H0 : Heap) (fs : List Value) (v : Value), va_K D vwCl tys s → va_P D vwCl ws H → va_D A ws → va_S A H0 H locs → ws[q0]? = some (a, .inr (ci, fs)) → (fin = true → meth.name = "<init>") → narrow ty v = v → fits ty v = true → k < fs.length → (∀ (H1 : Heap) (locs1 : List Loc), va_P D vwCl (ws.set q0 (a, .inr (ci, fs.set k v))) H1 → va_D A (ws.set q0 (a, .inr (ci, fs.set k v))) → va_S A H0 H1 locs1 → H1.size = H.size → W p l e R s m args below meth c H1 locs1 cells slots Q (F0 m nx ls rest)) → W p l e R s m args below meth c H locs cells slots Q (F0 m pc ls (v :: .ref a :: rest))
def xAl (cc : ByteArray) (own : String) (pc nx : Nat) : Prop := ∀ (p : Program) (l : Launch) (e : Env) (R : Room) (s : State) (m : MethodId) (args : Array Value) (below : List Frame) (meth : Method) (c : Code) (H : Heap) (locs : List Loc) (cells slots : Nat) (Q : State → Prop) (ls : Array Slot) (rest : List Value), xCx p s m args c cc own → ∀ (D : va_G) (tys : List (ClassId × FieldType)) (ws : va_W) (q0 a : Nat) (t0 : Nat) (cA : ClassId) (x : vp_A) (ty : FieldType), va_K D vwCl tys s → va_P D vwCl ws H → ws[q0]? = some (a, .inl (cA, x)) → tys[t0]? = some (cA, ty) → W p l e R s m args below meth c H locs cells slots Q (F0 m nx ls (.int (nI x.1) :: rest)) → W p l e R s m args below meth c H locs cells slots Q (F0 m pc ls (.ref a :: rest))
def xRd (cc : ByteArray) (own : String) (pc nx : Nat) (ty : FieldType) : Prop := ∀ (p : Program) (l : Launch) (e : Env) (R : Room) (s : State) (m : MethodId) (args : Array Value) (below : List Frame) (meth : Method) (c : Code) (H : Heap) (locs : List Loc) (cells slots : Nat) (Q : State → Prop) (ls : Array Slot) (rest : List Value), xCx p s m args c cc own → ∀ (D : va_G) (tys : List (ClassId × FieldType)) (ws : va_W) (q0 a : Nat) (t0 : Nat) (cA : ClassId) (n : Nat) (f : Nat → Int32) (i : Int32), va_K D vwCl tys s → va_P D vwCl ws H → ws[q0]? = some (a, .inl (cA, n, .inl f)) → tys[t0]? = some (cA, ty) → vp_in i n → W p l e R s m args below meth c H locs cells slots Q (F0 m nx ls (.int (f i.toNatClampNeg) :: rest)) → W p l e R s m args below meth c H locs cells slots Q (F0 m pc ls (.int i :: .ref a :: rest))
def xRr (cc : ByteArray) (own : String) (pc nx : Nat) : Prop := ∀ (p : Program) (l : Launch) (e : Env) (R : Room) (s : State) (m : MethodId) (args : Array Value) (below : List Frame) (meth : Method) (c : Code) (H : Heap) (locs : List Loc) (cells slots : Nat) (Q : State → Prop) (ls : Array Slot) (rest : List Value), xCx p s m args c cc own → ∀ (D : va_G) (tys : List (ClassId × FieldType)) (ws : va_W) (q0 a : Nat) (t0 : Nat) (cA : ClassId) (n : Nat) (f : Nat → Option Nat) (i : Int32), va_K D vwCl tys s → va_P D vwCl ws H → ws[q0]? = some (a, .inl (cA, n, .inr (.inr (.inr (.inr f))))) → tys[t0]? = some (cA, .array .int) → vp_in i n → W p l e R s m args below meth c H locs cells slots Q (F0 m nx ls (va_rf (f i.toNatClampNeg) :: rest)) → W p l e R s m args below meth c H locs cells slots Q (F0 m pc ls (.int i :: .ref a :: rest))
def xWr (cc : ByteArray) (own : String) (pc nx : Nat) (ty : FieldType) : Prop := ∀ (p : Program) (l : Launch) (e : Env) (R : Room) (s : State) (m : MethodId) (args : Array Value) (below : List Frame) (meth : Method) (c : Code) (H : Heap) (locs : List Loc) (cells slots : Nat) (Q : State → Prop) (ls : Array Slot) (rest : List Value), xCx p s m args c cc own → ∀ (D : va_G) (tys : List (ClassId × FieldType)) (ws : va_W) (q0 a : Nat) (A : Nat → Prop) (H0 : Heap) (t0 : Nat) (cA : ClassId) (n : Nat) (f : Nat → Int32) (i x : Int32), va_K D vwCl tys s → va_P D vwCl ws H → va_D A ws → va_S A H0 H locs → ws[q0]? = some (a, .inl (cA, n, .inl f)) → tys[t0]? = some (cA, ty) → vp_in i n → (∀ (H1 : Heap) (locs1 : List Loc), va_P D vwCl (ws.set q0 (a, .inl (cA, n, .inl (upd f i.toNatClampNeg (vp_nar ty x))))) H1 → va_D A (ws.set q0 (a, .inl (cA, n, .inl (upd f i.toNatClampNeg (vp_nar ty x))))) → va_S A H0 H1 locs1 → H1.size = H.size → W p l e R s m args below meth c H1 locs1 cells slots Q (F0 m nx ls rest)) → W p l e R s m args below meth c H locs cells slots Q (F0 m pc ls (.int x :: .int i :: .ref a :: rest))
theorem xouter (c : ClassId) (N h0 : Nat) : ∀ i : Nat, Jvm.Free.Multi.outerC c N h0 i = arrV c N (fun j => va_rf (if j < i then some (h0 + 1 + j) else none))
  | 0 => by
    show ({ cls := c, slots := Array.replicate N .null, vm := .none } : Cell) = _
    rw [arrV_new]
    refine congrArg (arrV c N) (funext fun j => ?_)
    simp [va_rf]
  | i + 1 => by
    show (Jvm.Free.Multi.outerC c N h0 i).setSlot i (.ref (h0 + 1 + i)) = _
    rw [xouter c N h0 i, arrV_store]
    refine congrArg (arrV c N) (funext fun j => ?_)
    by_cases e : j = i
    · rw [e]
      simp [updV, va_rf]
    · by_cases h : j < i
      · simp [updV, e, h, Nat.lt_succ_of_lt h]
      · simp [updV, e, h, show ¬ j < i + 1 by omega]
def xXd (cc : ByteArray) (own : String) (pc nx : Nat) : Prop := ∀ (p : Program) (l : Launch) (e : Env) (R : Room) (s : State) (m : MethodId) (args : Array Value) (below : List Frame) (meth : Method) (c : Code) (H : Heap) (locs : List Loc) (cells slots : Nat) (Q : State → Prop) (ls : Array Slot) (rest : List Value), xCx p s m args c cc own → ∀ (q L : Nat) (xs : Nat → Int32) (A : Nat → Prop), va_X q L xs s s.heap → q < s.heap.size → ¬ A q → va_S A s.heap H locs → ∀ n, n < L → n < 2147483648 → L < 2147483648 → W p l e R s m args below meth c H locs cells slots Q (F0 m nx ls (.int (xs n) :: rest)) → W p l e R s m args below meth c H locs cells slots Q (F0 m pc ls (.int (nI n) :: .ref q :: rest))
def xXl (cc : ByteArray) (own : String) (pc nx : Nat) : Prop := ∀ (p : Program) (l : Launch) (e : Env) (R : Room) (s : State) (m : MethodId) (args : Array Value) (below : List Frame) (meth : Method) (c : Code) (H : Heap) (locs : List Loc) (cells slots : Nat) (Q : State → Prop) (ls : Array Slot) (rest : List Value), xCx p s m args c cc own → ∀ (q L : Nat) (xs : Nat → Int32) (A : Nat → Prop), va_X q L xs s s.heap → q < s.heap.size → ¬ A q → va_S A s.heap H locs → W p l e R s m args below meth c H locs cells slots Q (F0 m nx ls (.int (nI L) :: rest)) → W p l e R s m args below meth c H locs cells slots Q (F0 m pc ls (.ref q :: rest))
def xMa (cc : ByteArray) (own : String) (pc nx : Nat) : Prop := ∀ (p : Program) (l : Launch) (e : Env) (R : Room) (s : State) (m : MethodId) (args : Array Value) (below : List Frame) (meth : Method) (c : Code) (H : Heap) (locs : List Loc) (cells slots : Nat) (Q : State → Prop) (ls : Array Slot) (rest : List Value), xCx p s m args c cc own → ∀ (b : Nat) (sa : Nat → Nat) (D : va_G) (tys : List (ClassId × FieldType)) (ws : va_W) (A : Nat → Prop) (H0 : Heap) (n k : Int32) (N' K' : Nat) (cA cI : ClassId), xFx b sa s → va_P D vwCl ws H → va_S A H0 H locs → s.vm.findClass ("[" ++ (FieldType.array .int).toString) = some cA → s.vm.findClass (FieldType.array .int).toString = some cI → ¬ n < 0 → ¬ k < 0 → n.toNatClampNeg = N' → k.toNatClampNeg = K' → N' ≤ 1000 → K' ≤ 1000 → cells + (1 + N') ≤ R.cells → slots + (N' + N' * K') ≤ R.slots → (∀ H1 : Heap, va_P D vwCl (ws ++ (H.size, .inl (cA, N', .inr (.inr (.inr (.inr (fun i => if i < N' then some (H.size + 1 + i) else none)))))) :: (List.range N').map (fun i => (H.size + 1 + i, .inl (cI, K', .inl (fun _ => 0))))) H1 → va_S A H0 H1 locs → H1.size = H.size + 1 + N' → W p l e R s m args below meth c H1 locs (cells + 1 + N') (slots + N' + N' * K') Q (F0 m nx ls (.ref H.size :: rest))) → W p l e R s m args below meth c H locs cells slots Q (F0 m pc ls (.int k :: .int n :: rest))
def xMi (cc : ByteArray) (own : String) (pc nx : Nat) : Prop := ∀ (p : Program) (l : Launch) (e : Env) (R : Room) (s : State) (m : MethodId) (args : Array Value) (below : List Frame) (meth : Method) (c : Code) (H : Heap) (locs : List Loc) (cells slots : Nat) (Q : State → Prop) (ls : Array Slot) (rest : List Value), xCx p s m args c cc own → ∀ x y : Int32, c.maxLocals = ls.size → 1 ≤ R.frames → (rest.map fun v => v.category).sum + 13 ≤ R.locals → cells ≤ R.cells → slots ≤ R.slots → W p l e R s m args below meth c H locs cells slots Q (F0 m nx ls (.int (if y < x then y else x) :: rest)) → W p l e R s m args below meth c H locs cells slots Q (F0 m pc ls (.int y :: .int x :: rest))
def xSb (cc : ByteArray) (own : String) (pc nx : Nat) : Prop := ∀ (p : Program) (l : Launch) (e : Env) (R : Room) (s : State) (m : MethodId) (args : Array Value) (below : List Frame) (meth : Method) (c : Code) (H : Heap) (locs : List Loc) (cells slots : Nat) (Q : State → Prop) (ls : Array Slot) (rest : List Value), xCx p s m args c cc own → ∀ (b : Nat) (sa : Nat → Nat) (A : Nat → Prop), xFx b sa s → va_S A s.heap H locs → (∀ q, A q → b ≤ q) → ∀ k j, k < 2 → j < xlen.getD k 0 → j < 2147483648 → W p l e R s m args below meth c H locs cells slots Q (F0 m nx ls (.int (nI ((xbyt.getD k []).getD j 0)) :: rest)) → W p l e R s m args below meth c H locs cells slots Q (F0 m pc ls (.int (nI j) :: .ref (sa (k + 1000)) :: rest))
def xSl (cc : ByteArray) (own : String) (pc nx : Nat) : Prop := ∀ (p : Program) (l : Launch) (e : Env) (R : Room) (s : State) (m : MethodId) (args : Array Value) (below : List Frame) (meth : Method) (c : Code) (H : Heap) (locs : List Loc) (cells slots : Nat) (Q : State → Prop) (ls : Array Slot) (rest : List Value), xCx p s m args c cc own → ∀ (b : Nat) (sa : Nat → Nat) (A : Nat → Prop), xFx b sa s → va_S A s.heap H locs → (∀ q, A q → b ≤ q) → ∀ k, k < 2 → W p l e R s m args below meth c H locs cells slots Q (F0 m nx ls (.int (nI (xlen.getD k 0)) :: rest)) → W p l e R s m args below meth c H locs cells slots Q (F0 m pc ls (.ref (sa (k + 1000)) :: rest))
def xSf (cc : ByteArray) (own : String) (pc nx : Nat) (g : (Nat → Nat) → Nat → Value) : Prop := ∀ (p : Program) (l : Launch) (e : Env) (R : Room) (s : State) (m : MethodId) (args : Array Value) (below : List Frame) (meth : Method) (c : Code) (H : Heap) (locs : List Loc) (cells slots : Nat) (Q : State → Prop) (ls : Array Slot) (rest : List Value), xCx p s m args c cc own → ∀ (b : Nat) (sa : Nat → Nat) (A : Nat → Prop), xFx b sa s → va_S A s.heap H locs → (∀ q, A q → b ≤ q) → ∀ k, k < 2 → W p l e R s m args below meth c H locs cells slots Q (F0 m nx ls (g sa k :: rest)) → W p l e R s m args below meth c H locs cells slots Q (F0 m pc ls (.ref (sa k) :: rest))
def xGs (cc : ByteArray) (own : String) (pc nx : Nat) (g : (Nat → Nat) → Value) : Prop := ∀ (p : Program) (l : Launch) (e : Env) (R : Room) (s : State) (m : MethodId) (args : Array Value) (below : List Frame) (meth : Method) (c : Code) (H : Heap) (locs : List Loc) (cells slots : Nat) (Q : State → Prop) (ls : Array Slot) (rest : List Value), xCx p s m args c cc own → ∀ (b : Nat) (sa : Nat → Nat) (A : Nat → Prop), xFx b sa s → va_S A s.heap H locs → (∀ q, A q → b ≤ q) → W p l e R s m args below meth c H locs cells slots Q (F0 m nx ls (g sa :: rest)) → W p l e R s m args below meth c H locs cells slots Q (F0 m pc ls rest)
def xLs (cc : ByteArray) (own : String) (pc nx k : Nat) : Prop := ∀ (p : Program) (l : Launch) (e : Env) (R : Room) (s : State) (m : MethodId) (args : Array Value) (below : List Frame) (meth : Method) (c : Code) (H : Heap) (locs : List Loc) (cells slots : Nat) (Q : State → Prop) (ls : Array Slot) (rest : List Value), xCx p s m args c cc own → ∀ (b : Nat) (sa : Nat → Nat), xFx b sa s → W p l e R s m args below meth c H locs cells slots Q (F0 m nx ls (.ref (sa k) :: rest)) → W p l e R s m args below meth c H locs cells slots Q (F0 m pc ls rest)
def xCp (cc : ByteArray) (own : String) (pc nx : Nat) : Prop := ∀ (p : Program) (l : Launch) (e : Env) (R : Room) (s : State) (m : MethodId) (args : Array Value) (below : List Frame) (meth : Method) (c : Code) (H : Heap) (locs : List Loc) (cells slots : Nat) (Q : State → Prop) (ls : Array Slot) (rest : List Value), xCx p s m args c cc own → ∀ (D : va_G) (tys : List (ClassId × FieldType)) (ws : va_W) (A : Nat → Prop) (H0 : Heap) (q0 q1 a0 a t0 : Nat) (cA : ClassId) (n0 n1 : Nat) (f g : Nat → Int32) (sp dp n : Int32), c.maxLocals = ls.size → va_K D vwCl tys s → va_P D vwCl ws H → va_D A ws → va_S A H0 H locs → ws[q0]? = some (a0, .inl (cA, n0, .inl f)) → ws[q1]? = some (a, .inl (cA, n1, .inl g)) → tys[t0]? = some (cA, .int) → ¬ sp < 0 → ¬ dp < 0 → ¬ n < 0 → sp.toNatClampNeg + n.toNatClampNeg ≤ n0 → dp.toNatClampNeg + n.toNatClampNeg ≤ n1 → 1 ≤ R.frames → (rest.map fun v => v.category).sum + (nativeFrameWords "java/lang/System" "arraycopy" 5 + 11) ≤ R.locals → (∀ (H1 : Heap) (locs1 : List Loc), va_P D vwCl (ws.set q1 (a, .inl (cA, n1, .inl (va_cpy f g sp.toNatClampNeg dp.toNatClampNeg n.toNatClampNeg)))) H1 → va_S A H0 H1 locs1 → H1.size = H.size → W p l e R s m args below meth c H1 locs1 cells slots Q (F0 m nx ls rest)) → W p l e R s m args below meth c H locs cells slots Q (F0 m pc ls (.int n :: .int dp :: .ref a :: .int sp :: .ref a0 :: rest))
def xOi (cc : ByteArray) (own : String) (pc nx : Nat) : Prop := ∀ (p : Program) (l : Launch) (e : Env) (R : Room) (s : State) (m : MethodId) (args : Array Value) (below : List Frame) (meth : Method) (c : Code) (H : Heap) (locs : List Loc) (cells slots : Nat) (Q : State → Prop) (ls : Array Slot) (rest : List Value), xCx p s m args c cc own → ∀ a : Nat, c.maxLocals = ls.size → 1 ≤ R.frames → (rest.map fun v => v.category).sum + 12 ≤ R.locals → W p l e R s m args below meth c H locs cells slots Q (F0 m nx ls rest) → W p l e R s m args below meth c H locs cells slots Q (F0 m pc ls (.ref a :: rest))
def xNa (cc : ByteArray) (own : String) (pc nx : Nat) (ty : FieldType) : Prop := ∀ (p : Program) (l : Launch) (e : Env) (R : Room) (s : State) (m : MethodId) (args : Array Value) (below : List Frame) (meth : Method) (c : Code) (H : Heap) (locs : List Loc) (cells slots : Nat) (Q : State → Prop) (ls : Array Slot) (rest : List Value), xCx p s m args c cc own → ∀ (D : va_G) (tys : List (ClassId × FieldType)) (ws : va_W) (A : Nat → Prop) (H0 : Heap) (n : Int32) (N' : Nat) (a0 : vp_A) (cA : ClassId), va_K D vwCl tys s → va_P D vwCl ws H → va_S A H0 H locs → s.vm.findClass ("[" ++ ty.toString) = some cA → vp_cell cA a0 = arrV cA N' (fun _ => defaultValue ty) → ¬ n < 0 → n.toNatClampNeg = N' → N' * componentBytes ty ≤ 536870912 → cells + 1 ≤ R.cells → slots + N' ≤ R.slots → (∀ H1 : Heap, va_P D vwCl (ws ++ [(H.size, .inl (cA, a0))]) H1 → va_S A H0 H1 locs → H1.size = H.size + 1 → W p l e R s m args below meth c H1 locs (cells + 1) (slots + N') Q (F0 m nx ls (.ref H.size :: rest))) → W p l e R s m args below meth c H locs cells slots Q (F0 m pc ls (.int n :: rest))
def xNw (cc : ByteArray) (own : String) (pc nx ci N : Nat) (fs : List Value) : Prop := ∀ (p : Program) (l : Launch) (e : Env) (R : Room) (s : State) (m : MethodId) (args : Array Value) (below : List Frame) (meth : Method) (c : Code) (H : Heap) (locs : List Loc) (cells slots : Nat) (Q : State → Prop) (ls : Array Slot) (rest : List Value), xCx p s m args c cc own → ∀ (D : va_G) (tys : List (ClassId × FieldType)) (ws : va_W) (A : Nat → Prop) (H0 : Heap), va_K D vwCl tys s → va_P D vwCl ws H → va_S A H0 H locs → cells + 1 ≤ R.cells → slots + N ≤ R.slots → (∀ H1 : Heap, va_P D vwCl (ws ++ [(H.size, .inr (ci, fs))]) H1 → va_S A H0 H1 locs → H1.size = H.size + 1 → W p l e R s m args below meth c H1 locs (cells + 1) (slots + N) Q (F0 m nx ls (.ref H.size :: rest))) → W p l e R s m args below meth c H locs cells slots Q (F0 m pc ls rest)
section XR
variable {cc : ByteArray} {own : String} {pc : Nat}
theorem xr_iconst {n : Int} {a : Nat} (d : decode cc pc = .ok (.iconst n, 1)) (h : Int32.ofInt n = nI a) : xT cc own pc (pc + 1) [] [.int (nI a)] := fun p l e R s m args below meth c H locs cells slots Q ls rest C k => lv_iconst C.1 C.2.1 d h k
theorem xr_bipush {n : Int} {a : Nat} (d : decode cc pc = .ok (.bipush n, 2)) (h : (Int8.ofInt n).toInt32 = nI a) : xT cc own pc (pc + 2) [] [.int (nI a)] := fun p l e R s m args below meth c H locs cells slots Q ls rest C k => lv_bipush C.1 C.2.1 d h k
theorem xr_sipush {n : Int} {a : Nat} (d : decode cc pc = .ok (.sipush n, 3)) (h : (Int16.ofInt n).toInt32 = nI a) : xT cc own pc (pc + 3) [] [.int (nI a)] := fun p l e R s m args below meth c H locs cells slots Q ls rest C k => lv_sipush C.1 C.2.1 d h k
theorem xr_lconst {n : Fin 2} {a : Nat} (d : decode cc pc = .ok (.lconst n, 1)) (h : Int64.ofNat (n : Nat) = lN a) : xT cc own pc (pc + 1) [] [.long (lN a)] := fun p l e R s m args below meth c H locs cells slots Q ls rest C k => lv_lconst C.1 C.2.1 d h k
theorem xr_ldc {ix a : Nat} (d : decode cc pc = .ok (.ldc ix, 2)) (h : Cond.constant own ix (nI a) ∈ xgt) : xT cc own pc (pc + 2) [] [.int (nI a)] := fun p l e R s m args below meth c H locs cells slots Q ls rest C k => lv_ldc C.1 C.2.1 C.2.2.1 (C.2.2.2 _ h) d k
theorem xr_ldcw {ix a : Nat} (d : decode cc pc = .ok (.ldc_w ix, 3)) (h : Cond.constant own ix (nI a) ∈ xgt) : xT cc own pc (pc + 3) [] [.int (nI a)] := fun p l e R s m args below meth c H locs cells slots Q ls rest C k => lv_ldcw C.1 C.2.1 C.2.2.1 (C.2.2.2 _ h) d k
theorem xr_ldc2 {ix a : Nat} (d : decode cc pc = .ok (.ldc2_w ix, 3)) (h : Cond.constantLong own ix (lN a) ∈ xgt) : xT cc own pc (pc + 3) [] [.long (lN a)] := fun p l e R s m args below meth c H locs cells slots Q ls rest C k => lv_ldc2 C.1 C.2.1 C.2.2.1 (C.2.2.2 _ h) d k
theorem xr_iadd  (d : decode cc pc = .ok (.iadd, 1)) (x y : Int32) : xT cc own pc (pc + 1) [.int y, .int x] [.int (fbin 0 x y)] := fun p l e R s m args below meth c H locs cells slots Q ls rest C k => lv_iadd C.1 C.2.1 d k
theorem xr_isub  (d : decode cc pc = .ok (.isub, 1)) (x y : Int32) : xT cc own pc (pc + 1) [.int y, .int x] [.int (fbin 1 x y)] := fun p l e R s m args below meth c H locs cells slots Q ls rest C k => lv_isub C.1 C.2.1 d k
theorem xr_imul  (d : decode cc pc = .ok (.imul, 1)) (x y : Int32) : xT cc own pc (pc + 1) [.int y, .int x] [.int (fbin 2 x y)] := fun p l e R s m args below meth c H locs cells slots Q ls rest C k => lv_imul C.1 C.2.1 d k
theorem xr_iand  (d : decode cc pc = .ok (.iand, 1)) (x y : Int32) : xT cc own pc (pc + 1) [.int y, .int x] [.int (fbin 3 x y)] := fun p l e R s m args below meth c H locs cells slots Q ls rest C k => lv_iand C.1 C.2.1 d k
theorem xr_ior  (d : decode cc pc = .ok (.ior, 1)) (x y : Int32) : xT cc own pc (pc + 1) [.int y, .int x] [.int (fbin 4 x y)] := fun p l e R s m args below meth c H locs cells slots Q ls rest C k => lv_ior C.1 C.2.1 d k
theorem xr_ixor  (d : decode cc pc = .ok (.ixor, 1)) (x y : Int32) : xT cc own pc (pc + 1) [.int y, .int x] [.int (fbin 5 x y)] := fun p l e R s m args below meth c H locs cells slots Q ls rest C k => lv_ixor C.1 C.2.1 d k
theorem xr_ishl  (d : decode cc pc = .ok (.ishl, 1)) (x y : Int32) : xT cc own pc (pc + 1) [.int y, .int x] [.int (fbin 6 x y)] := fun p l e R s m args below meth c H locs cells slots Q ls rest C k => lv_ishl C.1 C.2.1 d k
theorem xr_ishr  (d : decode cc pc = .ok (.ishr, 1)) (x y : Int32) : xT cc own pc (pc + 1) [.int y, .int x] [.int (fbin 7 x y)] := fun p l e R s m args below meth c H locs cells slots Q ls rest C k => lv_ishr C.1 C.2.1 d k
theorem xr_iushr  (d : decode cc pc = .ok (.iushr, 1)) (x y : Int32) : xT cc own pc (pc + 1) [.int y, .int x] [.int (fbin 8 x y)] := fun p l e R s m args below meth c H locs cells slots Q ls rest C k => lv_iushr C.1 C.2.1 d rfl k
theorem xr_idiv  (d : decode cc pc = .ok (.idiv, 1)) (x y : Int32) (h : ¬ y = 0) : xT cc own pc (pc + 1) [.int y, .int x] [.int (fbin 9 x y)] := fun p l e R s m args below meth c H locs cells slots Q ls rest C k => lv_idiv C.1 C.2.1 d h k
theorem xr_irem  (d : decode cc pc = .ok (.irem, 1)) (x y : Int32) (h : ¬ y = 0) : xT cc own pc (pc + 1) [.int y, .int x] [.int (fbin 10 x y)] := fun p l e R s m args below meth c H locs cells slots Q ls rest C k => lv_irem C.1 C.2.1 d h k
theorem xr_i2b  (d : decode cc pc = .ok (.i2b, 1)) (x : Int32) : xT cc own pc (pc + 1) [.int x] [.int x.toInt8.toInt32] := fun p l e R s m args below meth c H locs cells slots Q ls rest C k => lv_i2b C.1 C.2.1 d rfl k
theorem xr_land  (d : decode cc pc = .ok (.land, 1)) (x y : Int64) : xT cc own pc (pc + 1) [.long y, .long x] [.long (x &&& y)] := fun p l e R s m args below meth c H locs cells slots Q ls rest C k => lv_land C.1 C.2.1 d k
theorem xr_lxor  (d : decode cc pc = .ok (.lxor, 1)) (x y : Int64) : xT cc own pc (pc + 1) [.long y, .long x] [.long (x ^^^ y)] := fun p l e R s m args below meth c H locs cells slots Q ls rest C k => lv_lxor C.1 C.2.1 d k
theorem xr_lcmp  (d : decode cc pc = .ok (.lcmp, 1)) (x y : Int64) : xT cc own pc (pc + 1) [.long y, .long x] [.int (lg_cmp x y)] := fun p l e R s m args below meth c H locs cells slots Q ls rest C k => W.lcmp C.1 C.2.1 d k
theorem xr_dup  (d : decode cc pc = .ok (.dup, 1)) (v : Value) (h : v.category = 1) : xT cc own pc (pc + 1) [v] [v, v] := fun p l e R s m args below meth c H locs cells slots Q ls rest C k => lv_dup C.1 C.2.1 d h k
theorem xr_pop  (d : decode cc pc = .ok (.pop, 1)) (v : Value) (h : v.category = 1) : xT cc own pc (pc + 1) [v] [] := fun p l e R s m args below meth c H locs cells slots Q ls rest C k => lv_pop C.1 C.2.1 d h k
theorem xr_dup2  (d : decode cc pc = .ok (.dup2, 1)) (v w : Value) (h : v.category = 1) (h2 : w.category = 1) : xT cc own pc (pc + 1) [v, w] [v, w, v, w] := fun p l e R s m args below meth c H locs cells slots Q ls rest C k => lv_dup2_11 C.1 C.2.1 d h h2 k
theorem xr_goto {off : Int} {tgt : Nat} (d : decode cc pc = .ok (.goto off, 3)) (h : (pc : Int) + off = (tgt : Int)) : xT cc own pc tgt [] [] := fun p l e R s m args below meth c H locs cells slots Q ls rest C k => lv_goto C.1 C.2.1 d h k
theorem xr_icmpeq {off : Int} {tgt : Nat} (d : decode cc pc = .ok (.if_icmp .eq off, 3)) (h : (pc : Int) + off = (tgt : Int)) : xB cc own pc (pc + 3) tgt 0 := fun p l e R s m args below meth c H locs cells slots Q ls rest C x y kt kf => lv_icmp_eq C.1 C.2.1 d h kt kf
theorem xr_ifeq {off : Int} {tgt : Nat} (d : decode cc pc = .ok (.ifCond .eq off, 3)) (h : (pc : Int) + off = (tgt : Int)) : xB0 cc own pc (pc + 3) tgt 0 := fun p l e R s m args below meth c H locs cells slots Q ls rest C x kt kf => lv_if_eq C.1 C.2.1 d h kt kf
theorem xr_icmpne {off : Int} {tgt : Nat} (d : decode cc pc = .ok (.if_icmp .ne off, 3)) (h : (pc : Int) + off = (tgt : Int)) : xB cc own pc (pc + 3) tgt 1 := fun p l e R s m args below meth c H locs cells slots Q ls rest C x y kt kf => lv_icmp_ne C.1 C.2.1 d h kt (fun z => kf (fun w => w z))
theorem xr_ifne {off : Int} {tgt : Nat} (d : decode cc pc = .ok (.ifCond .ne off, 3)) (h : (pc : Int) + off = (tgt : Int)) : xB0 cc own pc (pc + 3) tgt 1 := fun p l e R s m args below meth c H locs cells slots Q ls rest C x kt kf => lv_if_ne C.1 C.2.1 d h kt (fun z => kf (fun w => w z))
theorem xr_icmplt {off : Int} {tgt : Nat} (d : decode cc pc = .ok (.if_icmp .lt off, 3)) (h : (pc : Int) + off = (tgt : Int)) : xB cc own pc (pc + 3) tgt 2 := fun p l e R s m args below meth c H locs cells slots Q ls rest C x y kt kf => lv_icmp_lt C.1 C.2.1 d h kt kf
theorem xr_iflt {off : Int} {tgt : Nat} (d : decode cc pc = .ok (.ifCond .lt off, 3)) (h : (pc : Int) + off = (tgt : Int)) : xB0 cc own pc (pc + 3) tgt 2 := fun p l e R s m args below meth c H locs cells slots Q ls rest C x kt kf => lv_if_lt C.1 C.2.1 d h kt kf
theorem xr_icmpge {off : Int} {tgt : Nat} (d : decode cc pc = .ok (.if_icmp .ge off, 3)) (h : (pc : Int) + off = (tgt : Int)) : xB cc own pc (pc + 3) tgt 3 := fun p l e R s m args below meth c H locs cells slots Q ls rest C x y kt kf => lv_icmp_ge C.1 C.2.1 d h kt kf
theorem xr_ifge {off : Int} {tgt : Nat} (d : decode cc pc = .ok (.ifCond .ge off, 3)) (h : (pc : Int) + off = (tgt : Int)) : xB0 cc own pc (pc + 3) tgt 3 := fun p l e R s m args below meth c H locs cells slots Q ls rest C x kt kf => lv_if_ge C.1 C.2.1 d h kt kf
theorem xr_icmpgt {off : Int} {tgt : Nat} (d : decode cc pc = .ok (.if_icmp .gt off, 3)) (h : (pc : Int) + off = (tgt : Int)) : xB cc own pc (pc + 3) tgt 4 := fun p l e R s m args below meth c H locs cells slots Q ls rest C x y kt kf => lv_icmp_gt C.1 C.2.1 d h kt kf
theorem xr_ifgt {off : Int} {tgt : Nat} (d : decode cc pc = .ok (.ifCond .gt off, 3)) (h : (pc : Int) + off = (tgt : Int)) : xB0 cc own pc (pc + 3) tgt 4 := fun p l e R s m args below meth c H locs cells slots Q ls rest C x kt kf => lv_if_gt C.1 C.2.1 d h kt kf
theorem xr_icmple {off : Int} {tgt : Nat} (d : decode cc pc = .ok (.if_icmp .le off, 3)) (h : (pc : Int) + off = (tgt : Int)) : xB cc own pc (pc + 3) tgt 5 := fun p l e R s m args below meth c H locs cells slots Q ls rest C x y kt kf => lv_icmp_le C.1 C.2.1 d h kt kf
theorem xr_ifle {off : Int} {tgt : Nat} (d : decode cc pc = .ok (.ifCond .le off, 3)) (h : (pc : Int) + off = (tgt : Int)) : xB0 cc own pc (pc + 3) tgt 5 := fun p l e R s m args below meth c H locs cells slots Q ls rest C x kt kf => lv_if_le C.1 C.2.1 d h kt kf
theorem xr_iloadn {i : Nat} {j : Fin 4} (d : decode cc pc = .ok (.iload_n j, 1)) (h : (j : Nat) = i) : xLd cc own pc (pc + 1) 0 i := by
  intro p l e R s m args below meth c H locs cells slots Q ls rest C v hv hl k
  obtain ⟨x, rfl⟩ := hv
  exact lv_iload_n C.1 C.2.1 d h hl k
theorem xr_iload {i : Nat} (d : decode cc pc = .ok (.iload i, 2)) : xLd cc own pc (pc + 2) 0 i := by
  intro p l e R s m args below meth c H locs cells slots Q ls rest C v hv hl k
  obtain ⟨x, rfl⟩ := hv
  exact lv_iload C.1 C.2.1 d hl k
theorem xr_lloadn {i : Nat} {j : Fin 4} (d : decode cc pc = .ok (.lload_n j, 1)) (h : (j : Nat) = i) : xLd cc own pc (pc + 1) 2 i := by
  intro p l e R s m args below meth c H locs cells slots Q ls rest C v hv hl k
  obtain ⟨x, rfl⟩ := hv
  exact lv_lload_n C.1 C.2.1 d h hl k
theorem xr_lload {i : Nat} (d : decode cc pc = .ok (.lload i, 2)) : xLd cc own pc (pc + 2) 2 i := by
  intro p l e R s m args below meth c H locs cells slots Q ls rest C v hv hl k
  obtain ⟨x, rfl⟩ := hv
  exact lv_lload C.1 C.2.1 d hl k
theorem xr_aloadn {i : Nat} {j : Fin 4} (d : decode cc pc = .ok (.aload_n j, 1)) (h : (j : Nat) = i) : xLd cc own pc (pc + 1) 1 i := by
  intro p l e R s m args below meth c H locs cells slots Q ls rest C v hv hl k
  rcases hv with rfl | ⟨x, rfl⟩
  · exact lv_aload_nN C.1 C.2.1 d h hl k
  · exact lv_aload_n C.1 C.2.1 d h hl k
theorem xr_aload {i : Nat} (d : decode cc pc = .ok (.aload i, 2)) : xLd cc own pc (pc + 2) 1 i := by
  intro p l e R s m args below meth c H locs cells slots Q ls rest C v hv hl k
  rcases hv with rfl | ⟨x, rfl⟩
  · exact lv_aloadN C.1 C.2.1 d hl k
  · exact lv_aload C.1 C.2.1 d hl k
theorem xr_istoren {i : Nat} {j : Fin 4} (d : decode cc pc = .ok (.istore_n j, 1)) (h : (j : Nat) = i) : xSt cc own pc (pc + 1) 0 i := by
  intro p l e R s m args below meth c H locs cells slots Q ls rest C nL lv v hv hh hn k
  obtain ⟨x, rfl⟩ := hv
  exact lv_istore_n C.1 C.2.1 d h hh hn rfl k
theorem xr_istore {i : Nat} (d : decode cc pc = .ok (.istore i, 2)) : xSt cc own pc (pc + 2) 0 i := by
  intro p l e R s m args below meth c H locs cells slots Q ls rest C nL lv v hv hh hn k
  obtain ⟨x, rfl⟩ := hv
  exact lv_istore C.1 C.2.1 d hh hn rfl k
theorem xr_lstoren {i : Nat} {j : Fin 4} (d : decode cc pc = .ok (.lstore_n j, 1)) (h : (j : Nat) = i) : xSt cc own pc (pc + 1) 2 i := by
  intro p l e R s m args below meth c H locs cells slots Q ls rest C nL lv v hv hh hn k
  obtain ⟨x, rfl⟩ := hv
  exact lv_lstore_n C.1 C.2.1 d h hh hn rfl k
theorem xr_lstore {i : Nat} (d : decode cc pc = .ok (.lstore i, 2)) : xSt cc own pc (pc + 2) 2 i := by
  intro p l e R s m args below meth c H locs cells slots Q ls rest C nL lv v hv hh hn k
  obtain ⟨x, rfl⟩ := hv
  exact lv_lstore C.1 C.2.1 d hh hn rfl k
theorem xr_astoren {i : Nat} {j : Fin 4} (d : decode cc pc = .ok (.astore_n j, 1)) (h : (j : Nat) = i) : xSt cc own pc (pc + 1) 1 i := by
  intro p l e R s m args below meth c H locs cells slots Q ls rest C nL lv v hv hh hn k
  rcases hv with rfl | ⟨x, rfl⟩
  · exact lv_astore_nN C.1 C.2.1 d h hh hn rfl k
  · exact lv_astore_n C.1 C.2.1 d h hh hn rfl k
theorem xr_astore {i : Nat} (d : decode cc pc = .ok (.astore i, 2)) : xSt cc own pc (pc + 2) 1 i := by
  intro p l e R s m args below meth c H locs cells slots Q ls rest C nL lv v hv hh hn k
  rcases hv with rfl | ⟨x, rfl⟩
  · exact lv_astoreN C.1 C.2.1 d hh hn rfl k
  · exact lv_astore C.1 C.2.1 d hh hn rfl k
theorem xr_iinc {i a : Nat} {n : Int} (d : decode cc pc = .ok (.iinc i n, 3)) (h : Int32.ofInt n = nI a) : xIn cc own pc (pc + 3) i a := fun p l e R s m args below meth c H locs cells slots Q ls rest C nL k lv x hh hk hn kk => lv_iinc C.1 C.2.1 d hh hk (by rw [h]) hn rfl kk
theorem xr_getf {ci k ix N : Nat} {K : String} {T : u_T} (d : decode cc pc = .ok (.getfield ix, 3)) (hc : vwCl[ci]? = some (K, T, N)) (hk : k < N) (hin : ∀ w ∈ u_ws K T N, w ∈ xgt) (hl : Cond.fieldLink own ix (T k).1 (T k).2.1 (T k).2.2.1 ∈ xgt) : xGf cc own pc (pc + 3) ci k := fun p l e R s m args below meth c H locs cells slots Q ls rest C D tys ws q0 a fs v hK hP he hv kk => va_get C.1 C.2.1 C.2.2.2 hin C.2.2.1 hK hP q0 he hc k hk (C.2.2.2 _ hl) (fun _ h => h) hv d kk
/-- a field's cell behind a store: the world -/
theorem xw_obj {D : va_G} {tys : List (ClassId × FieldType)} {ws : va_W} {A : Nat → Prop} {s : State} {args : Array Value} {H H1 : Heap} {ci k N q0 a : Nat} {K : String} {T : u_T} {ty0 : Nat → FieldType} {own : String} (hts : ∀ w ∈ xgt, w.before args s = true) (hc : vwCl[ci]? = some (K, T, N)) (hk : k < N) (hin : ∀ w ∈ u_ws K T N, w ∈ xgt) (hty : ∀ k, k < N → parseFieldDescriptor (T k).2.2.1 = some (ty0 k)) (hnm : ∀ a, a < N → ∀ b, b < N → a ≠ b → (T a).2.1 ≠ (T b).2.1)
    (hK : va_K D vwCl tys s) (hP : va_P D vwCl ws H) (hD : va_D A ws) {fs : List Value} (he : ws[q0]? = some (a, .inr (ci, fs))) {v : Value} (hlen : k < fs.length) {cell : Cell} (c1 : cell.cls = D.1 ci) (c2 : cell.vm = .none) (c3 : ∀ j, j < N → cell.slots[D.2 ci j]? = some (vp_V fs j)) (h1 : H1[a]? = some (cell.setSlot (D.2 ci k) v)) (h2 : ∀ q, q ≠ a → H1[q]? = H[q]?) : va_P D vwCl (ws.set q0 (a, .inr (ci, fs.set k v))) H1 :=
  hP.set hD he ⟨_, hc, t_OB.to (V := updV (vp_V fs) k v) ⟨_, h1, c1, c2, t_set c3 (va_apart (own := own) hts hin ty0 hty hnm hK hc) hk v⟩ (fun j _ => vp_updV_set hlen v j)⟩ h2
theorem xr_putf {ci k ix N : Nat} {K : String} {T : u_T} {ty0 : Nat → FieldType} (d : decode cc pc = .ok (.putfield ix, 3)) (hc : vwCl[ci]? = some (K, T, N)) (hk : k < N) (hin : ∀ w ∈ u_ws K T N, w ∈ xgt) (hty : ∀ k, k < N → parseFieldDescriptor (T k).2.2.1 = some (ty0 k)) (hnm : ∀ a, a < N → ∀ b, b < N → a ≠ b → (T a).2.1 ≠ (T b).2.1) (hl : Cond.fieldLink own ix (T k).1 (T k).2.1 (T k).2.2.1 ∈ xgt) (hf : (T k).2.2.2 = false) {ty : FieldType} (et : ty0 k = ty) : xPf cc own pc (pc + 3) ci k ty false := by
  intro p l e R s m args below meth c H locs cells slots Q ls rest C D tys ws q0 a A H0 fs v hK hP hD hS he _ hn hft hlen kk
  obtain ⟨r, g1, cell, q1, q2, q3, q4⟩ := hP q0 _ he
  cases g1.symm.trans hc
  obtain ⟨hSl, hfc, kC, hkC, hkind⟩ := hK.1 ci _ hc
  obtain ⟨cf, kf, fi, f, hi, hsl⟩ := hSl k hk
  have hlay := C.2.2.2 _ (hin _ (u_in_lay hk))
  rw [u_lay, if_neg (by rw [hf]; decide)] at hlay
  refine W.putK C.1 C.2.1 (f := f) ⟨C.2.2.1, C.2.2.2 _ hl, ⟨_, _, _, hi⟩, (u_facts hfc hkC (u_lays C.2.2.2 hin hk) hi).1⟩ (by rw [q2]; exact u_store hfc hkC hkind hlay hi (by rw [← et]; exact hty k hk) hn hft) q1 q3 (by rw [hsl]; exact k2_hasslot (q4 k hk)) rfl rfl d fun H' e1 e2 e3 => ?_
  rw [hsl] at e1 ⊢
  exact kk H' _ (xw_obj (own := own) C.2.2.2 hc hk hin hty hnm hK hP hD he hlen q2 q3 q4 e1 e3) (hD.set he) (hS.put e2 e3 (hD.2 q0 _ he)) e2
theorem xr_putF {ci k ix N : Nat} {K : String} {T : u_T} {ty0 : Nat → FieldType} (d : decode cc pc = .ok (.putfield ix, 3)) (hc : vwCl[ci]? = some (K, T, N)) (hk : k < N) (hin : ∀ w ∈ u_ws K T N, w ∈ xgt) (hty : ∀ k, k < N → parseFieldDescriptor (T k).2.2.1 = some (ty0 k)) (hnm : ∀ a, a < N → ∀ b, b < N → a ≠ b → (T a).2.1 ≠ (T b).2.1) (hl : Cond.fieldLink own ix (T k).1 (T k).2.1 (T k).2.2.1 ∈ xgt) (hf : (T k).2.2.2 = true) {ty : FieldType} (et : ty0 k = ty) (ho : (T k).1 = own) : xPf cc own pc (pc + 3) ci k ty true := by
  intro p l e R s m args below meth c H locs cells slots Q ls rest C D tys ws q0 a A H0 fs v hK hP hD hS he hni hn hft hlen kk
  obtain ⟨r, g1, cell, q1, q2, q3, q4⟩ := hP q0 _ he
  cases g1.symm.trans hc
  obtain ⟨hSl, hfc, kC, hkC, hkind⟩ := hK.1 ci _ hc
  obtain ⟨cf, kf, fi, f, hi, hsl⟩ := hSl k hk
  have hlay := C.2.2.2 _ (hin _ (u_in_lay hk))
  rw [u_lay, if_pos hf] at hlay
  have hcf : m.cls = cf := by
    obtain ⟨_, _, c', _, _, _, -, -, hf', -, -, -, hown2, -⟩ := Cond.laysFinal_spec hlay
    have e1 : c' = cf := by have := hi.symm.trans hf'; simp at this; exact this.1.symm
    rw [ho] at hown2
    rw [← e1]
    exact Option.some.inj (C.2.2.1.symm.trans hown2)
  refine W.putFinK C.1 C.2.1 C.2.2.1 (C.2.2.2 _ hl) hi (u_facts hfc hkC (u_lays C.2.2.2 hin hk) hi).1 hcf (hni rfl) (by rw [q2]; exact u_fits hfc hkC hkind (Or.inr hlay) hi (by rw [← et]; exact hty k hk) hn hft) q1 q3 (by rw [hsl]; exact k2_hasslot (q4 k hk)) rfl rfl d fun H' e1 e2 e3 => ?_
  rw [hsl] at e1 ⊢
  exact kk H' _ (xw_obj (own := own) C.2.2.2 hc hk hin hty hnm hK hP hD he hlen q2 q3 q4 e1 e3) (hD.set he) (hS.put e2 e3 (hD.2 q0 _ he)) e2
/-- a table switch from 0 on: its targets in order -/
theorem xr_table {dflt hi : Int} {offs : Array Int} {len df : Nat} {cs : List (Nat × Nat)} (d : decode cc pc = .ok (.tableswitch dflt 0 hi offs, len)) (h1 : hi + 1 = cs.length ∧ offs.size = cs.length ∧ cs.length < 1000) (h2 : (pc : Int) + dflt = (df : Int)) (h3 : ∀ i, i < cs.length → ((cs.getD i (0, 0)).1 = i ∧ (pc : Int) + offs.getD i 0 = ((cs.getD i (0, 0)).2 : Int))) : xSw cc own pc df cs := by
  intro p l e R s m args below meth c H locs cells slots Q ls rest C x h
  have key : ∀ i, i < cs.length → cs[i]? = some (i, (cs.getD i (0, 0)).2) := fun i hi => by
    have e1 := (h3 i hi).1
    rw [List.getD_eq_getElem?_getD, List.getElem?_eq_getElem hi] at e1 ⊢
    simp only [Option.getD_some] at e1 ⊢
    exact congrArg some (Prod.ext e1 rfl)
  rcases h with ⟨q, hq, rfl, hW⟩ | ⟨hn, hW⟩
  · obtain ⟨i, hi⟩ := List.getElem?_of_mem hq
    have hl : i < cs.length := (List.getElem?_eq_some_iff.mp hi).1
    have hk := key i hl
    rw [hi] at hk
    cases hk
    have ht := (h3 i hl).2
    have e2 : (nI i).toInt = (i : Int) := nI_toInt (by omega)
    refine lv_tableIn C.1 C.2.1 d (off := offs.getD i 0) (by rw [e2]; omega) (by rw [e2]; omega) ?_ ht hW
    rw [e2, show ((i : Int) - 0).toNat = i by omega, Array.getD_eq_getD_getElem?, Array.getElem?_eq_getElem (by omega)]
    rfl
  · refine lv_tableOut C.1 C.2.1 d ?_ h2 hW
    by_cases a : x.toInt < 0
    · exact Or.inl a
    · refine Or.inr ?_
      by_cases b : hi < x.toInt
      · exact b
      · exfalso
        have hlt : x.toInt.toNat < cs.length := by omega
        refine hn _ (List.mem_of_getElem? (key _ hlt)) ?_
        apply Int32.toInt_inj.mp
        rw [nI_toInt (by omega)]
        omega
/-- a lookup switch of two cases -/
theorem xr_look2 {dflt k0 o0 k1 o1 : Int} {len df a0 t0 a1 t1 : Nat} (d : decode cc pc = .ok (.lookupswitch dflt #[(k0, o0), (k1, o1)], len)) (h0 : k0 < k1 ∧ k0 = a0 ∧ k1 = a1 ∧ a1 < 1000) (h1 : (pc : Int) + dflt = (df : Int)) (h2 : (pc : Int) + o0 = (t0 : Int)) (h3 : (pc : Int) + o1 = (t1 : Int)) : xSw cc own pc df [(a0, t0), (a1, t1)] := by
  intro p l e R s m args below meth c H locs cells slots Q ls rest C x h
  obtain ⟨g0, g1, g2, g3⟩ := h0
  have srt : ((#[(k0, o0), (k1, o1)] : Array (Int × Int)).toList.zip ((#[(k0, o0), (k1, o1)] : Array (Int × Int)).toList.drop 1)).all (fun (a, next) => a.1 < next.1) = true := by
    simp [g0]
  have t0' : (nI a0).toInt = (a0 : Int) := nI_toInt (by omega)
  have t1' : (nI a1).toInt = (a1 : Int) := nI_toInt (by omega)
  rcases h with ⟨q, hq, rfl, hW⟩ | ⟨hn, hW⟩
  · rcases List.mem_cons.mp hq with rfl | hq
    · refine lv_lookup C.1 C.2.1 d srt (off := o0) ?_ h2 hW
      simp [Op.lookupswitch.offset, t0', g1]
    · rcases List.mem_cons.mp hq with rfl | hq
      · refine lv_lookup C.1 C.2.1 d srt (off := o1) ?_ h3 hW
        simp [Op.lookupswitch.offset, t1', g2, show ¬ k0 = (a1 : Int) by omega]
      · cases hq
  · have n0 : ¬ x.toInt = k0 := fun z => hn (a0, t0) List.mem_cons_self (Int32.toInt_inj.mp (by rw [t0']; omega))
    have n1 : ¬ x.toInt = k1 := fun z => hn (a1, t1) (List.mem_cons_of_mem _ List.mem_cons_self) (Int32.toInt_inj.mp (by rw [t1']; omega))
    refine lv_lookup C.1 C.2.1 d srt (off := dflt) ?_ h1 hW
    simp [Op.lookupswitch.offset, Ne.symm n0, Ne.symm n1]
    first | done | exact ⟨n0, n1⟩ | omega
theorem xr_alen (d : decode cc pc = .ok (.arraylength, 1)) : xAl cc own pc (pc + 1) := fun p l e R s m args below meth c H locs cells slots Q ls rest C D tys ws q0 a t0 cA x ty hK hP he ht kk => va_alen C.1 C.2.1 hK hP q0 t0 he ht rfl d kk
theorem xr_iald (d : decode cc pc = .ok (.iaload, 1)) : xRd cc own pc (pc + 1) .int := fun p l e R s m args below meth c H locs cells slots Q ls rest C D tys ws q0 a t0 cA n f i hK hP he ht hi kk => va_iald C.1 C.2.1 hK hP q0 t0 he ht hi d kk
theorem xr_bald (d : decode cc pc = .ok (.baload, 1)) : xRd cc own pc (pc + 1) .byte := fun p l e R s m args below meth c H locs cells slots Q ls rest C D tys ws q0 a t0 cA n f i hK hP he ht hi kk => va_bald C.1 C.2.1 hK hP q0 t0 he ht hi d kk
theorem xr_zald (d : decode cc pc = .ok (.baload, 1)) : xRd cc own pc (pc + 1) .boolean := fun p l e R s m args below meth c H locs cells slots Q ls rest C D tys ws q0 a t0 cA n f i hK hP he ht hi kk => va_zald C.1 C.2.1 hK hP q0 t0 he ht hi d kk
theorem xw_arr {f : Nat → Int32} {i x y : Int32} {cA : ClassId} {n : Nat} (h : x = y) : (vp_cell cA (n, .inl f)).setSlot i.toNatClampNeg (.int x) = vp_cell cA (n, .inl (upd f i.toNatClampNeg y)) := by
  rw [vp_cell_i, vp_cell_i, arrV_store, h]
  congr 1
  funext q
  by_cases hq : q = i.toNatClampNeg
  · rw [hq]
    simp [updV, upd]
  · simp [updV, upd, hq]
theorem xr_iast (d : decode cc pc = .ok (.iastore, 1)) : xWr cc own pc (pc + 1) .int := by
  intro p l e R s m args below meth c H locs cells slots Q ls rest C D tys ws q0 a A H0 t0 cA n f i x hK hP hD hS he ht hi kk
  refine W.iast C.1 C.2.1 (hP q0 _ he) ((hK.2 t0 _ ht).1 n (fun j => .int (f j))) (fun q => by cases q) (by show ¬ (i < 0 ∨ (arrV _ _ _).slots.size ≤ _); rw [arrV_size]; exact hi) rfl rfl d fun H1 e1 z oq => ?_
  refine kk H1 _ (hP.set hD he ?_ oq) (hD.set he) (hS.put z oq (hD.2 q0 _ he)) z
  show H1[a]? = some (vp_cell _ _)
  rw [e1]
  exact congrArg some (xw_arr rfl)
theorem xr_bast (d : decode cc pc = .ok (.bastore, 1)) : xWr cc own pc (pc + 1) .byte := by
  intro p l e R s m args below meth c H locs cells slots Q ls rest C D tys ws q0 a A H0 t0 cA n f i x hK hP hD hS he ht hi kk
  refine W.bast C.1 C.2.1 (hP q0 _ he) ((hK.2 t0 _ ht).1 n (fun j => .int (f j))) (fun q => by cases q) (by show ¬ (i < 0 ∨ (arrV _ _ _).slots.size ≤ _); rw [arrV_size]; exact hi) rfl rfl d fun H1 e1 z oq => ?_
  refine kk H1 _ (hP.set hD he ?_ oq) (hD.set he) (hS.put z oq (hD.2 q0 _ he)) z
  show H1[a]? = some (vp_cell _ _)
  rw [e1]
  exact congrArg some (xw_arr rfl)
theorem xr_zast (d : decode cc pc = .ok (.bastore, 1)) : xWr cc own pc (pc + 1) .boolean := by
  intro p l e R s m args below meth c H locs cells slots Q ls rest C D tys ws q0 a A H0 t0 cA n f i x hK hP hD hS he ht hi kk
  refine W.zast C.1 C.2.1 (hP q0 _ he) ((hK.2 t0 _ ht).1 n (fun j => .int (f j))) (fun q => by cases q) (by show ¬ (i < 0 ∨ (arrV _ _ _).slots.size ≤ _); rw [arrV_size]; exact hi) rfl rfl d fun H1 e1 z oq => ?_
  refine kk H1 _ (hP.set hD he ?_ oq) (hD.set he) (hS.put z oq (hD.2 q0 _ he)) z
  show H1[a]? = some (vp_cell _ _)
  rw [e1]
  exact congrArg some (xw_arr rfl)
theorem xr_aald (d : decode cc pc = .ok (.aaload, 1)) : xRr cc own pc (pc + 1) := by
  intro p l e R s m args below meth c H locs cells slots Q ls rest C D tys ws q0 a t0 cA n f i hK hP he ht hi kk
  have hc : H[a]? = some (vp_cell cA (n, .inr (.inr (.inr (.inr f))))) := hP q0 _ he
  exact W.aald C.1 C.2.1 hc ((hK.2 t0 _ ht).1 n (fun j => va_rf (f j))) rfl (by rw [vp_cell_q]; exact fun h => by cases h) (by rw [vp_cell_q, arrV_size]; exact hi) (by
    rw [vp_cell_q]
    exact arrV_read _ _ (by
      have h2 : ¬ n ≤ i.toNatClampNeg := fun z => hi (Or.inr z)
      omega)) rfl rfl d kk
theorem xr_slen (d : decode cc pc = .ok (.arraylength, 1)) : xXl cc own pc (pc + 1) := fun p l e R s m args below meth c H locs cells slots Q ls rest C q L xs A hX hq hA hS k => va_slen C.1 C.2.1 hX hq hA hS d k
theorem xr_sld (d : decode cc pc = .ok (.iaload, 1)) : xXd cc own pc (pc + 1) := fun p l e R s m args below meth c H locs cells slots Q ls rest C q L xs A hX hq hA hS n hn h1 h2 k => va_sld C.1 C.2.1 hX hq hA hS (vp_in_nI hn h2) d (by rw [nI_clamp h1]; exact k)
theorem xr_ldcs0 (d : decode cc pc = .ok (.ldc 41, 2)) : xLs cc RX9 pc (pc + 2) 0 := fun p l e R s m args below meth c H locs cells slots Q ls rest C b sa hF k => va_ldcS C.1 C.2.1 C.2.2.1 hF.2.2.2.1 d k
theorem xr_ldcs1 (d : decode cc pc = .ok (.ldc 47, 2)) : xLs cc RX9 pc (pc + 2) 1 := fun p l e R s m args below meth c H locs cells slots Q ls rest C b sa hF k => va_ldcS C.1 C.2.1 C.2.2.1 hF.2.2.2.2.1 d k
theorem xr_compact {ix : Nat} (d : decode cc pc = .ok (.getstatic ix, 3)) (h : Cond.fieldLink own ix "java/lang/String" "COMPACT_STRINGS" "Z" ∈ xgt) : xGs cc own pc (pc + 3) (fun _ => .int (nI 1)) := fun p l e R s m args below meth c H locs cells slots Q ls rest C b sa A hF hS hA k => va_gets C.1 C.2.1 (hF.2.2.2.2.2.1.narrow hA) hS C.2.2.1 (C.2.2.2 _ h) (fun _ q => q) d k
theorem xr_sioobe {ix : Nat} (d : decode cc pc = .ok (.getstatic ix, 3)) (h : Cond.fieldLink own ix "jdk/internal/util/Preconditions" "SIOOBE_FORMATTER" "Ljava/util/function/BiFunction;" ∈ xgt) : xGs cc own pc (pc + 3) (fun sa => if sa 98 = 0 then .null else .ref (sa 99)) := fun p l e R s m args below meth c H locs cells slots Q ls rest C b sa A hF hS hA k => va_gets C.1 C.2.1 (hF.2.2.2.2.2.2.1.narrow hA) hS C.2.2.1 (C.2.2.2 _ h) (fun _ q => q) d k
theorem xr_strf_coder {ix : Nat} (d : decode cc pc = .ok (.getfield ix, 3)) (h : Cond.fieldLink own ix "java/lang/String" "coder" "B" ∈ xgt) : xSf cc own pc (pc + 3) (fun _ _ => .int (nI 0)) := fun p l e R s m args below meth c H locs cells slots Q ls rest C b sa A hF hS hA k hk kk => vk_getf C.1 C.2.1 ((hF.2.2.1 k hk).2.1.narrow hA) hS C.2.2.1 (C.2.2.2 _ h) (fun _ q => q) d kk
theorem xr_strf_value {ix : Nat} (d : decode cc pc = .ok (.getfield ix, 3)) (h : Cond.fieldLink own ix "java/lang/String" "value" "[B" ∈ xgt) : xSf cc own pc (pc + 3) (fun sa k => .ref (sa (k + 1000))) := fun p l e R s m args below meth c H locs cells slots Q ls rest C b sa A hF hS hA k hk kk => vk_getf C.1 C.2.1 ((hF.2.2.1 k hk).2.2.1.narrow hA) hS C.2.2.1 (C.2.2.2 _ h) (fun _ q => q) d kk
theorem xr_strl (d : decode cc pc = .ok (.arraylength, 1)) : xSl cc own pc (pc + 1) := fun p l e R s m args below meth c H locs cells slots Q ls rest C b sa A hF hS hA k hk kk => va_tlen C.1 C.2.1 ((hF.2.2.1 k hk).2.2.2.narrow hA) hS rfl d kk
theorem xr_strb (d : decode cc pc = .ok (.baload, 1)) : xSb cc own pc (pc + 1) := fun p l e R s m args below meth c H locs cells slots Q ls rest C b sa A hF hS hA k j hk hj hj2 kk => va_tb C.1 C.2.1 ((hF.2.2.1 k hk).2.2.2.narrow hA) hS (vp_in_nI hj (by have : xlen.getD k 0 < 100 := (by rcases (show k = 0 ∨ k = 1 by omega) with rfl | rfl <;> decide); omega)) (by rw [nI_clamp hj2]) d kk
theorem xr_i2c  (d : decode cc pc = .ok (.i2c, 1)) (x : Int32) : xT cc own pc (pc + 1) [.int x] [.int (x.toUInt32 % 65536).toInt32] := fun p l e R s m args below meth c H locs cells slots Q ls rest C k => lv_i2c C.1 C.2.1 d rfl k
theorem xr_min {ix : Nat} (d : decode cc pc = .ok (.invokestatic ix, 3)) (h1 : Cond.methodLink own ix Lib.Math.min.name ∈ xgt) (h2 : Cond.static Lib.Math.min.name ∈ xgt) (h3 : Cond.initialized "java/lang/Math" ∈ xgt) (h4 : Cond.code Lib.Math.min.name Lib.Math.min.code 2 (some .int) ∈ xgt) : xMi cc own pc (pc + 3) := fun p l e R s m args below meth c H locs cells slots Q ls rest C x y hml hf hlo hc hs kk => va_mmin C.1 C.2.1 hml C.2.2.1 (C.2.2.2 _ h1) (C.2.2.2 _ h2) (C.2.2.2 _ h3) (C.2.2.2 _ h4) hf hlo hc hs d kk
theorem xr_mna {ix : Nat} (d : decode cc pc = .ok (.multianewarray ix 2, 4)) (h1 : Cond.classLink own ix "[[I" ∈ xgt) (h2 : Cond.arrayClass .int ∈ xgt) : xMa cc own pc (pc + 4) := by
  intro p l e R s m args below meth c H locs cells slots Q ls rest C b sa D tys ws A H0 n k N' K' cA cI hF hP hS fA fI hn hk hN hM b1 b2 hce hsl kk
  subst hN
  subst hM
  intro T hT X
  obtain ⟨vm₁, cB, comp, -, fB, fC, -, -, X', step⟩ := X.multianewarray2F C.1 C.2.2.1 (show (Cond.classLink own ix ("[" ++ (FieldType.array FieldType.int).toString)).before args s = true from C.2.2.2 _ h1) (show (Cond.arrayOver (.array FieldType.int)).before args s = true from hF.2.1) (C.2.2.2 _ h2) (g := F0 m pc ls (.int k :: .int n :: rest)) rfl (by rw [C.2.1]; exact d) rfl hn hk (by omega) (by show _ * 4 ≤ _; omega) (by omega) rfl rfl hce hsl
  cases fA.symm.trans fB
  cases fI.symm.trans fC
  generalize hG : Jvm.Free.Multi.fill (T.setVm vm₁) cA cI n.toNatClampNeg k.toNatClampNeg (defaultValue .int) n.toNatClampNeg = G at X' step
  have hTh : (T.setVm vm₁).heap = H := hT
  obtain ⟨f1, f2, -, -⟩ := Jvm.Free.Multi.fill_facts (T.setVm vm₁) cA cI n.toNatClampNeg k.toNatClampNeg (defaultValue .int) n.toNatClampNeg
  rw [hG, hTh] at f1 f2
  have hold : ∀ x : Nat, x < H.size → G.heap[x]? = H[x]? := fun x hx => by
    have := Jvm.Free.Multi.fill_old (T.setVm vm₁) cA cI n.toNatClampNeg k.toNatClampNeg (defaultValue .int) (a := x) (by rw [hTh]; exact hx) n.toNatClampNeg
    rwa [hG, hTh] at this
  have hrow : ∀ j : Nat, j < n.toNatClampNeg → G.heap[H.size + 1 + j]? = some (vp_cell cI (k.toNatClampNeg, .inl (fun _ => 0))) := fun j hj => by
    have := Jvm.Free.Multi.fill_inner (T.setVm vm₁) cA cI n.toNatClampNeg k.toNatClampNeg (defaultValue .int) n.toNatClampNeg j hj
    rw [hG, hTh] at this
    rw [this, vp_cell_i]
    exact congrArg some (arrV_new cI k.toNatClampNeg (.int 0))
  have hout : G.heap[H.size]? = some (vp_cell cA (n.toNatClampNeg, .inr (.inr (.inr (.inr (fun i => if i < n.toNatClampNeg then some (H.size + 1 + i) else none)))))) := by
    rw [f2, vp_cell_q]
    exact congrArg some (xouter cA n.toNatClampNeg H.size n.toNatClampNeg)
  obtain ⟨t, a1, b1'⟩ := kk G.heap ((hP.kept (fun k9 x hx => hold x.1 ((hP k9 x hx).lt))).app (fun k9 x hx => by
      match k9, hx with
      | 0, hx =>
        cases hx
        exact hout
      | k9 + 1, hx =>
        rw [List.getElem?_cons_succ] at hx
        obtain ⟨i, hi, rfl⟩ := List.mem_map.mp (List.mem_of_getElem? hx)
        exact hrow i (List.mem_range.mp hi))) ⟨by rw [f1]; have := hS.1; omega, fun x h1 h2 => (hold x (Nat.lt_of_lt_of_le h1 hS.1)).trans (hS.2.1 x h1 h2), hS.2.2⟩ (by rw [f1]) G rfl X'
  refine ⟨t, step t ?_, b1'⟩
  rw [show T.heap.size = H.size by rw [hT]]
  exact a1
theorem xr_new {ci ix N : Nat} {K : String} {T : u_T} {ty0 : Nat → FieldType} (d : decode cc pc = .ok (.new ix, 3)) (hc : vwCl[ci]? = some (K, T, N)) (hin : ∀ w ∈ u_ws K T N, w ∈ xgt) (hty : ∀ k, k < N → parseFieldDescriptor (T k).2.2.1 = some (ty0 k)) (h1 : Cond.classLink own ix K ∈ xgt) (h2 : Cond.instantiable K N ∈ xgt) (h3 : Cond.initialized K ∈ xgt) (fs : List Value) (hfs : ∀ j, j < N → defaultValue (ty0 j) = vp_V fs j) : xNw cc own pc (pc + 3) ci N fs := by
  intro p l e R s m args below meth c H locs cells slots Q ls rest C D tys ws A H0 hK hP hS hce hsl kk
  have hKn := hK.1 ci _ hc
  refine W.newcK C.1 C.2.1 C.2.2.1 (C.2.2.2 _ h1) (C.2.2.2 _ h2) (C.2.2.2 _ h3) rfl d hce hsl hKn.2.1 rfl fun H1 kC hkC e1 z1 o1 => ?_
  have hk : ∀ (k : Nat) (x : Nat × va_E), ws[k]? = some x → H1[x.1]? = H[x.1]? := fun k x hx => o1 x.1 ((hP k x hx).lt)
  refine kk H1 ((hP.kept hk).app (fun k x hx => ?_)) ⟨Nat.le_trans hS.1 (by omega), fun x h1 h2 => (o1 x (Nat.lt_of_lt_of_le h1 hS.1)).trans (hS.2.1 x h1 h2), hS.2.2⟩ z1
  have hz : k < 1 := (List.getElem?_eq_some_iff.mp hx).1
  rw [show k = 0 by omega] at hx
  cases hx
  exact ⟨_, hc, (u_born ty0 C.2.2.2 hin hKn hkC e1 hty).to hfs⟩
theorem xr_newa {atype : ArrayType} {ty : FieldType} (d : decode cc pc = .ok (.newarray atype, 2)) (hty : newarray.typeOf atype = ty) (h1 : Cond.arrayClass ty ∈ xgt) : xNa cc own pc (pc + 2) ty := by
  intro p l e R s m args below meth c H locs cells slots Q ls rest C D tys ws A H0 n N' a0 cA hK hP hS hcA ha hn hN hby hce hsl kk
  subst hty
  refine va_newaK C.1 C.2.1 (C.2.2.2 _ h1) rfl d rfl hn hN hby hce hsl rfl fun H1 cB e1 z1 o1 hAr hNm => ?_
  cases hcA.symm.trans hNm
  have hk : ∀ (k : Nat) (x : Nat × va_E), ws[k]? = some x → H1[x.1]? = H[x.1]? := fun k x hx => o1 x.1 ((hP k x hx).lt)
  refine kk H1 ((hP.kept hk).app (fun k x hx => ?_)) ⟨Nat.le_trans hS.1 (by omega), fun x h1 h2 => (o1 x (Nat.lt_of_lt_of_le h1 hS.1)).trans (hS.2.1 x h1 h2), hS.2.2⟩ z1
  have hz : k < 1 := (List.getElem?_eq_some_iff.mp hx).1
  rw [show k = 0 by omega] at hx
  cases hx
  show H1[H.size]? = some (vp_cell _ _)
  rw [ha]
  exact e1
theorem xr_oinit {ix : Nat} (d : decode cc pc = .ok (.invokespecial ix, 3)) (h1 : Cond.methodLink own ix Lib.objectInit ∈ xgt) (h2 : Cond.instanceMethod Lib.objectInit ∈ xgt) (h3 : Cond.code Lib.objectInit ⟨#[0xb1]⟩ 1 none ∈ xgt) : xOi cc own pc (pc + 3) := by
  intro p l e R s m args below meth c H locs cells slots Q ls rest C a hml hfr hlo kk
  exact W.objInit C.1 C.2.1 C.2.2.1 (C.2.2.2 _ h1) (C.2.2.2 _ h2) (C.2.2.2 _ h3) rfl hml.symm rfl d hfr (by show 2 * 0 + _ + 12 ≤ _; omega) kk
theorem xr_copy {ix : Nat} (d : decode cc pc = .ok (.invokestatic ix, 3)) (h1 : Cond.methodLink own ix arraycopyName ∈ xgt) (h2 : Cond.native arraycopyName ∈ xgt) (h3 : Cond.static arraycopyName ∈ xgt) (h4 : Cond.initialized "java/lang/System" ∈ xgt) : xCp cc own pc (pc + 3) := by
  intro p l e R s m args below meth c H locs cells slots Q ls rest C D tys ws A H0 q0 q1 a0 a t0 cA n0 n1 f g sp dp n hml hK hP hD hS e0 e1 ht b1 b2 b3 b4 b5 hfr hlo kk
  have nn : ∀ z : Int32, ¬ z < 0 → z.toInt = (z.toNatClampNeg : Int) := by
    intro z hz
    have hz0 : (0 : Int) ≤ z.toInt := by simpa using Int32.le_iff_toInt_le.mp (Int32.not_lt.mp hz)
    show z.toInt = ((z.toInt.toNat : Nat) : Int)
    omega
  intro T hT X
  have c0 : H[a0]? = some (vp_cell cA (n0, .inl f)) := hP q0 _ e0
  have c1 : H[a]? = some (vp_cell cA (n1, .inl g)) := hP q1 _ e1
  have hl : a < H.size := (Array.getElem?_eq_some_iff.mp c1).1
  obtain ⟨-, k0, hk0, cm0, hkk0⟩ := (hK.2 t0 _ ht).1 n0 (fun j => .int (f j))
  obtain ⟨-, k1, hk1, cm1, hkk1⟩ := (hK.2 t0 _ ht).1 n1 (fun j => .int (g j))
  obtain ⟨vm', X', step⟩ := X.arraycopy C.1 C.2.2.1 (C.2.2.2 _ h1) (C.2.2.2 _ h2) (C.2.2.2 _ h3) (C.2.2.2 _ h4) (src := a0) (dst := a) (cs := vp_cell cA (n0, .inl f)) (cd := vp_cell cA (n1, .inl g)) (srcPos := sp) (destPos := dp) (n := n) (by rw [hT]; exact c0) (by rw [hT]; exact c1)
    (fun _ h => by cases h) (fun _ h => by cases h) (fun h => by cases h) (fun h => by cases h) hk0 hk1 hkk0 hkk1 (by simp [refKind]) b1 b2 b3
    (by rw [nn sp b1, nn n b3]; show ¬ _ > ((arrV cA n0 (fun j => .int (f j))).slots.size : Int); rw [arrV_size]; omega)
    (by rw [nn dp b2, nn n b3]; show ¬ _ > ((arrV cA n1 (fun j => .int (g j))).slots.size : Int); rw [arrV_size]; omega)
    (fun vm₁ _ i hi => by
      have e2 : (vp_cell cA (n0, .inl f)).slots.getD (sp.toNatClampNeg + i) .null = .int (f (sp.toNatClampNeg + i)) := by
        show (arrV cA n0 (fun j => .int (f j))).slots.getD _ _ = _
        rw [Array.getD_eq_getD_getElem?, arrV_read _ _ (by omega)]
        rfl
      rw [e2]
      exact ⟨rfl, trivial⟩)
    (g := F0 m pc ls (.int n :: .int dp :: .ref a :: .int sp :: .ref a0 :: rest)) rfl (by rw [hml]) (rest := rest) rfl (by rw [C.2.1]; exact d) hfr (by show 2 * 0 + _ + _ ≤ _; omega)
  have ecp : copied (vp_cell cA (n0, .inl f)) (vp_cell cA (n1, .inl g)) sp dp n = vp_cell cA (n1, .inl (va_cpy f g sp.toNatClampNeg dp.toNatClampNeg n.toNatClampNeg)) := va_copied (fun z => .int z) cA cA f g b4
  rw [ecp] at X' step
  have oq : ∀ q : Nat, q ≠ a → (H.setIfInBounds a (vp_cell cA (n1, .inl (va_cpy f g sp.toNatClampNeg dp.toNatClampNeg n.toNatClampNeg))))[q]? = H[q]? := fun q hq => by simp [Array.getElem?_setIfInBounds, Ne.symm hq]
  obtain ⟨t, s1, s2⟩ := kk (H.setIfInBounds a (vp_cell cA (n1, .inl (va_cpy f g sp.toNatClampNeg dp.toNatClampNeg n.toNatClampNeg)))) _ (hP.set hD e1 (show (H.setIfInBounds a _)[a]? = some _ by simp [Array.getElem?_setIfInBounds, hl]) oq) ⟨by simp; exact hS.1, fun q g1 g2 => by
      rw [oq q (fun z => g2 (by rw [z]; exact hD.2 q1 _ e1))]
      exact hS.2.1 q g1 g2, fun q hq => by
      rcases List.mem_append.mp hq with h | h
      · exact hS.2.2 q h
      · obtain ⟨z, -, hz⟩ := List.mem_map.mp h
        rw [← hz]
        exact hD.2 q1 _ e1⟩ (by simp) _ (by rw [← hT]; rfl) X'
  exact ⟨t, step t s1, s2⟩
end XR
end
section
/-! THE RUN of a method over abstract things -/
abbrev xMy (M : xM) : MethodName := M.1
abbrev xMc (M : xM) : ByteArray := M.2.1
abbrev xMl (M : xM) : Nat := M.2.2.1
abbrev xMr (M : xM) : Option FieldType := M.2.2.2.1
abbrev xMn (M : xM) : Nat := M.2.2.2.2.1
abbrev xMo (M : xM) : String := M.2.2.2.2.2.1
abbrev xMm (M : xM) : Room := M.2.2.2.2.2.2.1
abbrev xMk (M : xM) : List (Nat × xOp) := M.2.2.2.2.2.2.2
def xfind : List (Nat × xOp) → Nat → Option xOp
  | [], _ => none
  | q :: r, pc => if Nat.beq q.1 pc then some q.2 else xfind r pc
theorem xfind_mem : ∀ {l : List (Nat × xOp)} {pc : Nat} {o : xOp}, xfind l pc = some o → (pc, o) ∈ l
  | q :: r, pc, o, h => by
    simp only [xfind] at h
    split at h
    · next he =>
      cases h
      rw [Nat.beq_eq] at he
      subst he
      exact List.mem_cons_self
    · exact List.mem_cons_of_mem _ (xfind_mem h)
def xlk : xL → Nat → Option xV
  | [], _ => none
  | q :: r, i => if Nat.beq q.1 i then some q.2 else xlk r i
theorem xlk_mem : ∀ {l : xL} {i : Nat} {v : xV}, xlk l i = some v → (i, v) ∈ l
  | q :: r, i, o, h => by
    simp only [xlk] at h
    split at h
    · next he =>
      cases h
      rw [Nat.beq_eq] at he
      subst he
      exact List.mem_cons_self
    · exact List.mem_cons_of_mem _ (xlk_mem h)
def xkdb (k : Nat) (v : xV) : Bool := match k with
  | 0 => Nat.beq v.1 0 || Nat.beq v.1 3
  | 1 => Nat.beq v.1 1 || (Nat.beq v.1 2 || (Nat.beq v.1 5 || (Nat.beq v.1 6 || Nat.beq v.1 7)))
  | _ => Nat.beq v.1 4
def xcat (v : xV) : Nat := match v with
  | (0, _) => 1
  | (1, _) => 1
  | (2, _) => 1
  | (3, _) => 1
  | (5, _) => 1
  | (6, _) => 1
  | (7, _) => 1
  | _ => 2
theorem xcat_ok {b : Nat} {ρ : Nat → Int32} {sa : Nat → Nat} (v : xV) : (xdv b ρ sa v).category = xcat v := by
  match v with
  | (0, _) | (1, _) | (2, _) | (3, _) | (4, _) | (5, _) | (6, _) => rfl
  | (7, _) =>
    simp only [xdv, xcat]
    split <;> rfl
  | (n + 8, _) => rfl
theorem xk0 {v : xV} (h : xkdb 0 v = true) {b : Nat} {ρ : Nat → Int32} {sa : Nat → Nat} : xdv b ρ sa v = .int (xdi ρ v) := by
  match v, h with
  | (0, _), _ => rfl
  | (3, _), _ => rfl
  | (1, _), h | (2, _), h => cases h
  | (n + 4, _), h => cases h
theorem xk1 {v : xV} (h : xkdb 1 v = true) {b : Nat} {ρ : Nat → Int32} {sa : Nat → Nat} : xkd 1 (xdv b ρ sa v) := by
  match v, h with
  | (1, _), _ => exact Or.inr ⟨_, rfl⟩
  | (2, _), _ => exact Or.inl rfl
  | (5, _), _ => exact Or.inr ⟨_, rfl⟩
  | (6, _), _ => exact Or.inr ⟨_, rfl⟩
  | (7, _), _ =>
    simp only [xdv]
    split
    · exact Or.inl rfl
    · exact Or.inr ⟨_, rfl⟩
  | (0, _), h | (3, _), h | (4, _), h => cases h
  | (n + 8, _), h => cases h
theorem xk2 {v : xV} (h : xkdb 2 v = true) {b : Nat} {ρ : Nat → Int32} {sa : Nat → Nat} : xdv b ρ sa v = .long (lN v.2) := by
  match v, h with
  | (4, _), _ => rfl
  | (0, _), h | (1, _), h | (2, _), h | (3, _), h => cases h
  | (n + 5, _), h => cases h
theorem xkk {k : Nat} (hk : k < 3) {v : xV} (h : xkdb k v = true) {b : Nat} {ρ : Nat → Int32} {sa : Nat → Nat} : xkd k (xdv b ρ sa v) := by
  match k, hk, h with
  | 0, _, h => exact ⟨_, xk0 h⟩
  | 1, _, h => exact xk1 h
  | 2, _, h => exact ⟨_, xk2 h⟩
def xflb (k i : Nat) (q : Nat × xV) : Bool := match k with
  | 2 => !(Nat.beq q.1 i) && (!(Nat.beq q.1 (i + 1)) && !(Nat.beq (q.1 + 1) i && Nat.beq (xcat q.2) 2))
  | _ => !(Nat.beq q.1 i) && !(Nat.beq (q.1 + 1) i && Nat.beq (xcat q.2) 2)
theorem xbeq (a b : Nat) : (a == b) = Nat.beq a b := by
  rw [Bool.eq_iff_iff]
  simp
def xdL (b : Nat) (ρ : Nat → Int32) (sa : Nat → Nat) (lv : xL) : List (Nat × Value) := lv.map (fun q => (q.1, xdv b ρ sa q.2))
theorem xflb_ok {b : Nat} {ρ : Nat → Int32} {sa : Nat → Nat} (k i : Nat) (lv : xL) : (xdL b ρ sa lv).filter (xfl k i) = xdL b ρ sa (lv.filter (xflb k i)) := by
  unfold xdL
  rw [List.filter_map]
  congr 1
  apply List.filter_congr
  intro q _
  show xfl k i (q.1, xdv b ρ sa q.2) = xflb k i q
  match k with
  | 0 | 1 => simp only [xfl, xflb, xbeq, xcat_ok]
  | 2 => simp only [xfl, xflb, xbeq, xcat_ok]
  | n + 3 => simp only [xfl, xflb, xbeq, xcat_ok]
def xeqd (d t : Nat × xV × xV) : Bool := Nat.beq d.1 t.1 && (Nat.beq d.2.1.1 t.2.1.1 && (Nat.beq d.2.1.2 t.2.1.2 && (Nat.beq d.2.2.1 t.2.2.1 && Nat.beq d.2.2.2 t.2.2.2)))
def xidx : xD → Nat × xV × xV → Nat → Option Nat
  | [], _, _ => none
  | d :: r, t, k => if xeqd d t then some k else xidx r t (k + 1)
def xfd (ρ : Nat → Int32) (o : Nat) (x y : xV) : Int32 := if o = 11 then (xdi ρ x).toInt8.toInt32 else fbin o (xdi ρ x) (xdi ρ y)
def xdok (ρ : Nat → Int32) (ds : xD) : Prop := ∀ (k o : Nat) (x y : xV), ds[k]? = some (o, x, y) → o < 90 → ρ k = xfd ρ o x y
theorem xidx_ok : ∀ {ds : xD} {t : Nat × xV × xV} {j k : Nat}, xidx ds t j = some k → ∃ i, k = j + i ∧ ds[i]? = some t
  | d :: r, t, j, k, h => by
    simp only [xidx] at h
    split at h
    · next he =>
      cases h
      simp only [xeqd, Bool.and_eq_true, Nat.beq_eq] at he
      refine ⟨0, rfl, ?_⟩
      obtain ⟨a, ⟨b1, b2⟩, c1, c2⟩ := d
      obtain ⟨a', ⟨b1', b2'⟩, c1', c2'⟩ := t
      simp only at he
      obtain ⟨rfl, rfl, rfl, rfl, rfl⟩ := he
      rfl
    · obtain ⟨i, h1, h2⟩ := xidx_ok h
      exact ⟨i + 1, by omega, by simpa using h2⟩
def xall {α : Type} : List α → (α → Option (List xR)) → Option (List xR)
  | [], _ => some []
  | a :: r, f => xadd (f a) (xall r f)
theorem xall_ok {α : Type} {f : α → Option (List xR)} : ∀ {l : List α} {L : List xR}, xall l f = some L → ∀ a ∈ l, ∃ x, f a = some x ∧ ∀ q ∈ x, q ∈ L
  | a0 :: r, L, h, a, ha => by
    simp only [xall] at h
    cases h1 : f a0 with
    | none => rw [h1] at h; cases h
    | some x1 =>
      cases h2 : xall r f with
      | none => rw [h1, h2] at h; cases h
      | some x2 =>
        rw [h1, h2] at h
        cases h
        rcases List.mem_cons.mp ha with rfl | ha
        · exact ⟨x1, h1, fun q hq => List.mem_append_left _ hq⟩
        · obtain ⟨x, hx, hq⟩ := xall_ok h2 a ha
          exact ⟨x, hx, fun q h => List.mem_append_right _ (hq q h)⟩
abbrev xRec : Type := Nat → xL → List xV → xH → Nat → Nat → xK → Option (List xR)
abbrev xCal : Type := xM → List xV → xH → xK → Option (List xR)
/-- a switch, case by case -/
def xsw (x : xV) (kd : xK → Option (List xR)) (kc : Nat → xK → Option (List xR)) : List (Nat × Nat) → xK → Option (List xR)
  | [], κ => kd κ
  | q :: r, κ => xfork κ 0 x (0, q.1) (kc q.2) (xsw x kd kc r)
theorem xsw_ok {ρ : Nat → Int32} {x : xV} {kd : xK → Option (List xR)} {kc : Nat → xK → Option (List xR)} : ∀ {cs : List (Nat × Nat)} {κ : xK} {Ls : List xR}, xKok ρ κ → xsw x kd kc cs κ = some Ls →
    (∃ q ∈ cs, xdi ρ x = nI q.1 ∧ ∃ κ' L, kc q.2 κ' = some L ∧ xKok ρ κ' ∧ ∀ z ∈ L, z ∈ Ls) ∨ ((∀ q ∈ cs, ¬ xdi ρ x = nI q.1) ∧ ∃ κ' L, kd κ' = some L ∧ xKok ρ κ' ∧ ∀ z ∈ L, z ∈ Ls)
  | [], κ, Ls, hκ, h => Or.inr ⟨fun q hq => (by cases hq), κ, Ls, h, hκ, fun _ z => z⟩
  | q :: r, κ, Ls, hκ, h => by
    simp only [xsw] at h
    obtain ⟨h1, h2⟩ := xfork_ok hκ h
    by_cases hc : xdi ρ x = nI q.1
    · exact Or.inl ⟨q, List.mem_cons_self, hc, h1 hc⟩
    · obtain ⟨κ', L, h3, h4, h5⟩ := h2 hc
      rcases xsw_ok h4 h3 with ⟨q', hq, e, κ2, L2, g1, g2, g3⟩ | ⟨hn, κ2, L2, g1, g2, g3⟩
      · exact Or.inl ⟨q', List.mem_cons_of_mem _ hq, e, κ2, L2, g1, g2, fun z hz => h5 z (g3 z hz)⟩
      · refine Or.inr ⟨fun q' hq => ?_, κ2, L2, g1, g2, fun z hz => h5 z (g3 z hz)⟩
        rcases List.mem_cons.mp hq with rfl | hq
        · exact hc
        · exact hn q' hq
/-- may a field of this type hold it: 0 int, 2 long, 3 boolean, 4 a reference -/
def xfit (t : Nat) (v : xV) : Bool := match t with
  | 0 => xkdb 0 v
  | 2 => xkdb 2 v
  | 3 => Nat.beq v.1 0 && Nat.ble v.2 1
  | 4 => xkdb 1 v
  | _ => false
def xtc (ty : FieldType) : Nat := match ty with
  | .int => 0
  | .long => 2
  | .boolean => 3
  | .object _ => 4
  | .array _ => 4
  | _ => 9
theorem xfit_ok {ty : FieldType} {v : xV} (h : xfit (xtc ty) v = true) {b : Nat} {ρ : Nat → Int32} {sa : Nat → Nat} : narrow ty (xdv b ρ sa v) = xdv b ρ sa v ∧ fits ty (xdv b ρ sa v) = true := by
  cases ty with
  | int => rw [xk0 h]; exact ⟨rfl, rfl⟩
  | long => rw [xk2 h]; exact ⟨rfl, rfl⟩
  | boolean =>
    simp only [xtc, xfit, Bool.and_eq_true, Nat.beq_eq, Nat.ble_eq] at h
    obtain ⟨t, n⟩ := v
    obtain ⟨rfl, h2⟩ := h
    dsimp only at h2
    rcases (show n = 0 ∨ n = 1 by omega) with rfl | rfl
    · show narrow .boolean (.int (nI 0)) = .int (nI 0) ∧ fits .boolean (.int (nI 0)) = true
      decide +kernel
    · show narrow .boolean (.int (nI 1)) = .int (nI 1) ∧ fits .boolean (.int (nI 1)) = true
      decide +kernel
  | object C =>
    rcases xk1 h (b := b) (ρ := ρ) (sa := sa) with e | ⟨a, e⟩ <;> rw [e] <;> exact ⟨rfl, rfl⟩
  | array t =>
    rcases xk1 h (b := b) (ρ := ρ) (sa := sa) with e | ⟨a, e⟩ <;> rw [e] <;> exact ⟨rfl, rfl⟩
  | _ => cases h
/-- may an array of this type take it -/
def xwok (ds : xD) (t : Nat) (v : xV) : Bool := match t with
  | 0 => xkdb 0 v
  | 1 => match v with
    | (3, k) => match ds[k]? with
      | some d => Nat.beq d.1 11
      | none => false
    | _ => false
  | 3 => Nat.beq v.1 0 && Nat.ble v.2 1
  | _ => false
theorem xnarb {n : Nat} (h : n ≤ 1) : vp_nar .boolean (nI n) = nI n := by
  rcases (show n = 0 ∨ n = 1 by omega) with rfl | rfl <;> decide +kernel
theorem xwok_ok {ρ : Nat → Int32} {ds : xD} (hds : xdok ρ ds) {t : Nat} {v : xV} (h : xwok ds t v = true) : (t = 0 ∨ t = 1 ∨ t = 3) ∧ xkdb 0 v = true ∧ vp_nar (xty t) (xdi ρ v) = xdi ρ v := by
  match t, h with
  | 0, h => exact ⟨Or.inl rfl, h, rfl⟩
  | 1, h =>
    match v, h with
    | (3, k), h =>
      simp only [xwok] at h
      cases hk : ds[k]? with
      | none => rw [hk] at h; cases h
      | some q =>
        obtain ⟨o, x, y⟩ := q
        rw [hk] at h
        have ho : o = 11 := Nat.eq_of_beq_eq_true h
        subst ho
        have hd := hds _ _ _ _ hk (by omega)
        rw [xfd, if_pos rfl] at hd
        refine ⟨Or.inr (Or.inl rfl), rfl, ?_⟩
        show vp_nar .byte (ρ k) = ρ k
        rw [hd]
        exact pk_vb _
    | (0, _), h | (1, _), h | (2, _), h => cases h
    | (n + 4, _), h => cases h
  | 3, h =>
    simp only [xwok, Bool.and_eq_true, Nat.beq_eq, Nat.ble_eq] at h
    obtain ⟨v1, v2⟩ := v
    obtain ⟨hv1, hv2⟩ := h
    dsimp only at hv1 hv2
    subst hv1
    exact ⟨Or.inr (Or.inr rfl), rfl, xnarb hv2⟩
  | 2, h => cases h
  | n + 4, h => cases h
def xlb (o x y : Nat) : Option Nat := match o with
  | 3 => some (Nat.land x y)
  | 5 => some (Nat.xor x y)
  | _ => none
def flb (o : Nat) (x y : Int64) : Int64 := match o with
  | 3 => x &&& y
  | 5 => x ^^^ y
  | _ => 0
theorem xlb_ok {o x y z : Nat} (h : xlb o x y = some z) : flb o (lN x) (lN y) = lN z := by
  match o, h with
  | 3, h =>
    cases h
    apply Int64.toBitVec_inj.mp
    show BitVec.ofNat 64 x &&& BitVec.ofNat 64 y = BitVec.ofNat 64 (x &&& y)
    apply BitVec.eq_of_toNat_eq
    simp [Nat.and_mod_two_pow]
  | 5, h =>
    cases h
    apply Int64.toBitVec_inj.mp
    show BitVec.ofNat 64 x ^^^ BitVec.ofNat 64 y = BitVec.ofNat 64 (x ^^^ y)
    apply BitVec.eq_of_toNat_eq
    simp [Nat.xor_mod_two_pow]
def xsum : List xV → Nat
  | [] => 0
  | v :: r => xcat v + xsum r
theorem xsum_ok {b : Nat} {ρ : Nat → Int32} {sa : Nat → Nat} : ∀ st : List xV, ((st.map (xdv b ρ sa)).map fun v => v.category).sum = xsum st
  | [] => rfl
  | v :: r => by
    simp only [List.map_cons, List.sum_cons, xsum, xcat_ok]
    rw [xsum_ok r]
def xargs : Nat → List xV → xL
  | _, [] => []
  | i, v :: r => (i, v) :: xargs (i + xcat v) r
theorem xargs_ok {b : Nat} {ρ : Nat → Int32} {sa : Nat → Nat} : ∀ (vs : List xV) (i : Nat), lv_args i (vs.map (xdv b ρ sa)) = xdL b ρ sa (xargs i vs)
  | [], _ => rfl
  | v :: r, i => by
    simp only [List.map_cons, lv_args, xargs, xdL]
    rw [xcat_ok]
    congr 1
    have e : (if xcat v = 2 then i + 2 else i + 1) = i + xcat v := by
      match v with
      | (0, _) | (1, _) | (2, _) | (3, _) | (4, _) | (5, _) | (6, _) | (7, _) => rfl
      | (n + 8, _) => rfl
    rw [e]
    exact xargs_ok r (i + xcat v)
theorem xlen_ok {b : Nat} {ρ : Nat → Int32} {sa : Nat → Nat} : ∀ vs : List xV, (lg_sl (vs.map (xdv b ρ sa))).length = xsum vs
  | [] => rfl
  | v :: r => by
    have ih := xlen_ok (b := b) (ρ := ρ) (sa := sa) r
    simp only [lg_sl, List.map_cons, List.flatMap_cons, List.length_append, xsum] at ih ⊢
    rw [ih, xcat_ok]
    match v with
    | (0, _) | (1, _) | (2, _) | (3, _) | (4, _) | (5, _) | (6, _) | (7, _) => rfl
    | (n + 8, _) => rfl
/-- a room that holds what a callee asks -/
def xroom (R : Room) (M' : xM) (ce sl : Nat) : Bool := Nat.ble ((xMm M').frames + 1) R.frames && (Nat.ble (8 + (xMl M' + 11) + (xMm M').locals) R.locals && (Nat.ble (ce + (xMm M').cells) R.cells && Nat.ble (sl + (xMm M').slots) R.slots))
def xput (st : List xV) (r : Option xV) : List xV := match r with
  | some v => v :: st
  | none => st
def xh_call (mt : List xM) (M : xM) (rec : xRec) (call : xCal) (n0 nx mi : Nat) (lv : xL) (st : List xV) (K : xH) (ce sl : Nat) (κ : xK) : Option (List xR) := match mt[mi]? with
  | none => none
  | some M' =>
    if Nat.ble (xMn M' + n0) st.length && (xroom (xMm M) M' ce sl && (Nat.ble (xsum (st.drop (xMn M' + n0))) 8 && Nat.ble (xsum (st.take (xMn M' + n0))) (xMl M'))) then
      match call M' (st.take (xMn M' + n0)).reverse K κ with
      | none => none
      | some L => xall L (fun lf => rec nx lv (xput (st.drop (xMn M' + n0)) lf.2.1) lf.2.2 (ce + (xMm M').cells) (sl + (xMm M').slots) lf.1)
    else none
/-- the script's length, where it is told -/
def xSc (ds : xD) : Option Nat := match ds with
  | (98, (0, L), _) :: _ => some L
  | _ => none
def xob (K : xH) (i ci : Nat) : Option (List xV) := match K[i]? with
  | some (.inr (c, fs)) => if Nat.beq c ci then some fs else none
  | _ => none
def xfr (fs : List xV) (k : Nat) : Option Nat := match fs[k]? with
  | some (1, h) => some h
  | _ => none
/-- the object at i has no voices -/
def xlkb (K : xH) (i : Nat) : Bool := match xob K i 11 with
  | some fs => match xfr fs 1 with
    | some h => match xob K h 4 with
      | some gs => match xfr gs 1 with
        | some v => match xob K v 6 with
          | some rs => match rs[1]? with
            | some (0, 0) => true
            | _ => false
          | none => false
        | none => false
      | none => false
    | none => false
  | none => false
noncomputable def xnth (l : List xV) : Nat → Option xV := List.rec (motive := fun _ => Nat → Option xV) (fun _ => none) (fun a _ ih n => Nat.rec (motive := fun _ => Option xV) (some a) (fun k _ => ih k) n) l
theorem xnth_ok : ∀ (l : List xV) (n : Nat), xnth l n = l[n]?
  | [], _ => rfl
  | _ :: _, 0 => rfl
  | a :: r, n + 1 => by
    show xnth r n = (a :: r)[n + 1]?
    rw [xnth_ok r n, List.getElem?_cons_succ]
def xeqv (w v : xV) : Bool := Nat.beq w.1 v.1 && Nat.beq w.2 v.2
theorem xeqv_ok {w v : xV} (h : xeqv w v = true) : w = v := by
  simp only [xeqv, Bool.and_eq_true, Nat.beq_eq] at h
  obtain ⟨a, b⟩ := w
  obtain ⟨c, d⟩ := v
  obtain ⟨h1, h2⟩ := h
  dsimp only at h1 h2
  rw [h1, h2]
theorem xset_id {α : Type} {l : List α} {n : Nat} {v : α} (h : l[n]? = some v) : l.set n v = l := by
  apply List.ext_getElem?
  intro j
  by_cases e : n = j
  · subst e
    rw [List.getElem?_set_self (List.getElem?_eq_some_iff.mp h).1, h]
  · rw [List.getElem?_set_ne e]
theorem xset_same {K : xH} {i t n : Nat} {vs : List xV} {v : xV} (hK : K[i]? = some (.inl (t, vs))) (hv : vs[n]? = some v) : K.set i (.inl (t, vs.set n v)) = K := by
  rw [xset_id hv]
  exact xset_id hK
/-- the first n of a list are zeros -/
noncomputable def xzs (n : Nat) : List xV → Bool := Nat.rec (motive := fun _ => List xV → Bool) (fun _ => true) (fun _ ih l => List.rec (motive := fun _ => Bool) false (fun a r _ => xeqv a (0, 0) && ih r) l) n
theorem xzs_ok : ∀ {n : Nat} {l : List xV}, xzs n l = true → ∀ i, i < n → l[i]? = some (0, 0)
  | 0, _, _, i, hi => absurd hi (Nat.not_lt_zero i)
  | n + 1, [], h, _, _ => by
    change false = true at h
    cases h
  | n + 1, a :: r, h, i, hi => by
    change (xeqv a (0, 0) && xzs n r) = true at h
    rw [Bool.and_eq_true] at h
    cases i with
    | zero =>
      rw [xeqv_ok h.1]
      rfl
    | succ i =>
      rw [List.getElem?_cons_succ]
      exact xzs_ok h.2 i (by omega)
noncomputable def xzf (K : xH) (fs : List xV) (k n : Nat) : Bool := match xfr fs k with
  | some a => match K[a]? with
    | some (.inl (0, vs)) => xzs n vs
    | _ => false
  | none => false
theorem xfr_ok {fs : List xV} {k h : Nat} (hh : xfr fs k = some h) : fs[k]? = some (1, h) := by
  simp only [xfr] at hh
  split at hh
  · next q hk =>
    cases hh
    exact hk
  · cases hh
theorem xob_ok {K : xH} {i ci : Nat} {fs : List xV} (h : xob K i ci = some fs) : K[i]? = some (.inr (ci, fs)) := by
  simp only [xob] at h
  split at h
  · next c gs hk =>
    split at h
    · next he =>
      rw [Nat.beq_eq] at he
      cases h
      rw [hk, he]
    · cases h
  · cases h
theorem xzf_ok {K : xH} {fs : List xV} {k n : Nat} (h : xzf K fs k n = true) : ∃ (a : Nat) (vs : List xV), fs[k]? = some (1, a) ∧ K[a]? = some (.inl (0, vs)) ∧ ∀ i, i < n → vs[i]? = some (0, 0) := by
  simp only [xzf] at h
  split at h
  · next a ha =>
    split at h
    · next vs hk => exact ⟨a, vs, xfr_ok ha, hk, xzs_ok h⟩
    · cases h
  · cases h
def xin0 (iv : List (Nat × Nat)) (k : Nat) : Bool := match iv[k]? with
  | some q => Nat.ble 2147483648 q.1 && Nat.blt q.2 2147484648
  | none => false
theorem xin0_ok {ρ : Nat → Int32} {κ : xK} (hκ : xKok ρ κ) {k : Nat} (h : xin0 κ.2 k = true) : ∃ n, n < 1000 ∧ ρ k = nI n := by
  simp only [xin0] at h
  split at h
  · next q hq =>
    obtain ⟨lo, hi⟩ := q
    simp only [Bool.and_eq_true, Nat.ble_eq, Nat.blt_eq] at h
    obtain ⟨h1, h2⟩ := hκ.2 k lo hi hq
    refine ⟨sgI (ρ k) - 2147483648, by omega, ?_⟩
    have e := sgI_eq (x := ρ k) (n := sgI (ρ k)) (sgI_lt _) rfl
    have e2 : xsg (sgI (ρ k)) = sgI (ρ k) - 2147483648 := by
      simp only [xsg]
      omega
    rw [e2] at e
    exact e
  · cases h
def xlv3 (lv : xL) : Option (Nat × Nat) := match lv with
  | [(2, (0, 0)), (0, (1, o)), (1, (3, k))] => some (o, k)
  | _ => none
theorem xlv3_ok {lv : xL} {o k : Nat} (h : xlv3 lv = some (o, k)) : lv = [(2, (0, 0)), (0, (1, o)), (1, (3, k))] := by
  unfold xlv3 at h
  split at h
  · cases h
    rfl
  · cases h
def xnl0 (st : List xV) : Bool := match st with
  | [] => true
  | _ => false
theorem xnl0_ok {st : List xV} (h : xnl0 st = true) : st = [] := by
  cases st with
  | nil => rfl
  | cons a r => cases h
/-- the loop that clears the cells 0 to x of two arrays -/
def xlops : List (Nat × xOp) := [(6, (2, 7, 0, 2, [])), (7, (2, 8, 0, 1, [])), (8, (13, 11, 53, 4, [])), (11, (2, 12, 1, 0, [])), (12, (16, 15, 12, 53, [])), (15, (0, 18, 1000, 0, [])), (18, (2, 19, 1, 0, [])), (19, (16, 22, 12, 3, [])), (22, (0, 23, 2, 0, [])), (23, (19, 24, 0, 0, [])), (24, (5, 25, 2, 0, [])), (25, (2, 26, 0, 2, [])), (26, (5, 27, 0, 0, [])), (27, (0, 28, 0, 0, [])), (28, (21, 29, 0, 0, [])), (29, (2, 30, 1, 0, [])), (30, (16, 33, 12, 54, [])), (33, (0, 36, 1000, 0, [])), (36, (2, 37, 1, 0, [])), (37, (16, 40, 12, 3, [])), (40, (0, 41, 2, 0, [])), (41, (19, 42, 0, 0, [])), (42, (5, 43, 2, 0, [])), (43, (2, 44, 0, 2, [])), (44, (5, 45, 0, 0, [])), (45, (0, 46, 0, 0, [])), (46, (21, 47, 0, 0, [])), (47, (4, 50, 2, 1, [])), (50, (14, 6, 0, 0, []))]
noncomputable def xstep (mt : List xM) (ds : xD) (al : Bool) (M : xM) (rec : xRec) (call : xCal) (op : xOp) (lv : xL) (st : List xV) (K : xH) (ce sl : Nat) (κ : xK) : Option (List xR) := match op.1 with
  | 0 => rec op.2.1 lv ((0, op.2.2.1) :: st) K ce sl κ
  | 1 => rec op.2.1 lv ((4, op.2.2.1) :: st) K ce sl κ
  | 2 => match xlk lv op.2.2.2.1 with
    | none => none
    | some v => if xkdb op.2.2.1 v then rec op.2.1 lv (xnm κ.2 v :: st) K ce sl κ else none
  | 3 => match st with
    | [] => none
    | v :: st' => if xkdb op.2.2.1 v && Nat.blt (op.2.2.2.1 + xwd op.2.2.1) (xMl M) then rec op.2.1 ((op.2.2.2.1, v) :: lv.filter (xflb op.2.2.1 op.2.2.2.1)) st' K ce sl κ else none
  | 4 => match xlk lv op.2.2.1 with
    | some (0, x) => if Nat.blt op.2.2.1 (xMl M) then rec op.2.1 ((op.2.2.1, (0, (x + op.2.2.2.1) % 4294967296)) :: lv.filter (xflb 0 op.2.2.1)) st K ce sl κ else none
    | _ => none
  | 5 => match st with
    | y :: x :: st' => match xnm κ.2 y, xnm κ.2 x with
      | (0, y'), (0, x') => match xbin op.2.2.1 x' y' with
        | none => none
        | some z => rec op.2.1 lv ((0, z) :: st') K ce sl κ
      | y', x' => if xkdb 0 y' && (xkdb 0 x' && Nat.blt op.2.2.1 9) then
          match xidx ds (op.2.2.1, x', y') 0 with
          | none => none
          | some k => rec op.2.1 lv ((3, k) :: st') K ce sl κ
        else none
    | _ => none
  | 6 => match st with
    | x :: st' => if xkdb 0 x then
        match xidx ds (11, x, (0, 0)) 0 with
        | none => none
        | some k => rec op.2.1 lv ((3, k) :: st') K ce sl κ
      else none
    | _ => none
  | 7 => match st with
    | (4, y) :: (4, x) :: st' => match xlb op.2.2.1 x y with
      | none => none
      | some z => rec op.2.1 lv ((4, z) :: st') K ce sl κ
    | _ => none
  | 8 => match st with
    | (4, y) :: (4, x) :: st' => if Nat.beq x y || (Nat.blt x 9223372036854775808 && Nat.blt y 9223372036854775808) then
        rec op.2.1 lv ((0, if Nat.blt y x then 1 else if Nat.beq x y then 0 else 4294967295) :: st') K ce sl κ
      else none
    | _ => none
  | 9 => match st with
    | v :: st' => if Nat.beq (xcat v) 1 then rec op.2.1 lv (v :: v :: st') K ce sl κ else none
    | _ => none
  | 10 => match st with
    | v :: st' => if Nat.beq (xcat v) 1 then rec op.2.1 lv st' K ce sl κ else none
    | _ => none
  | 11 => match st with
    | v :: w :: st' => if Nat.beq (xcat v) 1 && Nat.beq (xcat w) 1 then rec op.2.1 lv (v :: w :: v :: w :: st') K ce sl κ else none
    | _ => none
  | 12 => match st with
    | x :: st' => if xkdb 0 x then xfork κ op.2.2.2.1 x (0, 0) (fun κ' => rec op.2.2.1 lv st' K ce sl κ') (fun κ' => rec op.2.1 lv st' K ce sl κ') else none
    | _ => none
  | 13 => match st with
    | y :: x :: st' => if xkdb 0 x && xkdb 0 y then xfork κ op.2.2.2.1 x y (fun κ' => rec op.2.2.1 lv st' K ce sl κ') (fun κ' => rec op.2.1 lv st' K ce sl κ') else none
    | _ => none
  | 14 => rec op.2.1 lv st K ce sl κ
  | 15 => match st with
    | x :: st' => if xkdb 0 x then xsw x (fun κ' => rec op.2.2.1 lv st' K ce sl κ') (fun t κ' => rec t lv st' K ce sl κ') op.2.2.2.2 κ else none
    | _ => none
  | 16 => match st with
    | (1, i) :: st' => match K[i]? with
      | some (.inr (ci, fs)) => if Nat.beq ci op.2.2.1 then
          match fs[op.2.2.2.1]? with
          | none => none
          | some v => rec op.2.1 lv (v :: st') K ce sl κ
        else none
      | _ => none
    | _ => none
  | 17 => match st with
    | v :: (1, i) :: st' => match K[i]? with
      | some (.inr (ci, fs)) => match op.2.2.2.2 with
        | [q] => if Nat.beq ci op.2.2.1 && (xfit q.1 v && Nat.blt op.2.2.2.1 fs.length) then rec op.2.1 lv st' (K.set i (.inr (ci, fs.set op.2.2.2.1 v))) ce sl κ else none
        | _ => none
      | _ => none
    | _ => none
  | 18 => match st with
    | (1, i) :: st' => match K[i]? with
      | some (.inl (t, vs)) => if Nat.blt t 5 then rec op.2.1 lv ((0, vs.length) :: st') K ce sl κ else none
      | _ => none
    | (6, k) :: st' => if Nat.blt k 2 then rec op.2.1 lv ((0, xlen.getD k 0) :: st') K ce sl κ else none
    | _ => none
  | 19 => match st with
    | j :: (1, i) :: st' => match K[i]?, xnm κ.2 j with
      | some (.inl (t, vs)), (0, n) => if Nat.beq t op.2.2.1 && Nat.blt n 2147483648 then
          match xnth vs n with
          | none => none
          | some v => if xkdb 0 v then rec op.2.1 lv (v :: st') K ce sl κ else none
        else none
      | some (.inl (t, vs)), (3, k) => if Nat.beq t op.2.2.1 && (xin0 κ.2 k && xzs 1000 vs) then rec op.2.1 lv ((0, 0) :: st') K ce sl κ else none
      | _, _ => none
    | _ => none
  | 20 => match st with
    | j :: (1, i) :: st' => match K[i]?, xnm κ.2 j with
      | some (.inl (4, vs)), (0, n) => if Nat.blt n 2147483648 then
          match vs[n]? with
          | some (1, q) => rec op.2.1 lv ((1, q) :: st') K ce sl κ
          | _ => none
        else none
      | _, _ => none
    | _ => none
  | 21 => match st with
    | v :: j :: (1, i) :: st' => match K[i]?, xnm κ.2 j with
      | some (.inl (t, vs)), (0, n) =>
        if Nat.beq t op.2.2.1 && (Nat.blt n 2147483648 && xwok ds t v) then
          match xnth vs n with
          | none => none
          | some w => if xeqv w v then rec op.2.1 lv st' K ce sl κ else rec op.2.1 lv st' (K.set i (.inl (t, vs.set n v))) ce sl κ
        else none
      | _, _ => none
    | _ => none
  | 22 => if al && (Nat.blt ce (xMm M).cells && (Nat.ble (sl + op.2.2.2.1) (xMm M).slots && op.2.2.2.2.all (fun q => Nat.beq q.1 0 || (Nat.beq q.1 2 || Nat.beq q.1 4)))) then rec op.2.1 lv ((1, K.length) :: st) (K ++ [.inr (op.2.2.1, op.2.2.2.2)]) (ce + 1) (sl + op.2.2.2.1) κ else none
  | 23 => match st with
    | (0, n) :: st' => if al && (Nat.blt ce (xMm M).cells && (Nat.ble (sl + n) (xMm M).slots && Nat.blt n 67108864)) then rec op.2.1 lv ((1, K.length) :: st') (K ++ [.inl (op.2.2.1, List.replicate n (xzero op.2.2.1))]) (ce + 1) (sl + n) κ else none
    | _ => none
  | 24 => match st with
    | (0, k) :: (0, n) :: st' => if al && (Nat.ble (ce + (1 + n)) (xMm M).cells && (Nat.ble (sl + (n + n * k)) (xMm M).slots && (Nat.ble n 1000 && Nat.ble k 1000))) then
        rec op.2.1 lv ((1, K.length) :: st') (K ++ (.inl (4, (List.range n).map (fun i => (1, K.length + 1 + i))) :: List.replicate n (.inl (0, List.replicate k (0, 0))))) (ce + 1 + n) (sl + n + n * k) κ
      else none
    | _ => none
  | 25 => match st with
    | (1, _) :: st' => if Nat.ble 1 (xMm M).frames && Nat.ble (xsum st' + 12) (xMm M).locals then rec op.2.1 lv st' K ce sl κ else none
    | _ => none
  | 26 => match st with
    | (0, n) :: (0, dp) :: (1, d) :: (0, sp) :: (1, s) :: st' => match K[s]?, K[d]? with
      | some (.inl (0, vs)), some (.inl (0, ws)) => if Nat.ble (sp + n) vs.length && (Nat.ble (dp + n) ws.length && (Nat.blt (sp + n) 2147483648 && (Nat.blt (dp + n) 2147483648 && (Nat.ble 1 (xMm M).frames && Nat.ble (xsum st' + (nativeFrameWords "java/lang/System" "arraycopy" 5 + 11)) (xMm M).locals)))) then
          rec op.2.1 lv st' (K.set d (.inl (0, ws.take dp ++ ((vs.drop sp).take n ++ ws.drop (dp + n))))) ce sl κ
        else none
      | _, _ => none
    | _ => none
  | 27 => xh_call mt M rec call 0 op.2.1 op.2.2.1 lv st K ce sl κ
  | 28 => match mt[op.2.2.1]? with
    | none => none
    | some M' => match st.drop (xMn M') with
      | (1, i) :: _ => match K[i]? with
        | some (.inr (ci, _)) => if Nat.beq ci op.2.2.2.1 then xh_call mt M rec call 1 op.2.1 op.2.2.1 lv st K ce sl κ else none
        | _ => none
      | _ => none
  | 29 => match mt[op.2.2.1]? with
    | none => none
    | some M' => match st.drop (xMn M') with
      | (1, _) :: _ => xh_call mt M rec call 1 op.2.1 op.2.2.1 lv st K ce sl κ
      | _ => none
  | 30 => match st with
    | [v] => if xfit op.2.2.2.1 v && (Nat.ble ce (xMm M).cells && Nat.ble sl (xMm M).slots) then some [(κ, some (xnm κ.2 v), K)] else none
    | _ => none
  | 31 => match st with
    | [v] => if xkdb 2 v && (Nat.ble ce (xMm M).cells && Nat.ble sl (xMm M).slots) then some [(κ, some v, K)] else none
    | _ => none
  | 32 => match st with
    | [] => if Nat.ble ce (xMm M).cells && Nat.ble sl (xMm M).slots then some [(κ, none, K)] else none
    | _ => none
  | 33 => rec op.2.1 lv ((5, op.2.2.1) :: st) K ce sl κ
  | 34 => rec op.2.1 lv ((0, 1) :: st) K ce sl κ
  | 35 => match st with
    | (5, k) :: st' => if Nat.blt k 2 then rec op.2.1 lv ((if Nat.beq op.2.2.1 0 then (6, k) else (0, 0)) :: st') K ce sl κ else none
    | _ => none
  | 36 => match st with
    | y :: x :: st' => match xnm κ.2 y, xnm κ.2 x with
      | (0, y'), (0, x') => if Nat.blt y' 4294967296 && (Nat.blt x' 4294967296 && (Nat.ble 1 (xMm M).frames && (Nat.ble (xsum st' + 13) (xMm M).locals && (Nat.ble ce (xMm M).cells && Nat.ble sl (xMm M).slots)))) then
          rec op.2.1 lv ((0, if xcb 2 y' x' then y' else x') :: st') K ce sl κ
        else none
      | _, _ => none
    | _ => none
  | 37 => match st with
    | j :: (6, k) :: st' => match xnm κ.2 j with
      | (0, n) => if Nat.blt k 2 && (Nat.blt n (xlen.getD k 0) && Nat.blt n 2147483648) then rec op.2.1 lv ((0, (xbyt.getD k []).getD n 0) :: st') K ce sl κ else none
      | _ => none
    | _ => none
  | 38 => match st with
    | (0, n) :: st' => if Nat.blt n 65536 then rec op.2.1 lv ((0, n) :: st') K ce sl κ else none
    | _ => none
  | 39 => match mt[op.2.2.1]? with
    | none => none
    | some M' => match st.drop (xMn M') with
      | (5, k) :: _ => if Nat.blt k 2 then xh_call mt M rec call 1 op.2.1 op.2.2.1 lv st K ce sl κ else none
      | _ => none
  | 40 => match st with
    | [(0, n)] => if Nat.blt n (if Nat.beq op.2.2.2.1 5 then 65536 else 128) && (Nat.ble ce (xMm M).cells && Nat.ble sl (xMm M).slots) then some [(κ, some (0, n), K)] else none
    | _ => none
  | 41 => rec op.2.1 lv ((7, 0) :: st) K ce sl κ
  | 42 => match st with
    | (5, 50) :: st' => match xSc ds with
      | some L => rec op.2.1 lv ((0, L) :: st') K ce sl κ
      | none => none
    | _ => none
  | 43 => match st with
    | j :: (5, 50) :: st' => match xSc ds, xnm κ.2 j with
      | some L, (0, n) => if Nat.blt n L && Nat.blt L 2147483648 then rec op.2.1 lv (xnm κ.2 (3, n + 1) :: st') K ce sl κ else none
      | _, _ => none
    | _ => none
  | 44 => match xlv3 lv with
    | some q => match xob K q.1 12 with
      | some fs => if xnl0 st && (xin0 κ.2 q.2 && (Nat.blt 2 (xMl M) && (xzf K fs 53 1000 && (xzf K fs 54 1000 && (xzf K fs 3 3 && xlops.all (fun z => decide (z ∈ xMk M))))))) then rec 53 [(0, (1, q.1)), (1, (3, q.2))] st K ce sl κ else none
      | none => none
    | none => none
  | 50 => match st with
    | (1, o) :: y :: x :: (1, i) :: st' => if xkdb 0 x && (xkdb 0 y && (xlkb K i && (Nat.ble (xsum st') 8 && (Nat.ble (ce + 1) (xMm M).cells && (Nat.ble (sl + 20) (xMm M).slots && (Nat.ble 40 (xMm M).frames && Nat.ble 800 (xMm M).locals)))))) && !al then rec op.2.1 lv ((0, 1) :: st') K (ce + 1) (sl + 20) κ else none
    | _ => none
  | _ => none
noncomputable def xgo (mt : List xM) (ds : xD) (al : Bool) (ih : xM → xRec) (M : xM) : xRec := fun pc lv st K ce sl κ => match xfind (xMk M) pc with
  | none => none
  | some op => xstep mt ds al M (ih M) (fun M' avs K' κ' => ih M' 0 (xargs 0 avs) [] K' 0 0 κ') op lv st K ce sl κ
noncomputable def xe (mt : List xM) (ds : xD) (al : Bool) (n : Nat) : xM → xRec := Nat.rec (fun _ _ _ _ _ _ _ _ => none) (fun _ ih M => xgo mt ds al ih M) n
theorem xe_succ (mt : List xM) (ds : xD) (al : Bool) (n : Nat) (M : xM) : xe mt ds al (n + 1) M = xgo mt ds al (xe mt ds al n) M := rfl
end
section
/-! SOUNDNESS: what the run says, the machine does -/
def xtys (dA : Nat → ClassId) : List (ClassId × FieldType) := [(dA 0, .int), (dA 1, .byte), (dA 2, .long), (dA 3, .boolean), (dA 4, .array .int)]
theorem xtys_get {dA : Nat → ClassId} : ∀ {t : Nat}, t < 5 → (xtys dA)[t]? = some (dA t, xty t)
  | 0, _ | 1, _ | 2, _ | 3, _ | 4, _ => rfl
  | n + 5, h => absurd h (by omega)
def xcS (M : xM) (pc : Nat) (M' : xM) : Prop := ∃ ix, decode (xMc M) pc = .ok (.invokestatic ix, 3) ∧ Cond.methodLink (xMo M) ix (xMy M') ∈ xgt ∧ Cond.static (xMy M') ∈ xgt
def xcV (M : xM) (pc : Nat) (M' : xM) : Prop := ∃ ix, decode (xMc M) pc = .ok (.invokevirtual ix, 3) ∧ Cond.methodLink (xMo M) ix (xMy M') ∈ xgt ∧ Cond.instanceMethod (xMy M') ∈ xgt ∧ Cond.selects (xMy M').cls (xMy M') (xMy M') ∈ xgt
def xcI (M : xM) (pc : Nat) (M' : xM) : Prop := ∃ ix, decode (xMc M) pc = .ok (.invokespecial ix, 3) ∧ (xMy M').name = "<init>" ∧ xMr M' = none ∧ Cond.instanceMethod (xMy M') ∈ xgt ∧ (Cond.methodLink (xMo M) ix (xMy M') ∈ xgt ∨ ∃ host, Cond.methodLinkNest (xMo M) ix (xMy M') host ∈ xnw)
/-- the law's look(x, p0, p1, out) at a world whose object has no voices: it answers 1; a thing comes (what was thrown) -/
def xLk (cc : ByteArray) (own : String) (pc nx : Nat) : Prop := ∀ (p : Program) (l : Launch) (e : Env) (R : Room) (s : State) (m : MethodId) (args : Array Value) (below : List Frame) (meth : Method) (c : Code) (H : Heap) (locs : List Loc) (cells slots : Nat) (Q : State → Prop) (ls : Array Slot) (rest : List Value), xCx p s m args c cc own → l.stackTraces = false → ∀ (b : Nat) (ρ : Nat → Int32) (sa : Nat → Nat) (dA : Nat → ClassId) (D : va_G) (K : xH) (A : Nat → Prop) (i o : Nat) (x y : Int32), b ≤ s.heap.size → va_K D vwCl (xtys dA) s → xFx b sa s → c.maxLocals = ls.size → va_P D vwCl (xcx b ρ sa dA 0 K) H → va_S A s.heap H locs → (∀ q, A q → b ≤ q) → (∀ q, s.heap.size ≤ q → A q) → (∀ j, j < K.length → A (b + j)) → xlkb K i = true → (rest.map fun v => v.category).sum ≤ 8 → cells + 1 ≤ R.cells → slots + 20 ≤ R.slots → 40 ≤ R.frames → 800 ≤ R.locals →
  (∀ (H1 : Heap) (locs1 : List Loc), va_P D vwCl (xcx b ρ sa dA 0 K) H1 → va_S A s.heap H1 locs1 → W p l e R s m args below meth c H1 locs1 (cells + 1) (slots + 20) Q (F0 m nx ls (.int (nI 1) :: rest))) → W p l e R s m args below meth c H locs cells slots Q (F0 m pc ls (.ref (b + o) :: .int y :: .int x :: .ref (b + i) :: rest))
def xok (mt : List xM) (M : xM) (pc : Nat) (op : xOp) : Prop := match op.1 with
  | 0 => xT (xMc M) (xMo M) pc op.2.1 [] [.int (nI op.2.2.1)]
  | 1 => xT (xMc M) (xMo M) pc op.2.1 [] [.long (lN op.2.2.1)]
  | 2 => op.2.2.1 < 3 ∧ xLd (xMc M) (xMo M) pc op.2.1 op.2.2.1 op.2.2.2.1
  | 3 => op.2.2.1 < 3 ∧ xSt (xMc M) (xMo M) pc op.2.1 op.2.2.1 op.2.2.2.1
  | 4 => xIn (xMc M) (xMo M) pc op.2.1 op.2.2.1 op.2.2.2.1
  | 5 => ∀ x y : Int32, ((op.2.2.1 = 9 ∨ op.2.2.1 = 10) → ¬ y = 0) → xT (xMc M) (xMo M) pc op.2.1 [.int y, .int x] [.int (fbin op.2.2.1 x y)]
  | 6 => ∀ x : Int32, xT (xMc M) (xMo M) pc op.2.1 [.int x] [.int x.toInt8.toInt32]
  | 7 => ∀ x y : Int64, xT (xMc M) (xMo M) pc op.2.1 [.long y, .long x] [.long (flb op.2.2.1 x y)]
  | 8 => ∀ x y : Int64, xT (xMc M) (xMo M) pc op.2.1 [.long y, .long x] [.int (lg_cmp x y)]
  | 9 => ∀ v : Value, v.category = 1 → xT (xMc M) (xMo M) pc op.2.1 [v] [v, v]
  | 10 => ∀ v : Value, v.category = 1 → xT (xMc M) (xMo M) pc op.2.1 [v] []
  | 11 => ∀ v w : Value, v.category = 1 → w.category = 1 → xT (xMc M) (xMo M) pc op.2.1 [v, w] [v, w, v, w]
  | 12 => xB0 (xMc M) (xMo M) pc op.2.1 op.2.2.1 op.2.2.2.1
  | 13 => xB (xMc M) (xMo M) pc op.2.1 op.2.2.1 op.2.2.2.1
  | 14 => xT (xMc M) (xMo M) pc op.2.1 [] []
  | 15 => xSw (xMc M) (xMo M) pc op.2.2.1 op.2.2.2.2
  | 16 => xGf (xMc M) (xMo M) pc op.2.1 op.2.2.1 op.2.2.2.1
  | 17 => ∃ (ty : FieldType) (fin : Bool) (z : Nat), op.2.2.2.2 = [(xtc ty, z)] ∧ xPf (xMc M) (xMo M) pc op.2.1 op.2.2.1 op.2.2.2.1 ty fin ∧ (fin = true → (xMy M).name = "<init>")
  | 18 => xAl (xMc M) (xMo M) pc op.2.1 ∧ xSl (xMc M) (xMo M) pc op.2.1
  | 19 => (op.2.2.1 = 0 ∨ op.2.2.1 = 1 ∨ op.2.2.1 = 3) ∧ xRd (xMc M) (xMo M) pc op.2.1 (xty op.2.2.1)
  | 20 => xRr (xMc M) (xMo M) pc op.2.1
  | 21 => xWr (xMc M) (xMo M) pc op.2.1 (xty op.2.2.1)
  | 22 => xNw (xMc M) (xMo M) pc op.2.1 op.2.2.1 op.2.2.2.1 (op.2.2.2.2.map (xdv 0 (fun _ => 0) (fun _ => 0)))
  | 23 => op.2.2.1 < 4 ∧ xNa (xMc M) (xMo M) pc op.2.1 (xty op.2.2.1)
  | 25 => xOi (xMc M) (xMo M) pc op.2.1
  | 26 => xCp (xMc M) (xMo M) pc op.2.1
  | 27 => op.2.1 = pc + 3 ∧ ∃ M', mt[op.2.2.1]? = some M' ∧ xcS M pc M'
  | 28 => op.2.1 = pc + 3 ∧ ∃ M', mt[op.2.2.1]? = some M' ∧ xcV M pc M' ∧ ∃ q, vwCl[op.2.2.2.1]? = some q ∧ q.1 = (xMy M').cls
  | 29 => op.2.1 = pc + 3 ∧ ∃ M', mt[op.2.2.1]? = some M' ∧ xcI M pc M'
  | 30 => decode (xMc M) pc = .ok (.ireturn, 1) ∧ ∃ ty, xMr M = some ty ∧ xtc ty = op.2.2.2.1 ∧ (ty = .int ∨ ty = .boolean)
  | 31 => decode (xMc M) pc = .ok (.lreturn, 1) ∧ xMr M = some .long
  | 32 => decode (xMc M) pc = .ok (.return_, 1) ∧ xMr M = none
  | 24 => xMa (xMc M) (xMo M) pc op.2.1
  | 33 => xLs (xMc M) (xMo M) pc op.2.1 op.2.2.1
  | 34 => xGs (xMc M) (xMo M) pc op.2.1 (fun _ => .int (nI 1))
  | 35 => xSf (xMc M) (xMo M) pc op.2.1 (fun sa k => if op.2.2.1 = 0 then .ref (sa (k + 1000)) else .int (nI 0))
  | 36 => xMi (xMc M) (xMo M) pc op.2.1
  | 37 => xSb (xMc M) (xMo M) pc op.2.1
  | 38 => ∀ x : Int32, xT (xMc M) (xMo M) pc op.2.1 [.int x] [.int (x.toUInt32 % 65536).toInt32]
  | 39 => op.2.1 = pc + 3 ∧ ∃ M', mt[op.2.2.1]? = some M' ∧ xcV M pc M' ∧ (xMy M').cls = "java/lang/String"
  | 40 => decode (xMc M) pc = .ok (.ireturn, 1) ∧ ∃ ty, xMr M = some ty ∧ ((op.2.2.2.1 = 5 ∧ ty = .char) ∨ (op.2.2.2.1 = 1 ∧ ty = .byte))
  | 41 => xGs (xMc M) (xMo M) pc op.2.1 (fun sa => if sa 98 = 0 then .null else .ref (sa 99))
  | 42 => xXl (xMc M) (xMo M) pc op.2.1
  | 43 => xXd (xMc M) (xMo M) pc op.2.1
  | 44 => pc = 6
  | 50 => xLk (xMc M) (xMo M) pc op.2.1
  | _ => True
/-- a method's own facts -/
def xMok (mt : List xM) (M : xM) : Prop := Cond.code (xMy M) (xMc M) (xMl M) (xMr M) ∈ xgt ∧ Cond.initialized (xMy M).cls ∈ xgt ∧ ((xMy M).cls ≠ "java/lang/invoke/MethodHandle" ∧ (xMy M).cls ≠ "java/lang/invoke/VarHandle" ∧ (parseMethodDescriptor (xMy M).desc).map (fun d => d.parameters.length) = some (xMn M)) ∧ plainName (xMy M).cls = true ∧ xMo M = (xMy M).cls ∧ ∀ q ∈ xMk M, xok mt M q.1 q.2
def xA (b n sz : Nat) : Nat → Prop := fun q => (b ≤ q ∧ q < b + n) ∨ sz ≤ q
section XS
variable {al : Bool} {b : Nat} {ρ : Nat → Int32} {sa : Nat → Nat} {dA : Nat → ClassId} {D : va_G} {M : xM} {p : Program} {l : Launch} {e : Env} {s : State} {m : MethodId} {args : Array Value} {below : List Frame} {meth : Method} {c : Code} {A : Nat → Prop} {Qc : Array Value → State → Outcome → State → Prop} {EX : State → Prop}
variable {mt : List xM} {ds : xD}
def xEnd (al : Bool) (b : Nat) (ρ : Nat → Int32) (sa : Nat → Nat) (dA : Nat → ClassId) (D : va_G) (s : State) (args : Array Value) (A : Nat → Prop) (Qc : Array Value → State → Outcome → State → Prop) (Ls : List xR) : Prop :=
  ∀ lf ∈ Ls, xKok ρ lf.1 → ∀ t : State, va_P D vwCl (xcx b ρ sa dA 0 lf.2.2) t.heap → (al = true → t.heap.size = b + lf.2.2.length) → (∀ i, i < lf.2.2.length → A (b + i)) → va_F A s t → Qc args s (.returned (lf.2.1.map (xdv b ρ sa))) t
def xGood (al : Bool) (b : Nat) (ρ : Nat → Int32) (sa : Nat → Nat) (dA : Nat → ClassId) (D : va_G) (M : xM) (p : Program) (l : Launch) (e : Env) (s : State) (m : MethodId) (args : Array Value) (below : List Frame) (meth : Method) (c : Code) (A : Nat → Prop) (Qc : Array Value → State → Outcome → State → Prop) (pc : Nat) (lv : xL) (st : List xV) (K : xH) (ce sl : Nat) (κ : xK) (Ls : List xR) : Prop :=
  ∀ (H : Heap) (locs : List Loc) (ls : Array Slot), lv_has ls (xMl M) (xdL b ρ sa lv) → va_P D vwCl (xcx b ρ sa dA 0 K) H → va_S A s.heap H locs → (al = true → H.size = b + K.length) → (∀ i, i < K.length → A (b + i)) → xKok ρ κ → xEnd al b ρ sa dA D s args A Qc Ls →
    W p l e (xMm M) s m args below meth c H locs ce sl (MQ below Qc args s (xMm M).cells (xMm M).slots A) (F0 m pc ls (st.map (xdv b ρ sa)))
/-- what holds all through a method's frame -/
def xCtx (b : Nat) (dA : Nat → ClassId) (D : va_G) (M : xM) (p : Program) (s : State) (m : MethodId) (args : Array Value) (meth : Method) (c : Code) (A : Nat → Prop) (EX : State → Prop) : Prop :=
  xCx p s m args c (xMc M) (xMo M) ∧ c.maxLocals = xMl M ∧ va_K D vwCl (xtys dA) s ∧ (∀ q, s.heap.size ≤ q → A q) ∧ (∀ q, A q → b ≤ q) ∧ meth.sig.returnType = xMr M ∧ meth.locks = false ∧ ((xMy M).name = "<init>" → meth.name = "<init>") ∧ EX s ∧ b ≤ s.heap.size
abbrev xSnd (al : Bool) (b : Nat) (ρ : Nat → Int32) (sa : Nat → Nat) (dA : Nat → ClassId) (D : va_G) (M : xM) (p : Program) (l : Launch) (e : Env) (s : State) (m : MethodId) (args : Array Value) (below : List Frame) (meth : Method) (c : Code) (A : Nat → Prop) (Qc : Array Value → State → Outcome → State → Prop) (rec : xRec) : Prop :=
  ∀ pc lv st K ce sl κ Ls, rec pc lv st K ce sl κ = some Ls → xGood al b ρ sa dA D M p l e s m args below meth c A Qc pc lv st K ce sl κ Ls
theorem xEnd.sub {Ls L : List xR} (h : xEnd al b ρ sa dA D s args A Qc Ls) (hs : ∀ q ∈ L, q ∈ Ls) : xEnd al b ρ sa dA D s args A Qc L := fun lf hl => h lf (hs lf hl)
/-- the pure steps -/
theorem xp_T {rec : xRec} (hC : xCtx b dA D M p s m args meth c A EX) (hr : xSnd al b ρ sa dA D M p l e s m args below meth c A Qc rec) {pc nx : Nat} {lv : xL} {st st0 st1 : List xV} {K : xH} {ce sl : Nat} {κ : xK} {Ls : List xR}
    (hT : xT (xMc M) (xMo M) pc nx (st0.map (xdv b ρ sa)) (st1.map (xdv b ρ sa))) (h : rec nx lv (st1 ++ st) K ce sl κ = some Ls) : xGood al b ρ sa dA D M p l e s m args below meth c A Qc pc lv (st0 ++ st) K ce sl κ Ls := by
  intro H locs ls hl hP hS hz hA0 hκ hQ
  have := hr _ _ _ _ _ _ _ _ h H locs ls hl hP hS hz hA0 hκ hQ
  rw [List.map_append] at this ⊢
  exact hT p l e _ s m args below meth c H locs ce sl _ ls _ hC.1 this
end XS
end
section
section XC
variable {al : Bool} {b : Nat} {ρ : Nat → Int32} {sa : Nat → Nat} {dA : Nat → ClassId} {D : va_G} {M : xM} {p : Program} {l : Launch} {e : Env} {s : State} {m : MethodId} {args : Array Value} {below : List Frame} {meth : Method} {c : Code} {A : Nat → Prop} {Qc : Array Value → State → Outcome → State → Prop} {EX : State → Prop}
variable {mt : List xM} {ds : xD} {rec : xRec} {pc nx : Nat} {lv : xL} {st : List xV} {K : xH} {ce sl : Nat} {κ : xK} {Ls : List xR}
theorem xp_load (hC : xCtx b dA D M p s m args meth c A EX) (hr : xSnd al b ρ sa dA D M p l e s m args below meth c A Qc rec) {k i : Nat} {v : xV} (hk3 : k < 3) (hT : xLd (xMc M) (xMo M) pc nx k i) (hv : xlk lv i = some v) (hk : xkdb k v = true) (h : rec nx lv (xnm κ.2 v :: st) K ce sl κ = some Ls) : xGood al b ρ sa dA D M p l e s m args below meth c A Qc pc lv st K ce sl κ Ls := by
  intro H locs ls hl hP hS hz hA0 hκ hQ
  have := hr _ _ _ _ _ _ _ _ h H locs ls hl hP hS hz hA0 hκ hQ
  rw [List.map_cons, (xnm_ok hκ v).1] at this
  exact hT p l e _ s m args below meth c H locs ce sl _ ls _ hC.1 _ (xkk hk3 hk) (hl.2.2 _ (List.mem_map.mpr ⟨(i, v), xlk_mem hv, rfl⟩)) this
theorem xp_store (hC : xCtx b dA D M p s m args meth c A EX) (hr : xSnd al b ρ sa dA D M p l e s m args below meth c A Qc rec) {k i : Nat} {v : xV} (hk3 : k < 3) (hT : xSt (xMc M) (xMo M) pc nx k i) (hk : xkdb k v = true) (hi : i + xwd k < xMl M) (h : rec nx ((i, v) :: lv.filter (xflb k i)) st K ce sl κ = some Ls) : xGood al b ρ sa dA D M p l e s m args below meth c A Qc pc lv (v :: st) K ce sl κ Ls := by
  intro H locs ls hl hP hS hz hA0 hκ hQ
  rw [List.map_cons]
  refine hT p l e _ s m args below meth c H locs ce sl _ ls _ hC.1 _ _ _ (xkk hk3 hk) hl hi (fun ls' hl' => ?_)
  rw [xflb_ok] at hl'
  exact hr _ _ _ _ _ _ _ _ h H locs ls' hl' hP hS hz hA0 hκ hQ
theorem xp_iinc (hC : xCtx b dA D M p s m args meth c A EX) (hr : xSnd al b ρ sa dA D M p l e s m args below meth c A Qc rec) {i n x : Nat} (hT : xIn (xMc M) (xMo M) pc nx i n) (hv : xlk lv i = some (0, x)) (hi : i < xMl M) (h : rec nx ((i, (0, (x + n) % 4294967296)) :: lv.filter (xflb 0 i)) st K ce sl κ = some Ls) : xGood al b ρ sa dA D M p l e s m args below meth c A Qc pc lv st K ce sl κ Ls := by
  intro H locs ls hl hP hS hz hA0 hκ hQ
  have hm : (i, xdv b ρ sa (0, x)) ∈ xdL b ρ sa lv := List.mem_map.mpr ⟨(i, (0, x)), xlk_mem hv, rfl⟩
  obtain ⟨k, hk⟩ := List.getElem?_of_mem hm
  refine hT p l e _ s m args below meth c H locs ce sl _ ls _ hC.1 _ k _ (nI x) hl hk hi (fun ls' hl' => ?_)
  rw [xflb_ok, nI_add, ← nI_m] at hl'
  exact hr _ _ _ _ _ _ _ _ h H locs ls' hl' hP hS hz hA0 hκ hQ
theorem xp_bin (hC : xCtx b dA D M p s m args meth c A EX) (hr : xSnd al b ρ sa dA D M p l e s m args below meth c A Qc rec) {o : Nat} {x y w : xV} (hT : ∀ x y : Int32, ((o = 9 ∨ o = 10) → ¬ y = 0) → xT (xMc M) (xMo M) pc nx [.int y, .int x] [.int (fbin o x y)]) (hκ0 : xKok ρ κ → xdv b ρ sa x = .int (xdi ρ x) ∧ xdv b ρ sa y = .int (xdi ρ y) ∧ xdv b ρ sa w = .int (fbin o (xdi ρ x) (xdi ρ y)) ∧ ((o = 9 ∨ o = 10) → ¬ xdi ρ y = 0)) (h : rec nx lv (w :: st) K ce sl κ = some Ls) : xGood al b ρ sa dA D M p l e s m args below meth c A Qc pc lv (y :: x :: st) K ce sl κ Ls := by
  intro H locs ls hl hP hS hz hA0 hκ hQ
  have := hr _ _ _ _ _ _ _ _ h H locs ls hl hP hS hz hA0 hκ hQ
  obtain ⟨e1, e2, e3, e4⟩ := hκ0 hκ
  rw [List.map_cons, e3] at this
  rw [List.map_cons, List.map_cons, e1, e2]
  exact hT _ _ e4 p l e _ s m args below meth c H locs ce sl _ ls _ hC.1 this
theorem xp_fork (hC : xCtx b dA D M p s m args meth c A EX) (hr : xSnd al b ρ sa dA D M p l e s m args below meth c A Qc rec) {k tgt : Nat} {x y : xV} (hT : xB (xMc M) (xMo M) pc nx tgt k) (hx : xkdb 0 x = true) (hy : xkdb 0 y = true) (h : xfork κ k x y (fun κ' => rec tgt lv st K ce sl κ') (fun κ' => rec nx lv st K ce sl κ') = some Ls) : xGood al b ρ sa dA D M p l e s m args below meth c A Qc pc lv (y :: x :: st) K ce sl κ Ls := by
  intro H locs ls hl hP hS hz hA0 hκ hQ
  obtain ⟨h1, h2⟩ := xfork_ok hκ h
  rw [List.map_cons, List.map_cons, xk0 hx, xk0 hy]
  refine hT p l e _ s m args below meth c H locs ce sl _ ls _ hC.1 _ _ (fun hc => ?_) (fun hc => ?_)
  · obtain ⟨κ', L, g1, g2, g3⟩ := h1 hc
    exact hr _ _ _ _ _ _ _ _ g1 H locs ls hl hP hS hz hA0 g2 (hQ.sub g3)
  · obtain ⟨κ', L, g1, g2, g3⟩ := h2 hc
    exact hr _ _ _ _ _ _ _ _ g1 H locs ls hl hP hS hz hA0 g2 (hQ.sub g3)
theorem xp_fork0 (hC : xCtx b dA D M p s m args meth c A EX) (hr : xSnd al b ρ sa dA D M p l e s m args below meth c A Qc rec) {k tgt : Nat} {x : xV} (hT : xB0 (xMc M) (xMo M) pc nx tgt k) (hx : xkdb 0 x = true) (h : xfork κ k x (0, 0) (fun κ' => rec tgt lv st K ce sl κ') (fun κ' => rec nx lv st K ce sl κ') = some Ls) : xGood al b ρ sa dA D M p l e s m args below meth c A Qc pc lv (x :: st) K ce sl κ Ls := by
  intro H locs ls hl hP hS hz hA0 hκ hQ
  obtain ⟨h1, h2⟩ := xfork_ok hκ h
  rw [List.map_cons, xk0 hx]
  refine hT p l e _ s m args below meth c H locs ce sl _ ls _ hC.1 _ (fun hc => ?_) (fun hc => ?_)
  · obtain ⟨κ', L, g1, g2, g3⟩ := h1 hc
    exact hr _ _ _ _ _ _ _ _ g1 H locs ls hl hP hS hz hA0 g2 (hQ.sub g3)
  · obtain ⟨κ', L, g1, g2, g3⟩ := h2 hc
    exact hr _ _ _ _ _ _ _ _ g1 H locs ls hl hP hS hz hA0 g2 (hQ.sub g3)
theorem xp_sw (hC : xCtx b dA D M p s m args meth c A EX) (hr : xSnd al b ρ sa dA D M p l e s m args below meth c A Qc rec) {dflt : Nat} {cs : List (Nat × Nat)} {x : xV} (hT : xSw (xMc M) (xMo M) pc dflt cs) (hx : xkdb 0 x = true) (h : xsw x (fun κ' => rec dflt lv st K ce sl κ') (fun t κ' => rec t lv st K ce sl κ') cs κ = some Ls) : xGood al b ρ sa dA D M p l e s m args below meth c A Qc pc lv (x :: st) K ce sl κ Ls := by
  intro H locs ls hl hP hS hz hA0 hκ hQ
  rw [List.map_cons, xk0 hx]
  refine hT p l e _ s m args below meth c H locs ce sl _ ls _ hC.1 _ ?_
  rcases xsw_ok hκ h with ⟨q, hq, e, κ', L, g1, g2, g3⟩ | ⟨hn, κ', L, g1, g2, g3⟩
  · exact Or.inl ⟨q, hq, e, hr _ _ _ _ _ _ _ _ g1 H locs ls hl hP hS hz hA0 g2 (hQ.sub g3)⟩
  · exact Or.inr ⟨hn, hr _ _ _ _ _ _ _ _ g1 H locs ls hl hP hS hz hA0 g2 (hQ.sub g3)⟩
theorem xcx_at {i : Nat} {x : xC} (h : K[i]? = some x) : (xcx b ρ sa dA 0 K)[i]? = some (b + i, xce b ρ sa dA x) := by
  rw [xcx_get, h, show 0 + i = i by omega]
  rfl
theorem xcx_put (i : Nat) (x : xC) : (xcx b ρ sa dA 0 K).set i (b + i, xce b ρ sa dA x) = xcx b ρ sa dA 0 (K.set i x) := by
  rw [← xcx_set, show 0 + i = i by omega]
theorem xp_getf (hC : xCtx b dA D M p s m args meth c A EX) (hr : xSnd al b ρ sa dA D M p l e s m args below meth c A Qc rec) {ci k i : Nat} {fs : List xV} {v : xV} (hT : xGf (xMc M) (xMo M) pc nx ci k) (hK : K[i]? = some (.inr (ci, fs))) (hv : fs[k]? = some v) (h : rec nx lv (v :: st) K ce sl κ = some Ls) : xGood al b ρ sa dA D M p l e s m args below meth c A Qc pc lv ((1, i) :: st) K ce sl κ Ls := by
  intro H locs ls hl hP hS hz hA0 hκ hQ
  have := hr _ _ _ _ _ _ _ _ h H locs ls hl hP hS hz hA0 hκ hQ
  rw [List.map_cons] at this ⊢
  exact hT p l e _ s m args below meth c H locs ce sl _ ls _ hC.1 D (xtys dA) _ i (b + i) (fs.map (xdv b ρ sa)) _ hC.2.2.1 hP (xcx_at hK) (by rw [List.getElem?_map, hv]; rfl) this
theorem xp_putf (hC : xCtx b dA D M p s m args meth c A EX) (hr : xSnd al b ρ sa dA D M p l e s m args below meth c A Qc rec) {ci k i : Nat} {fs : List xV} {v : xV} {ty : FieldType} {fin : Bool} (hT : xPf (xMc M) (xMo M) pc nx ci k ty fin) (hf : fin = true → (xMy M).name = "<init>") (hft : xfit (xtc ty) v = true) (hk : k < fs.length) (hK : K[i]? = some (.inr (ci, fs))) (h : rec nx lv st (K.set i (.inr (ci, fs.set k v))) ce sl κ = some Ls) : xGood al b ρ sa dA D M p l e s m args below meth c A Qc pc lv (v :: (1, i) :: st) K ce sl κ Ls := by
  intro H locs ls hl hP hS hz hA0 hκ hQ
  rw [List.map_cons, List.map_cons]
  obtain ⟨f1, f2⟩ := xfit_ok hft (b := b) (ρ := ρ) (sa := sa)
  refine hT p l e _ s m args below meth c H locs ce sl _ ls _ hC.1 D (xtys dA) _ i (b + i) A s.heap (fs.map (xdv b ρ sa)) _ hC.2.2.1 hP (xcx_D hA0) hS (xcx_at hK) (fun q => hC.2.2.2.2.2.2.2.1 (hf q)) f1 f2 (by rw [List.length_map]; exact hk) (fun H1 locs1 hP1 _ hS1 z1 => ?_)
  have e1 : (Sum.inr (ci, (fs.map (xdv b ρ sa)).set k (xdv b ρ sa v)) : va_E) = xce b ρ sa dA (.inr (ci, fs.set k v)) := by
    show Sum.inr (ci, _) = Sum.inr (ci, (fs.set k v).map (xdv b ρ sa))
    rw [List.map_set]
  rw [e1, xcx_put] at hP1
  exact hr _ _ _ _ _ _ _ _ h H1 locs1 ls hl hP1 hS1 (fun q => by rw [List.length_set, ← hz q]; exact z1) (fun j hj => hA0 j (by rw [List.length_set] at hj; exact hj)) hκ hQ
theorem xce_arr {t : Nat} (ht : t = 0 ∨ t = 1 ∨ t = 3) (vs : List xV) : xce b ρ sa dA (.inl (t, vs)) = .inl (dA t, vs.length, .inl (fun j => xdi ρ (vs.getD j (0, 0)))) := by
  rcases ht with rfl | rfl | rfl <;> rfl
theorem xce_any {t : Nat} (vs : List xV) : ∃ z, xce b ρ sa dA (.inl (t, vs)) = .inl (dA t, vs.length, z) := by
  match t with
  | 0 | 1 | 2 | 3 | 4 => exact ⟨_, rfl⟩
  | n + 5 => exact ⟨_, rfl⟩
theorem xp_alen (hC : xCtx b dA D M p s m args meth c A EX) (hr : xSnd al b ρ sa dA D M p l e s m args below meth c A Qc rec) {t i : Nat} {vs : List xV} (hT : xAl (xMc M) (xMo M) pc nx) (ht : t < 5) (hK : K[i]? = some (.inl (t, vs))) (h : rec nx lv ((0, vs.length) :: st) K ce sl κ = some Ls) : xGood al b ρ sa dA D M p l e s m args below meth c A Qc pc lv ((1, i) :: st) K ce sl κ Ls := by
  intro H locs ls hl hP hS hz hA0 hκ hQ
  have := hr _ _ _ _ _ _ _ _ h H locs ls hl hP hS hz hA0 hκ hQ
  rw [List.map_cons] at this ⊢
  obtain ⟨z, hz2⟩ := xce_any (b := b) (ρ := ρ) (sa := sa) (dA := dA) (t := t) vs
  have hg := xcx_at (b := b) (ρ := ρ) (sa := sa) (dA := dA) hK
  rw [hz2] at hg
  exact hT p l e _ s m args below meth c H locs ce sl _ ls _ hC.1 D (xtys dA) _ i (b + i) t (dA t) (vs.length, z) (xty t) hC.2.2.1 hP hg (xtys_get ht) this
theorem xin {n N : Nat} (hn : n < 2147483648) (h : n < N) : vp_in (nI n) N := by
  rintro (h1 | h1)
  · exact nI_pos hn h1
  · rw [nI_clamp hn] at h1
    omega
theorem xp_read (hC : xCtx b dA D M p s m args meth c A EX) (hr : xSnd al b ρ sa dA D M p l e s m args below meth c A Qc rec) {t i n : Nat} {vs : List xV} {j v : xV} (ht : t = 0 ∨ t = 1 ∨ t = 3) (hT : xRd (xMc M) (xMo M) pc nx (xty t)) (hj : xnm κ.2 j = (0, n)) (hn : n < 2147483648) (hK : K[i]? = some (.inl (t, vs))) (hv : vs[n]? = some v) (hk : xkdb 0 v = true) (h : rec nx lv (v :: st) K ce sl κ = some Ls) : xGood al b ρ sa dA D M p l e s m args below meth c A Qc pc lv (j :: (1, i) :: st) K ce sl κ Ls := by
  intro H locs ls hl hP hS hz hA0 hκ hQ
  have := hr _ _ _ _ _ _ _ _ h H locs ls hl hP hS hz hA0 hκ hQ
  rw [List.map_cons, xk0 hk] at this
  rw [List.map_cons, List.map_cons]
  have ej := (xnm_ok hκ (b := b) (sa := sa) j).1
  rw [hj] at ej
  rw [← ej]
  have hg := xcx_at (b := b) (ρ := ρ) (sa := sa) (dA := dA) hK
  rw [xce_arr ht] at hg
  refine hT p l e _ s m args below meth c H locs ce sl _ ls _ hC.1 D (xtys dA) _ i (b + i) t (dA t) vs.length _ (nI n) hC.2.2.1 hP hg (xtys_get (by omega)) (xin hn (List.getElem?_eq_some_iff.mp hv).1) ?_
  rw [nI_clamp hn, List.getD_eq_getElem?_getD, hv]
  exact this
theorem xp_readz (hC : xCtx b dA D M p s m args meth c A EX) (hr : xSnd al b ρ sa dA D M p l e s m args below meth c A Qc rec) {t i k : Nat} {vs : List xV} {j : xV} (ht : t = 0 ∨ t = 1 ∨ t = 3) (hT : xRd (xMc M) (xMo M) pc nx (xty t)) (hj : xnm κ.2 j = (3, k)) (hk : xin0 κ.2 k = true) (hK : K[i]? = some (.inl (t, vs))) (hv : xzs 1000 vs = true) (h : rec nx lv ((0, 0) :: st) K ce sl κ = some Ls) : xGood al b ρ sa dA D M p l e s m args below meth c A Qc pc lv (j :: (1, i) :: st) K ce sl κ Ls := by
  intro H locs ls hl hP hS hz hA0 hκ hQ
  have := hr _ _ _ _ _ _ _ _ h H locs ls hl hP hS hz hA0 hκ hQ
  rw [List.map_cons] at this
  rw [List.map_cons, List.map_cons]
  have ej := (xnm_ok hκ (b := b) (sa := sa) j).1
  rw [hj] at ej
  obtain ⟨n, hn, en⟩ := xin0_ok hκ hk
  have ej2 : xdv b ρ sa j = .int (nI n) := by
    rw [← ej, ← en]
    rfl
  rw [ej2]
  have hvn := xzs_ok hv n hn
  have hg := xcx_at (b := b) (ρ := ρ) (sa := sa) (dA := dA) hK
  rw [xce_arr ht] at hg
  refine hT p l e _ s m args below meth c H locs ce sl _ ls _ hC.1 D (xtys dA) _ i (b + i) t (dA t) vs.length _ (nI n) hC.2.2.1 hP hg (xtys_get (by omega)) (xin (by omega) (List.getElem?_eq_some_iff.mp hvn).1) ?_
  rw [nI_clamp (by omega), List.getD_eq_getElem?_getD, hvn]
  exact this
theorem xp_readr (hC : xCtx b dA D M p s m args meth c A EX) (hr : xSnd al b ρ sa dA D M p l e s m args below meth c A Qc rec) {i n q : Nat} {vs : List xV} {j : xV} (hT : xRr (xMc M) (xMo M) pc nx) (hj : xnm κ.2 j = (0, n)) (hn : n < 2147483648) (hK : K[i]? = some (.inl (4, vs))) (hv : vs[n]? = some (1, q)) (h : rec nx lv ((1, q) :: st) K ce sl κ = some Ls) : xGood al b ρ sa dA D M p l e s m args below meth c A Qc pc lv (j :: (1, i) :: st) K ce sl κ Ls := by
  intro H locs ls hl hP hS hz hA0 hκ hQ
  have := hr _ _ _ _ _ _ _ _ h H locs ls hl hP hS hz hA0 hκ hQ
  rw [List.map_cons] at this
  rw [List.map_cons, List.map_cons]
  have ej := (xnm_ok hκ (b := b) (sa := sa) j).1
  rw [hj] at ej
  rw [← ej]
  have hg := xcx_at (b := b) (ρ := ρ) (sa := sa) (dA := dA) hK
  refine hT p l e _ s m args below meth c H locs ce sl _ ls _ hC.1 D (xtys dA) _ i (b + i) 4 (dA 4) vs.length _ (nI n) hC.2.2.1 hP hg rfl (xin hn (List.getElem?_eq_some_iff.mp hv).1) ?_
  rw [nI_clamp hn, List.getD_eq_getElem?_getD, hv]
  exact this
theorem xupd {ρ : Nat → Int32} {vs : List xV} {n : Nat} (h : n < vs.length) (v : xV) : upd (fun j => xdi ρ (vs.getD j (0, 0))) n (xdi ρ v) = fun j => xdi ρ ((vs.set n v).getD j (0, 0)) := by
  funext j
  simp only [upd]
  by_cases e : j = n
  · subst e
    rw [if_pos rfl, List.getD_eq_getElem?_getD, List.getElem?_set_self h]
    rfl
  · rw [if_neg e, List.getD_eq_getElem?_getD, List.getD_eq_getElem?_getD, List.getElem?_set_ne (Ne.symm e)]
theorem xp_write (hC : xCtx b dA D M p s m args meth c A EX) (hr : xSnd al b ρ sa dA D M p l e s m args below meth c A Qc rec) {t i n : Nat} {vs : List xV} {j v : xV} (ht : t = 0 ∨ t = 1 ∨ t = 3) (hT : xWr (xMc M) (xMo M) pc nx (xty t)) (hj : xnm κ.2 j = (0, n)) (hn : n < 2147483648) (hK : K[i]? = some (.inl (t, vs))) (hl2 : n < vs.length) (hk : xkdb 0 v = true) (hnar : vp_nar (xty t) (xdi ρ v) = xdi ρ v) (h : rec nx lv st (K.set i (.inl (t, vs.set n v))) ce sl κ = some Ls) : xGood al b ρ sa dA D M p l e s m args below meth c A Qc pc lv (v :: j :: (1, i) :: st) K ce sl κ Ls := by
  intro H locs ls hl hP hS hz hA0 hκ hQ
  rw [List.map_cons, List.map_cons, List.map_cons, xk0 hk]
  have ej := (xnm_ok hκ (b := b) (sa := sa) j).1
  rw [hj] at ej
  rw [← ej]
  have hg := xcx_at (b := b) (ρ := ρ) (sa := sa) (dA := dA) hK
  rw [xce_arr ht] at hg
  refine hT p l e _ s m args below meth c H locs ce sl _ ls _ hC.1 D (xtys dA) _ i (b + i) A s.heap t (dA t) vs.length _ (nI n) _ hC.2.2.1 hP (xcx_D hA0) hS hg (xtys_get (by omega)) (xin hn hl2) (fun H1 locs1 hP1 _ hS1 z1 => ?_)
  rw [hnar, nI_clamp hn, xupd hl2] at hP1
  have e1 : (Sum.inl (dA t, vs.length, .inl (fun j => xdi ρ ((vs.set n v).getD j (0, 0)))) : va_E) = xce b ρ sa dA (.inl (t, vs.set n v)) := by
    rw [xce_arr ht, List.length_set]
  rw [e1, xcx_put] at hP1
  exact hr _ _ _ _ _ _ _ _ h H1 locs1 ls hl hP1 hS1 (fun q => by rw [List.length_set, ← hz q]; exact z1) (fun j hj => hA0 j (by rw [List.length_set] at hj; exact hj)) hκ hQ
theorem xdz {v : xV} (h : (Nat.beq v.1 0 || (Nat.beq v.1 2 || Nat.beq v.1 4)) = true) : xdv 0 (fun _ => 0) (fun _ => 0) v = xdv b ρ sa v := by
  match v, h with
  | (0, _), _ | (2, _), _ | (4, _), _ => rfl
  | (1, _), h | (3, _), h | (5, _), h | (6, _), h | (7, _), h => cases h
  | (n + 8, _), h => cases h
theorem xp_new (hC : xCtx b dA D M p s m args meth c A EX) (hr : xSnd al b ρ sa dA D M p l e s m args below meth c A Qc rec) {ci N : Nat} {fs : List xV} (hT : xNw (xMc M) (xMo M) pc nx ci N (fs.map (xdv 0 (fun _ => 0) (fun _ => 0)))) (hal : al = true) (hce : ce < (xMm M).cells) (hsl : sl + N ≤ (xMm M).slots) (hfs : fs.all (fun q => Nat.beq q.1 0 || (Nat.beq q.1 2 || Nat.beq q.1 4)) = true) (h : rec nx lv ((1, K.length) :: st) (K ++ [.inr (ci, fs)]) (ce + 1) (sl + N) κ = some Ls) : xGood al b ρ sa dA D M p l e s m args below meth c A Qc pc lv st K ce sl κ Ls := by
  intro H locs ls hl hP hS hz hA0 hκ hQ
  refine hT p l e _ s m args below meth c H locs ce sl _ ls _ hC.1 D (xtys dA) _ A s.heap hC.2.2.1 hP hS hce hsl (fun H1 hP1 hS1 z1 => ?_)
  have e0 : fs.map (xdv 0 (fun _ => 0) (fun _ => 0)) = fs.map (xdv b ρ sa) := List.map_congr_left (fun v hv => xdz (List.all_eq_true.mp hfs v hv))
  rw [e0, hz hal, show b + K.length = b + (0 + K.length) by omega] at hP1
  have e1 : (Sum.inr (ci, fs.map (xdv b ρ sa)) : va_E) = xce b ρ sa dA (.inr (ci, fs)) := rfl
  rw [e1, ← xcx_push] at hP1
  have := hr _ _ _ _ _ _ _ _ h H1 locs ls hl hP1 hS1 (fun q => by rw [List.length_append, z1, hz q]; rfl) (fun j hj => by
    rw [List.length_append] at hj
    by_cases hj2 : j < K.length
    · exact hA0 j hj2
    · refine hC.2.2.2.1 _ ?_
      have e2 : j = K.length := by simp at hj; omega
      rw [e2, ← hz hal]
      exact hS.1) hκ hQ
  rw [List.map_cons] at this
  rw [hz hal]
  exact this
theorem xp_newa (hC : xCtx b dA D M p s m args meth c A EX) (hr : xSnd al b ρ sa dA D M p l e s m args below meth c A Qc rec) {t n : Nat} (ht : t < 4) (hT : xNa (xMc M) (xMo M) pc nx (xty t)) (hal : al = true) (hce : ce < (xMm M).cells) (hsl : sl + n ≤ (xMm M).slots) (hn : n < 67108864) (h : rec nx lv ((1, K.length) :: st) (K ++ [.inl (t, List.replicate n (xzero t))]) (ce + 1) (sl + n) κ = some Ls) : xGood al b ρ sa dA D M p l e s m args below meth c A Qc pc lv ((0, n) :: st) K ce sl κ Ls := by
  intro H locs ls hl hP hS hz hA0 hκ hQ
  rw [List.map_cons]
  obtain ⟨-, hRA⟩ := hC.2.2.1.2 t _ (xtys_get (by omega))
  have hfc : s.vm.findClass ("[" ++ (xty t).toString) = some (dA t) := by
    match t, ht, hRA with
    | 0, _, h | 1, _, h | 2, _, h | 3, _, h => exact h
  obtain ⟨z, hz2⟩ : ∃ z : vp_A, xce b ρ sa dA (.inl (t, List.replicate n (xzero t))) = .inl (dA t, z) ∧ vp_cell (dA t) z = arrV (dA t) n (fun _ => defaultValue (xty t)) := by
    match t, ht with
    | 0, _ | 1, _ | 3, _ =>
      refine ⟨_, rfl, ?_⟩
      rw [vp_cell_i, List.length_replicate]
      congr 1
      funext j
      simp [List.getD_eq_getElem?_getD, List.getElem?_replicate, xzero, defaultValue, xty]
      split <;> rfl
    | 2, _ =>
      refine ⟨_, rfl, ?_⟩
      rw [vp_cell_l, List.length_replicate]
      congr 1
      funext j
      simp [List.getD_eq_getElem?_getD, List.getElem?_replicate, xzero, defaultValue, xty]
      split <;> rfl
  refine hT p l e _ s m args below meth c H locs ce sl _ ls _ hC.1 D (xtys dA) _ A s.heap (nI n) n z (dA t) hC.2.2.1 hP hS hfc hz2.2 (nI_pos (by omega)) (nI_clamp (by omega)) (by
    have hb : componentBytes (xty t) ≤ 8 := by
      match t, ht with
      | 0, _ | 1, _ | 2, _ | 3, _ => decide
    calc n * componentBytes (xty t) ≤ 67108864 * 8 := Nat.mul_le_mul (by omega) hb
      _ ≤ 536870912 := by decide) hce hsl (fun H1 hP1 hS1 z1 => ?_)
  rw [← hz2.1, hz hal, show b + K.length = b + (0 + K.length) by omega, ← xcx_push] at hP1
  have := hr _ _ _ _ _ _ _ _ h H1 locs ls hl hP1 hS1 (fun q => by rw [List.length_append, z1, hz q]; rfl) (fun j hj => by
    rw [List.length_append] at hj
    by_cases hj2 : j < K.length
    · exact hA0 j hj2
    · refine hC.2.2.2.1 _ ?_
      have e2 : j = K.length := by simp at hj; omega
      rw [e2, ← hz hal]
      exact hS.1) hκ hQ
  rw [List.map_cons] at this
  rw [hz hal]
  exact this
theorem xp_oinit (hC : xCtx b dA D M p s m args meth c A EX) (hr : xSnd al b ρ sa dA D M p l e s m args below meth c A Qc rec) {i : Nat} (hT : xOi (xMc M) (xMo M) pc nx) (hf : 1 ≤ (xMm M).frames) (hlo : xsum st + 12 ≤ (xMm M).locals) (h : rec nx lv st K ce sl κ = some Ls) : xGood al b ρ sa dA D M p l e s m args below meth c A Qc pc lv ((1, i) :: st) K ce sl κ Ls := by
  intro H locs ls hl hP hS hz hA0 hκ hQ
  have := hr _ _ _ _ _ _ _ _ h H locs ls hl hP hS hz hA0 hκ hQ
  rw [List.map_cons]
  exact hT p l e _ s m args below meth c H locs ce sl _ ls _ hC.1 (b + i) (by rw [hC.2.1, hl.1]) hf (by rw [xsum_ok]; exact hlo) this
theorem xp_copy (hC : xCtx b dA D M p s m args meth c A EX) (hr : xSnd al b ρ sa dA D M p l e s m args below meth c A Qc rec) {d0 s0 sp dp n : Nat} {vs ws : List xV} (hT : xCp (xMc M) (xMo M) pc nx) (hKs : K[s0]? = some (.inl (0, vs))) (hKd : K[d0]? = some (.inl (0, ws))) (h1 : sp + n ≤ vs.length) (h2 : dp + n ≤ ws.length) (h3 : sp + n < 2147483648) (h4 : dp + n < 2147483648) (hf : 1 ≤ (xMm M).frames) (hlo : xsum st + (nativeFrameWords "java/lang/System" "arraycopy" 5 + 11) ≤ (xMm M).locals) (h : rec nx lv st (K.set d0 (.inl (0, ws.take dp ++ ((vs.drop sp).take n ++ ws.drop (dp + n))))) ce sl κ = some Ls) : xGood al b ρ sa dA D M p l e s m args below meth c A Qc pc lv ((0, n) :: (0, dp) :: (1, d0) :: (0, sp) :: (1, s0) :: st) K ce sl κ Ls := by
  intro H locs ls hl hP hS hz hA0 hκ hQ
  simp only [List.map_cons]
  have hg0 := xcx_at (b := b) (ρ := ρ) (sa := sa) (dA := dA) hKs
  have hg1 := xcx_at (b := b) (ρ := ρ) (sa := sa) (dA := dA) hKd
  rw [xce_arr (Or.inl rfl)] at hg0 hg1
  refine hT p l e _ s m args below meth c H locs ce sl _ ls _ hC.1 D (xtys dA) _ A s.heap s0 d0 (b + s0) (b + d0) 0 (dA 0) vs.length ws.length _ _ (nI sp) (nI dp) (nI n) (by rw [hC.2.1, hl.1]) hC.2.2.1 hP (xcx_D hA0) hS hg0 hg1 rfl (nI_pos (by omega)) (nI_pos (by omega)) (nI_pos (by omega)) (by rw [nI_clamp (by omega), nI_clamp (by omega)]; exact h1) (by rw [nI_clamp (by omega), nI_clamp (by omega)]; exact h2) hf (by rw [xsum_ok]; exact hlo) (fun H1 locs1 hP1 hS1 z1 => ?_)
  rw [nI_clamp (by omega), nI_clamp (by omega), nI_clamp (by omega)] at hP1
  have e1 : (Sum.inl (dA 0, ws.length, .inl (va_cpy (fun j => xdi ρ (vs.getD j (0, 0))) (fun j => xdi ρ (ws.getD j (0, 0))) sp dp n)) : va_E) = xce b ρ sa dA (.inl (0, ws.take dp ++ ((vs.drop sp).take n ++ ws.drop (dp + n)))) := by
    rw [xce_arr (Or.inl rfl)]
    have el : (ws.take dp ++ ((vs.drop sp).take n ++ ws.drop (dp + n))).length = ws.length := by
      simp only [List.length_append, List.length_take, List.length_drop]
      omega
    rw [el]
    congr 4
    funext j
    simp only [va_cpy, List.getD_eq_getElem?_getD]
    by_cases hj : dp ≤ j ∧ j < dp + n
    · rw [if_pos hj, List.getElem?_append_right (by rw [List.length_take]; omega), List.getElem?_append_left (by simp only [List.length_take, List.length_drop]; omega), List.getElem?_take_of_lt (by rw [List.length_take]; omega), List.getElem?_drop]
      rw [List.length_take, Nat.min_eq_left (by omega)]
    · rw [if_neg hj]
      by_cases hj2 : j < dp
      · rw [List.getElem?_append_left (by rw [List.length_take]; omega), List.getElem?_take_of_lt hj2]
      · rw [List.getElem?_append_right (by rw [List.length_take]; omega), List.getElem?_append_right (by simp only [List.length_take, List.length_drop]; omega), List.getElem?_drop]
        congr 3
        simp only [List.length_take, List.length_drop]
        omega
  rw [e1, xcx_put] at hP1
  exact hr _ _ _ _ _ _ _ _ h H1 locs1 ls hl hP1 hS1 (fun q => by rw [List.length_set, ← hz q]; exact z1) (fun j hj => hA0 j (by rw [List.length_set] at hj; exact hj)) hκ hQ
/-- any next state that is good -/
noncomputable def xcl (al : Bool) (b : Nat) (ρ : Nat → Int32) (sa : Nat → Nat) (dA : Nat → ClassId) (D : va_G) (M : xM) (p : Program) (l : Launch) (e : Env) (s : State) (m : MethodId) (args : Array Value) (below : List Frame) (meth : Method) (c : Code) (A : Nat → Prop) (Qc : Array Value → State → Outcome → State → Prop) (Ls : List xR) : xRec := fun pc lv st K ce sl κ => @ite (Option (List xR)) (xGood al b ρ sa dA D M p l e s m args below meth c A Qc pc lv st K ce sl κ Ls) (Classical.propDecidable _) (some Ls) none
theorem xcl_ok : xSnd al b ρ sa dA D M p l e s m args below meth c A Qc (xcl al b ρ sa dA D M p l e s m args below meth c A Qc Ls) := by
  intro pc lv st K ce sl κ L h
  simp only [xcl] at h
  split at h
  · next hg =>
    cases h
    exact hg
  · cases h
theorem xcl_in {pc : Nat} {lv : xL} {st : List xV} {K : xH} {ce sl : Nat} {κ : xK} (h : xGood al b ρ sa dA D M p l e s m args below meth c A Qc pc lv st K ce sl κ Ls) : xcl al b ρ sa dA D M p l e s m args below meth c A Qc Ls pc lv st K ce sl κ = some Ls := if_pos h
theorem xadd0 (i : Nat) : fbin 0 (nI 0) (nI i) = nI i := by
  show nI 0 + nI i = nI i
  rw [show nI 0 = 0 from by decide +kernel, Int32.zero_add]
/-- a turn of the loop -/
theorem xp_turn (hC : xCtx b dA D M p s m args meth c A EX) (hok : ∀ q ∈ xlops, xok mt M q.1 q.2) (hM2 : 2 < xMl M) {o k : Nat} {fs : List xV} (hK : K[o]? = some (.inr (12, fs))) {a1 a2 a3 : Nat} {vs1 vs2 vs3 : List xV} (hf1 : fs[53]? = some (1, a1)) (hf2 : fs[54]? = some (1, a2)) (hf3 : fs[3]? = some (1, a3)) (hK1 : K[a1]? = some (.inl (0, vs1))) (hK2 : K[a2]? = some (.inl (0, vs2))) (hK3 : K[a3]? = some (.inl (0, vs3))) (hv3 : vs3[2]? = some (0, 0)) {i : Nat} (hi : i < 1000) (hv1 : vs1[i]? = some (0, 0)) (hv2 : vs2[i]? = some (0, 0))
    (hnext : xGood al b ρ sa dA D M p l e s m args below meth c A Qc 6 [(2, (0, i + 1)), (0, (1, o)), (1, (3, k))] [] K ce sl κ Ls) : xGood al b ρ sa dA D M p l e s m args below meth c A Qc 11 [(2, (0, i)), (0, (1, o)), (1, (3, k))] [] K ce sl κ Ls := by
  have r11 := hok (11, (2, 12, 1, 0, [])) (by decide)
  have r12 := hok (12, (16, 15, 12, 53, [])) (by decide)
  have r15 := hok (15, (0, 18, 1000, 0, [])) (by decide)
  have r18 := hok (18, (2, 19, 1, 0, [])) (by decide)
  have r19 := hok (19, (16, 22, 12, 3, [])) (by decide)
  have r22 := hok (22, (0, 23, 2, 0, [])) (by decide)
  have r23 := hok (23, (19, 24, 0, 0, [])) (by decide)
  have r24 := hok (24, (5, 25, 2, 0, [])) (by decide)
  have r25 := hok (25, (2, 26, 0, 2, [])) (by decide)
  have r26 := hok (26, (5, 27, 0, 0, [])) (by decide)
  have r27 := hok (27, (0, 28, 0, 0, [])) (by decide)
  have r28 := hok (28, (21, 29, 0, 0, [])) (by decide)
  have r29 := hok (29, (2, 30, 1, 0, [])) (by decide)
  have r30 := hok (30, (16, 33, 12, 54, [])) (by decide)
  have r33 := hok (33, (0, 36, 1000, 0, [])) (by decide)
  have r36 := hok (36, (2, 37, 1, 0, [])) (by decide)
  have r37 := hok (37, (16, 40, 12, 3, [])) (by decide)
  have r40 := hok (40, (0, 41, 2, 0, [])) (by decide)
  have r41 := hok (41, (19, 42, 0, 0, [])) (by decide)
  have r42 := hok (42, (5, 43, 2, 0, [])) (by decide)
  have r43 := hok (43, (2, 44, 0, 2, [])) (by decide)
  have r44 := hok (44, (5, 45, 0, 0, [])) (by decide)
  have r45 := hok (45, (0, 46, 0, 0, [])) (by decide)
  have r46 := hok (46, (21, 47, 0, 0, [])) (by decide)
  have r47 := hok (47, (4, 50, 2, 1, [])) (by decide)
  have r50 := hok (50, (14, 6, 0, 0, [])) (by decide)
  have hm : fbin 2 (nI 1000) (nI 0) = nI 0 := by decide +kernel
  have hl1 := (List.getElem?_eq_some_iff.mp hv1).1
  have hl2 := (List.getElem?_eq_some_iff.mp hv2).1
  refine xp_load hC xcl_ok r11.1 r11.2 (v := (1, o)) rfl rfl (xcl_in ?_)
  refine xp_getf hC xcl_ok r12 hK hf1 (xcl_in ?_)
  refine xp_T hC xcl_ok (st0 := []) (st1 := [(0, 1000)]) r15 (xcl_in ?_)
  refine xp_load hC xcl_ok r18.1 r18.2 (v := (1, o)) rfl rfl (xcl_in ?_)
  refine xp_getf hC xcl_ok r19 hK hf3 (xcl_in ?_)
  refine xp_T hC xcl_ok (st0 := []) (st1 := [(0, 2)]) r22 (xcl_in ?_)
  refine xp_read hC xcl_ok (n := 2) (v := (0, 0)) r23.1 r23.2 rfl (by decide) hK3 hv3 rfl (xcl_in ?_)
  refine xp_bin hC xcl_ok (w := (0, 0)) r24 (fun _ => ⟨rfl, rfl, congrArg Value.int hm.symm, fun z => by rcases z with z | z <;> cases z⟩) (xcl_in ?_)
  refine xp_load hC xcl_ok r25.1 r25.2 (v := (0, i)) rfl rfl (xcl_in ?_)
  refine xp_bin hC xcl_ok (w := (0, i)) r26 (fun _ => ⟨rfl, rfl, congrArg Value.int (xadd0 i).symm, fun z => by rcases z with z | z <;> cases z⟩) (xcl_in ?_)
  refine xp_T hC xcl_ok (st0 := []) (st1 := [(0, 0)]) r27 (xcl_in ?_)
  refine xp_write hC xcl_ok (n := i) (v := (0, 0)) (Or.inl rfl) r28 rfl (by omega) hK1 hl1 rfl rfl (xcl_in ?_)
  rw [xset_same hK1 hv1]
  refine xp_load hC xcl_ok r29.1 r29.2 (v := (1, o)) rfl rfl (xcl_in ?_)
  refine xp_getf hC xcl_ok r30 hK hf2 (xcl_in ?_)
  refine xp_T hC xcl_ok (st0 := []) (st1 := [(0, 1000)]) r33 (xcl_in ?_)
  refine xp_load hC xcl_ok r36.1 r36.2 (v := (1, o)) rfl rfl (xcl_in ?_)
  refine xp_getf hC xcl_ok r37 hK hf3 (xcl_in ?_)
  refine xp_T hC xcl_ok (st0 := []) (st1 := [(0, 2)]) r40 (xcl_in ?_)
  refine xp_read hC xcl_ok (n := 2) (v := (0, 0)) r41.1 r41.2 rfl (by decide) hK3 hv3 rfl (xcl_in ?_)
  refine xp_bin hC xcl_ok (w := (0, 0)) r42 (fun _ => ⟨rfl, rfl, congrArg Value.int hm.symm, fun z => by rcases z with z | z <;> cases z⟩) (xcl_in ?_)
  refine xp_load hC xcl_ok r43.1 r43.2 (v := (0, i)) rfl rfl (xcl_in ?_)
  refine xp_bin hC xcl_ok (w := (0, i)) r44 (fun _ => ⟨rfl, rfl, congrArg Value.int (xadd0 i).symm, fun z => by rcases z with z | z <;> cases z⟩) (xcl_in ?_)
  refine xp_T hC xcl_ok (st0 := []) (st1 := [(0, 0)]) r45 (xcl_in ?_)
  refine xp_write hC xcl_ok (n := i) (v := (0, 0)) (Or.inl rfl) r46 rfl (by omega) hK2 hl2 rfl rfl (xcl_in ?_)
  rw [xset_same hK2 hv2]
  refine xp_iinc hC xcl_ok (x := i) (n := 1) r47 rfl hM2 (xcl_in ?_)
  rw [Nat.mod_eq_of_lt (show i + 1 < 4294967296 by omega)]
  exact xp_T hC xcl_ok (st0 := []) (st1 := []) r50 (xcl_in hnext)
theorem xp_clear (hC : xCtx b dA D M p s m args meth c A EX) (hok : ∀ q ∈ xlops, xok mt M q.1 q.2) (hM2 : 2 < xMl M) {o k : Nat} {fs : List xV} (hK : K[o]? = some (.inr (12, fs))) (hx : xin0 κ.2 k = true) (h1 : xzf K fs 53 1000 = true) (h2 : xzf K fs 54 1000 = true) (h3 : xzf K fs 3 3 = true)
    (hend : xGood al b ρ sa dA D M p l e s m args below meth c A Qc 53 [(0, (1, o)), (1, (3, k))] [] K ce sl κ Ls) : ∀ (d i : Nat), i + d = 1000 → xGood al b ρ sa dA D M p l e s m args below meth c A Qc 6 [(2, (0, i)), (0, (1, o)), (1, (3, k))] [] K ce sl κ Ls := by
  obtain ⟨a1, vs1, hf1, hK1, hv1⟩ := xzf_ok h1
  obtain ⟨a2, vs2, hf2, hK2, hv2⟩ := xzf_ok h2
  obtain ⟨a3, vs3, hf3, hK3, hv3⟩ := xzf_ok h3
  have r6 := hok (6, (2, 7, 0, 2, [])) (by decide)
  have r7 := hok (7, (2, 8, 0, 1, [])) (by decide)
  have r8 := hok (8, (13, 11, 53, 4, [])) (by decide)
  intro d
  induction d with
  | zero =>
    intro i hid H locs ls hl hP hS hz hA0 hκ hQ
    obtain ⟨n, hn, en⟩ := xin0_ok hκ hx
    refine r6.2 p l e _ s m args below meth c H locs ce sl _ ls _ hC.1 (.int (nI i)) ⟨_, rfl⟩ (hl.2.2 (2, .int (nI i)) List.mem_cons_self) ?_
    refine r7.2 p l e _ s m args below meth c H locs ce sl _ ls _ hC.1 (.int (ρ k)) ⟨_, rfl⟩ (hl.2.2 (1, .int (ρ k)) (List.mem_cons_of_mem _ (List.mem_cons_of_mem _ List.mem_cons_self))) ?_
    refine r8 p l e _ s m args below meth c H locs ce sl _ ls _ hC.1 _ _ (fun hc => ?_) (fun hc => ?_)
    · exact hend H locs ls ⟨hl.1, hl.2.1, fun q hq => hl.2.2 q (List.mem_cons_of_mem _ hq)⟩ hP hS hz hA0 hκ hQ
    · refine absurd ?_ hc
      show ρ k < nI i
      rw [sgI_ltI, en, sgI_nI (by omega), sgI_nI (by omega)]
      simp only [xsg]
      omega
  | succ d ih =>
    intro i hid H locs ls hl hP hS hz hA0 hκ hQ
    refine r6.2 p l e _ s m args below meth c H locs ce sl _ ls _ hC.1 (.int (nI i)) ⟨_, rfl⟩ (hl.2.2 (2, .int (nI i)) List.mem_cons_self) ?_
    refine r7.2 p l e _ s m args below meth c H locs ce sl _ ls _ hC.1 (.int (ρ k)) ⟨_, rfl⟩ (hl.2.2 (1, .int (ρ k)) (List.mem_cons_of_mem _ (List.mem_cons_of_mem _ List.mem_cons_self))) ?_
    refine r8 p l e _ s m args below meth c H locs ce sl _ ls _ hC.1 _ _ (fun hc => ?_) (fun hc => ?_)
    · exact hend H locs ls ⟨hl.1, hl.2.1, fun q hq => hl.2.2 q (List.mem_cons_of_mem _ hq)⟩ hP hS hz hA0 hκ hQ
    · exact xp_turn hC hok hM2 hK hf1 hf2 hf3 hK1 hK2 hK3 (hv3 2 (by decide)) (by omega) (hv1 i (by omega)) (hv2 i (by omega)) (ih (i + 1) (by omega)) H locs ls hl hP hS hz hA0 hκ hQ
end XC
end
section
/-- what may be said of a callee's end -/
def xQp (al : Bool) (b : Nat) (ρ : Nat → Int32) (sa : Nat → Nat) (dA : Nat → ClassId) (D : va_G) (n sz : Nat) (Ls : List xR) : State → Outcome → State → Prop := fun u o t =>
  ∃ lf ∈ Ls, xKok ρ lf.1 ∧ o = .returned (lf.2.1.map (xdv b ρ sa)) ∧ va_P D vwCl (xcx b ρ sa dA 0 lf.2.2) t.heap ∧ (al = true → t.heap.size = b + lf.2.2.length) ∧ (∀ i, i < lf.2.2.length → xA b n sz (b + i)) ∧ va_F (xA b n sz) u t
def xPp (al : Bool) (b : Nat) (ρ : Nat → Int32) (sa : Nat → Nat) (dA : Nat → ClassId) (D : va_G) (EX : State → Prop) (K : xH) (sz : Nat) (U : State) : Prop := U.heap.size = sz ∧ va_P D vwCl (xcx b ρ sa dA 0 K) U.heap ∧ va_K D vwCl (xtys dA) U ∧ (al = true → U.heap.size = b + K.length) ∧ EX U
abbrev xWs (M : xM) : List Cond := .code (xMy M) (xMc M) (xMl M) (xMr M) :: xgt
def xMet (al : Bool) (b : Nat) (ρ : Nat → Int32) (sa : Nat → Nat) (dA : Nat → ClassId) (D : va_G) (EX : State → Prop) (l : Launch) (M : xM) (avs : List xV) (K : xH) (Ls : List xR) (sz : Nat) : Prop :=
  Met l (xMy M) (xWs M) (xMm M) (va_Pc (avs.map (xdv b ρ sa)) (xPp al b ρ sa dA D EX K sz)) (fun _ => xQp al b ρ sa dA D K.length sz Ls) (xMm M).cells (xMm M).slots (xA b K.length sz)
/-- facts beside the world, that stay -/
def xEok (b : Nat) (sa : Nat → Nat) (EX : State → Prop) : Prop := (∀ (U : State) (g : JFrame) (mk : MethodId) (a : Array Value), EX U → EX (U.calling g mk a)) ∧ (∀ s U : State, EX s → s.WarmedH U.vm → (∀ q, q < b → U.heap[q]? = s.heap[q]?) → EX U) ∧ ∀ s, EX s → xFx b sa s
section XD
variable {al : Bool} {b : Nat} {ρ : Nat → Int32} {sa : Nat → Nat} {dA : Nat → ClassId} {D : va_G} {M : xM} {p : Program} {l : Launch} {e : Env} {s : State} {m : MethodId} {args : Array Value} {below : List Frame} {meth : Method} {c : Code} {A : Nat → Prop} {Qc : Array Value → State → Outcome → State → Prop} {EX : State → Prop}
variable {mt : List xM} {ds : xD} {rec : xRec} {pc nx : Nat} {lv : xL} {st : List xV} {K : xH} {ce sl : Nat} {κ : xK} {Ls : List xR}
theorem xp_iret (hC : xCtx b dA D M p s m args meth c A EX) {v : xV} {ty : FieldType} (hd : decode (xMc M) pc = .ok (.ireturn, 1)) (hr : xMr M = some ty) (hti : ty = .int ∨ ty = .boolean) (hf : xfit (xtc ty) v = true) (h1 : ce ≤ (xMm M).cells) (h2 : sl ≤ (xMm M).slots) : xGood al b ρ sa dA D M p l e s m args below meth c A Qc pc lv [v] K ce sl κ [(κ, some (xnm κ.2 v), K)] := by
  intro H locs ls hl hP hS hz hA0 hκ hQ
  have hk : xkdb 0 v = true := by
    rcases hti with rfl | rfl
    · exact hf
    · simp only [xtc, xfit, Bool.and_eq_true] at hf
      simp only [xkdb, hf.1, Bool.true_or]
  have e0 : xdv b ρ sa v = .int (xdi ρ v) := xk0 hk
  have hn := (xfit_ok hf (b := b) (ρ := ρ) (sa := sa)).1
  rw [e0] at hn
  refine W.widen (k := (xMm M).cells) (n := (xMm M).slots) h1 h2 ?_
  rw [show [v].map (xdv b ρ sa) = [.int (xdi ρ v)] by rw [← e0]; rfl]
  refine W.zret hC.1.1 hC.1.2.1 (by rw [hC.2.2.2.2.2.1]; exact hr) hn (fun t ht _ => ?_) hS.2.2 hd hC.2.2.2.2.2.2.1
  have := hQ _ List.mem_cons_self hκ t (by rw [ht]; exact hP) (fun q => by rw [ht]; exact hz q) hA0 (hS.F ht)
  dsimp only [Option.map] at this
  rw [(xnm_ok hκ v).1, e0] at this
  exact this
theorem xp_lret (hC : xCtx b dA D M p s m args meth c A EX) {v : xV} (hd : decode (xMc M) pc = .ok (.lreturn, 1)) (hr : xMr M = some .long) (hf : xkdb 2 v = true) (h1 : ce ≤ (xMm M).cells) (h2 : sl ≤ (xMm M).slots) : xGood al b ρ sa dA D M p l e s m args below meth c A Qc pc lv [v] K ce sl κ [(κ, some v, K)] := by
  intro H locs ls hl hP hS hz hA0 hκ hQ
  have e0 : xdv b ρ sa v = .long (lN v.2) := xk2 hf
  refine W.widen (k := (xMm M).cells) (n := (xMm M).slots) h1 h2 ?_
  rw [show [v].map (xdv b ρ sa) = [.long (lN v.2)] by rw [← e0]; rfl]
  refine W.lret hC.1.1 hC.1.2.1 (by rw [hC.2.2.2.2.2.1]; exact hr) (fun t ht _ => ?_) hS.2.2 hd hC.2.2.2.2.2.2.1
  have := hQ _ List.mem_cons_self hκ t (by rw [ht]; exact hP) (fun q => by rw [ht]; exact hz q) hA0 (hS.F ht)
  dsimp only [Option.map] at this
  rw [e0] at this
  exact this
theorem xp_vret (hC : xCtx b dA D M p s m args meth c A EX) (hd : decode (xMc M) pc = .ok (.return_, 1)) (hr : xMr M = none) (h1 : ce ≤ (xMm M).cells) (h2 : sl ≤ (xMm M).slots) : xGood al b ρ sa dA D M p l e s m args below meth c A Qc pc lv [] K ce sl κ [(κ, none, K)] := by
  intro H locs ls hl hP hS hz hA0 hκ hQ
  refine W.widen (k := (xMm M).cells) (n := (xMm M).slots) h1 h2 ?_
  exact W.vret hC.1.1 hC.1.2.1 (by rw [hC.2.2.2.2.2.1]; exact hr) (fun t ht _ => hQ _ List.mem_cons_self hκ t (by rw [ht]; exact hP) (fun q => by rw [ht]; exact hz q) hA0 (hS.F ht)) hS.2.2 hd hC.2.2.2.2.2.2.1
/-- behind a call -/
theorem xp_call (hC : xCtx b dA D M p s m args meth c A EX) (hr : xSnd al b ρ sa dA D M p l e s m args below meth c A Qc rec) {mc ms : Nat} {rest : List xV} {Lc : List xR}
    (hrun : ∀ (H : Heap) (locs : List Loc) (ls : Array Slot), lv_has ls (xMl M) (xdL b ρ sa lv) → va_P D vwCl (xcx b ρ sa dA 0 K) H → va_S A s.heap H locs → (al = true → H.size = b + K.length) → xKok ρ κ → va_Run p l e (xMm M) s m args below meth c H locs ce sl mc ms (F0 m pc ls (st.map (xdv b ρ sa))) (rest.map (xdv b ρ sa)) (xQp al b ρ sa dA D K.length H.size Lc) (xA b K.length H.size))
    (hall : ∀ lf ∈ Lc, ∃ L, rec (pc + 3) lv (xput rest lf.2.1) lf.2.2 (ce + mc) (sl + ms) lf.1 = some L ∧ ∀ q ∈ L, q ∈ Ls) : xGood al b ρ sa dA D M p l e s m args below meth c A Qc pc lv st K ce sl κ Ls := by
  intro H locs ls hl hP hS hz hA0 hκ hQ
  intro T hT X
  obtain ⟨v, st₀, t, T', L, h0, X', hL, e1, e2, ⟨lf, hlf, k1, k2, k3, k4, k5, k6⟩, stp⟩ := hrun H locs ls hl hP hS hz hκ T hT X
  have ev : v = lf.2.1.map (xdv b ρ sa) := by injection k2
  obtain ⟨L2, g1, g2⟩ := hall lf hlf
  have hsub : ∀ q, xA b K.length H.size q → A q := by
    rintro q (⟨a1, a2⟩ | a1)
    · have := hA0 (q - b) (by omega)
      rwa [show b + (q - b) = q by omega] at this
    · exact hC.2.2.2.1 q (Nat.le_trans hS.1 a1)
  obtain ⟨f1, f2⟩ := k6
  rw [h0] at f1 f2
  have hS2 : va_S A s.heap T'.heap (locs ++ L) := ⟨by rw [e1]; exact Nat.le_trans hS.1 f1, fun q q1 q2 => by
    rw [e1, f2 q (Nat.lt_of_lt_of_le q1 hS.1) (fun z => q2 (hsub q z))]
    exact hS.2.1 q q1 q2, fun q hq => by
    rcases List.mem_append.mp hq with h | h
    · exact hS.2.2 q h
    · exact hsub _ (hL q h)⟩
  have W2 := hr _ _ _ _ _ _ _ _ g1 T'.heap (locs ++ L) ls hl (by rw [e1]; exact k3) hS2 (fun q => by rw [e1]; exact k4 q) (fun i hi => hsub _ (k5 i hi)) k1 (hQ.sub g2)
  obtain ⟨t2, a1, b1⟩ := W2 T' rfl X'
  refine ⟨t2, stp t2 ?_, b1⟩
  have es : v.toList ++ rest.map (xdv b ρ sa) = (xput rest lf.2.1).map (xdv b ρ sa) := by
    rw [ev]
    cases lf.2.1 <;> rfl
  rw [es]
  exact a1
theorem xgt_in' {ws : List Cond} (h : ∀ w ∈ ws, w ∈ xgt) : GoodIn xgt ws := fun w hw => ⟨h w hw, xgt_good w (h w hw)⟩
theorem xWs_in {M' : xM} (h : xMok mt M') : ∀ w ∈ xWs M', w ∈ xgt := fun w hw => by
  rcases List.mem_cons.mp hw with rfl | hw
  · exact h.1
  · exact hw
theorem xPp_blind {avs : List Value} {sz : Nat} (hE : xEok b sa EX) : FrameBlind (va_Pc avs (xPp al b ρ sa dA D EX K sz)) := by
  rintro a U g mk ⟨h1, h2, h3, h4, h5, h6⟩
  exact ⟨h1, h2, h3, va_K.moved (u := U) (U := U.calling g mk a) (Vm.Alike.refl U.vm) h4, h5, hE.1 U g mk a h6⟩
theorem xPp_at (hC : xCtx b dA D M p s m args meth c A EX) (hE : xEok b sa EX) {H : Heap} {locs : List Loc} (hP : va_P D vwCl (xcx b ρ sa dA 0 K) H) (hS : va_S A s.heap H locs) (hz : al = true → H.size = b + K.length) (U : State) (hU : U.heap = H) (hW : s.WarmedH U.vm) : xPp al b ρ sa dA D EX K H.size U := by
  refine ⟨by rw [hU], by rw [hU]; exact hP, va_K.moved hW.alike hC.2.2.1, fun q => by rw [hU]; exact hz q, hE.2.1 s U hC.2.2.2.2.2.2.2.2.1 hW (fun q hq => ?_)⟩
  rw [hU]
  have hb := hC.2.2.2.2.2.2.2.2.2
  exact hS.2.1 q (by omega) (fun z => by have := hC.2.2.2.2.1 q z; omega)
theorem xroom_ok {M' : xM} (h : xroom (xMm M) M' ce sl = true) : ((xMm M').frames + 1 ≤ (xMm M).frames ∧ 8 + (xMl M' + 11) + (xMm M').locals ≤ (xMm M).locals) ∧ ce + (xMm M').cells ≤ (xMm M).cells ∧ sl + (xMm M').slots ≤ (xMm M).slots := by
  simp only [xroom, Bool.and_eq_true, Nat.ble_eq] at h
  exact ⟨⟨h.1, h.2.1⟩, h.2.2.1, h.2.2.2⟩
theorem xp_runS (hC : xCtx b dA D M p s m args meth c A EX) (hE : xEok b sa EX) {M' : xM} (hM' : xMok mt M') (hc : xcS M pc M') (hrm : xroom (xMm M) M' ce sl = true) {avs rest : List xV} (hst : st = avs.reverse ++ rest) (hn : avs.length = xMn M') (hrest : xsum rest ≤ 8) {Lc : List xR} (hMet : xKok ρ κ → ∀ sz, b ≤ sz → xMet al b ρ sa dA D EX l M' avs K Lc sz)
    (H : Heap) (locs : List Loc) (ls : Array Slot) (hl : lv_has ls (xMl M) (xdL b ρ sa lv)) (hP : va_P D vwCl (xcx b ρ sa dA 0 K) H) (hS : va_S A s.heap H locs) (hz : al = true → H.size = b + K.length) (hκ : xKok ρ κ) : va_Run p l e (xMm M) s m args below meth c H locs ce sl (xMm M').cells (xMm M').slots (F0 m pc ls (st.map (xdv b ρ sa))) (rest.map (xdv b ρ sa)) (xQp al b ρ sa dA D K.length H.size Lc) (xA b K.length H.size) := by
  obtain ⟨ix, hd, w1, w2⟩ := hc
  obtain ⟨r1, r2⟩ := xroom_ok hrm
  have hts := hC.1.2.2.2
  exact va_runS (As := avs.map (xdv b ρ sa)) (n := xMn M') (bytes := xMc M') (maxL := xMl M') (ret := xMr M') ⟨hC.1.1, hC.1.2.1, hC.2.1, hC.1.2.2.1, hts⟩ (hMet hκ H.size (Nat.le_trans hC.2.2.2.2.2.2.2.2.2 hS.1)) ⟨callB_of (xMn M') hts (xgt_in' (xWs_in hM')) rfl rfl rfl (hts _ hM'.2.1) (hts _ w1) hM'.2.2.1 r1, hts _ w2⟩ ⟨xPp_blind hE, fun U hU hW => ⟨rfl, xPp_at hC hE hP hS hz U hU hW⟩⟩ rfl (by rw [List.length_map]; exact hn) hl.1 (by rw [hst, List.map_append, List.map_reverse]) (lv_room (by rw [xsum_ok]; exact hrest)) hd r2
theorem xp_runV (hC : xCtx b dA D M p s m args meth c A EX) (hE : xEok b sa EX) {M' : xM} (hM' : xMok mt M') (hc : xcV M pc M') (hrm : xroom (xMm M) M' ce sl = true) {avs rest : List xV} {i ci : Nat} {fs : List xV} {q : vw_C} (hKi : K[i]? = some (.inr (ci, fs))) (hq : vwCl[ci]? = some q) (hqn : q.1 = (xMy M').cls) (hst : st = avs.reverse ++ (1, i) :: rest) (hn : avs.length = xMn M') (hrest : xsum rest ≤ 8) {Lc : List xR} (hMet : xKok ρ κ → ∀ sz, b ≤ sz → xMet al b ρ sa dA D EX l M' ((1, i) :: avs) K Lc sz)
    (H : Heap) (locs : List Loc) (ls : Array Slot) (hl : lv_has ls (xMl M) (xdL b ρ sa lv)) (hP : va_P D vwCl (xcx b ρ sa dA 0 K) H) (hS : va_S A s.heap H locs) (hz : al = true → H.size = b + K.length) (hκ : xKok ρ κ) : va_Run p l e (xMm M) s m args below meth c H locs ce sl (xMm M').cells (xMm M').slots (F0 m pc ls (st.map (xdv b ρ sa))) (rest.map (xdv b ρ sa)) (xQp al b ρ sa dA D K.length H.size Lc) (xA b K.length H.size) := by
  obtain ⟨ix, hd, w1, w2, w3⟩ := hc
  obtain ⟨r1, r2⟩ := xroom_ok hrm
  have hts := hC.1.2.2.2
  have hrc := va_recv hC.2.2.1 hP hq (xcx_at hKi)
  rw [hqn] at hrc
  exact va_runV (As := avs.map (xdv b ρ sa)) (b := b + i) (C := (xMy M').cls) (n := xMn M') (bytes := xMc M') (maxL := xMl M') (ret := xMr M') ⟨hC.1.1, hC.1.2.1, hC.2.1, hC.1.2.2.1, hts⟩ (hMet hκ H.size (Nat.le_trans hC.2.2.2.2.2.2.2.2.2 hS.1)) ⟨callB_of (xMn M') hts (xgt_in' (xWs_in hM')) rfl rfl rfl (hts _ hM'.2.1) (hts _ w1) hM'.2.2.1 r1, hts _ w2, hts _ w3⟩ ⟨xPp_blind hE, hrc, fun U hU hW => ⟨rfl, xPp_at hC hE hP hS hz U hU hW⟩⟩ rfl (by rw [List.length_map]; exact hn) hl.1 (by rw [hst, List.map_append, List.map_reverse]; rfl) (lv_room (by rw [xsum_ok]; exact hrest)) hd r2
theorem xp_runI (hC : xCtx b dA D M p s m args meth c A EX) (hE : xEok b sa EX) {M' : xM} (hM' : xMok mt M') (hc : xcI M pc M') (hrm : xroom (xMm M) M' ce sl = true) {avs rest : List xV} {i : Nat} (hst : st = avs.reverse ++ (1, i) :: rest) (hn : avs.length = xMn M') (hrest : xsum rest ≤ 8) {Lc : List xR} (hMet : xKok ρ κ → ∀ sz, b ≤ sz → xMet al b ρ sa dA D EX l M' ((1, i) :: avs) K Lc sz)
    (H : Heap) (locs : List Loc) (ls : Array Slot) (hl : lv_has ls (xMl M) (xdL b ρ sa lv)) (hP : va_P D vwCl (xcx b ρ sa dA 0 K) H) (hS : va_S A s.heap H locs) (hz : al = true → H.size = b + K.length) (hκ : xKok ρ κ) : va_Run p l e (xMm M) s m args below meth c H locs ce sl (xMm M').cells (xMm M').slots (F0 m pc ls (st.map (xdv b ρ sa))) (rest.map (xdv b ρ sa)) (xQp al b ρ sa dA D K.length H.size Lc) (xA b K.length H.size) := by
  obtain ⟨ix, hd, w1, w2, w3, w4⟩ := hc
  obtain ⟨r1, r2⟩ := xroom_ok hrm
  have hts := hC.1.2.2.2
  have hM := hMet hκ H.size (Nat.le_trans hC.2.2.2.2.2.2.2.2.2 hS.1)
  have hpp : PreS s H (va_Pc (((1, i) :: avs).map (xdv b ρ sa)) (xPp al b ρ sa dA D EX K H.size)) (.ref (b + i) :: avs.map (xdv b ρ sa)) := ⟨xPp_blind hE, fun U hU hW => ⟨rfl, xPp_at hC hE hP hS hz U hU hW⟩⟩
  rcases w4 with w4 | ⟨host, w4⟩
  · exact va_runI (As := avs.map (xdv b ρ sa)) (b := b + i) (n := xMn M') (bytes := xMc M') (maxL := xMl M') ⟨hC.1.1, hC.1.2.1, hC.2.1, hC.1.2.2.1, hts⟩ hM ⟨callB_of (ws' := xgt) (xMn M') hts (xgt_in' (xWs_in hM')) (by rw [xWs, w2]) rfl rfl (hts _ hM'.2.1) (hts _ w4) hM'.2.2.1 r1, w1, hts _ w3⟩ hpp rfl (by rw [List.length_map]; exact hn) hl.1 (by rw [hst, List.map_append, List.map_reverse]; rfl) (lv_room (by rw [xsum_ok]; exact hrest)) hd r2
  · exact va_runIN (As := avs.map (xdv b ρ sa)) (b := b + i) (n := xMn M') (bytes := xMc M') (maxL := xMl M') (host := host) ⟨hC.1.1, hC.1.2.1, hC.2.1, hC.1.2.2.1, hts⟩ hM ⟨va_cnB (ws' := xgt) (xMn M') hts (xgt_in' (xWs_in hM')) (by rw [xWs, w2]) rfl rfl ((hE.2.2 s hC.2.2.2.2.2.2.2.2.1).1 _ w4) (hts _ hM'.2.1) hM'.2.2.1 r1, w1, hts _ w3⟩ hpp rfl (by rw [List.length_map]; exact hn) hl.1 (by rw [hst, List.map_append, List.map_reverse]; rfl) (lv_room (by rw [xsum_ok]; exact hrest)) hd r2
theorem xp_zret (hC : xCtx b dA D M p s m args meth c A EX) {n : Nat} {ty : FieldType} (hd : decode (xMc M) pc = .ok (.ireturn, 1)) (hr : xMr M = some ty) (hn : narrow ty (.int (nI n)) = .int (nI n)) (h1 : ce ≤ (xMm M).cells) (h2 : sl ≤ (xMm M).slots) : xGood al b ρ sa dA D M p l e s m args below meth c A Qc pc lv [(0, n)] K ce sl κ [(κ, some (0, n), K)] := by
  intro H locs ls hl hP hS hz hA0 hκ hQ
  refine W.widen (k := (xMm M).cells) (n := (xMm M).slots) h1 h2 ?_
  exact W.zret hC.1.1 hC.1.2.1 (by rw [hC.2.2.2.2.2.1]; exact hr) hn (fun t ht _ => hQ _ List.mem_cons_self hκ t (by rw [ht]; exact hP) (fun q => by rw [ht]; exact hz q) hA0 (hS.F ht)) hS.2.2 hd hC.2.2.2.2.2.2.1
theorem xp_runVs (hC : xCtx b dA D M p s m args meth c A EX) (hE : xEok b sa EX) {M' : xM} (hM' : xMok mt M') (hc : xcV M pc M') (hrm : xroom (xMm M) M' ce sl = true) {avs rest : List xV} {k : Nat} (hk : k < 2) (hcls : (xMy M').cls = "java/lang/String") (hst : st = avs.reverse ++ (5, k) :: rest) (hn : avs.length = xMn M') (hrest : xsum rest ≤ 8) {Lc : List xR} (hMet : xKok ρ κ → ∀ sz, b ≤ sz → xMet al b ρ sa dA D EX l M' ((5, k) :: avs) K Lc sz)
    (H : Heap) (locs : List Loc) (ls : Array Slot) (hl : lv_has ls (xMl M) (xdL b ρ sa lv)) (hP : va_P D vwCl (xcx b ρ sa dA 0 K) H) (hS : va_S A s.heap H locs) (hz : al = true → H.size = b + K.length) (hκ : xKok ρ κ) : va_Run p l e (xMm M) s m args below meth c H locs ce sl (xMm M').cells (xMm M').slots (F0 m pc ls (st.map (xdv b ρ sa))) (rest.map (xdv b ρ sa)) (xQp al b ρ sa dA D K.length H.size Lc) (xA b K.length H.size) := by
  obtain ⟨ix, hd, w1, w2, w3⟩ := hc
  obtain ⟨r1, r2⟩ := xroom_ok hrm
  have hts := hC.1.2.2.2
  have hrc : ∃ cellB : Cell, H[sa k]? = some cellB ∧ cellB.vm.isStatics = false ∧ s.vm.findClass (xMy M').cls = some cellB.cls := by
    obtain ⟨cell, g1, g2, g3, -⟩ := (((hE.2.2 s hC.2.2.2.2.2.2.2.2.1).2.2.1 k hk).1.narrow hC.2.2.2.2.1).kept hS.2.1
    exact ⟨cell, g1, g2, by rw [hcls]; exact g3⟩
  exact va_runV (As := avs.map (xdv b ρ sa)) (b := sa k) (C := (xMy M').cls) (n := xMn M') (bytes := xMc M') (maxL := xMl M') (ret := xMr M') ⟨hC.1.1, hC.1.2.1, hC.2.1, hC.1.2.2.1, hts⟩ (hMet hκ H.size (Nat.le_trans hC.2.2.2.2.2.2.2.2.2 hS.1)) ⟨callB_of (xMn M') hts (xgt_in' (xWs_in hM')) rfl rfl rfl (hts _ hM'.2.1) (hts _ w1) hM'.2.2.1 r1, hts _ w2, hts _ w3⟩ ⟨xPp_blind hE, hrc, fun U hU hW => ⟨rfl, xPp_at hC hE hP hS hz U hU hW⟩⟩ rfl (by rw [List.length_map]; exact hn) hl.1 (by rw [hst, List.map_append, List.map_reverse]; rfl) (lv_room (by rw [xsum_ok]; exact hrest)) hd r2
theorem xcx_app : ∀ (K L : xH) (o : Nat), xcx b ρ sa dA o (K ++ L) = xcx b ρ sa dA o K ++ xcx b ρ sa dA (o + K.length) L
  | [], L, o => by simp [xcx]
  | d :: K, L, o => by
    simp only [List.cons_append, xcx, List.length_cons]
    rw [xcx_app K L (o + 1), show o + 1 + K.length = o + (K.length + 1) by omega]
theorem xcx_rep (x : xC) : ∀ (n o : Nat), xcx b ρ sa dA o (List.replicate n x) = (List.range n).map (fun i => (b + (o + i), xce b ρ sa dA x))
  | 0, o => rfl
  | n + 1, o => by
    rw [List.replicate_succ, xcx, xcx_rep x n (o + 1), List.range_succ_eq_map, List.map_cons, List.map_map]
    congr 1
    apply List.map_congr_left
    intro i _
    simp only [Function.comp]
    rw [show o + 1 + i = o + (i + 1) by omega]
theorem xp_mna (hC : xCtx b dA D M p s m args meth c A EX) (hE : xEok b sa EX) (hr : xSnd al b ρ sa dA D M p l e s m args below meth c A Qc rec) {k n : Nat} (hT : xMa (xMc M) (xMo M) pc nx) (hal : al = true) (hce : ce + (1 + n) ≤ (xMm M).cells) (hsl : sl + (n + n * k) ≤ (xMm M).slots) (hn : n ≤ 1000) (hk : k ≤ 1000) (h : rec nx lv ((1, K.length) :: st) (K ++ (.inl (4, (List.range n).map (fun i => (1, K.length + 1 + i))) :: List.replicate n (.inl (0, List.replicate k (0, 0))))) (ce + 1 + n) (sl + n + n * k) κ = some Ls) : xGood al b ρ sa dA D M p l e s m args below meth c A Qc pc lv ((0, k) :: (0, n) :: st) K ce sl κ Ls := by
  intro H locs ls hl hP hS hz hA0 hκ hQ
  rw [List.map_cons, List.map_cons]
  have hR4 := (hC.2.2.1.2 4 _ rfl).2
  have hR0 := (hC.2.2.1.2 0 _ rfl).2
  refine hT p l e _ s m args below meth c H locs ce sl _ ls _ hC.1 b sa D (xtys dA) _ A s.heap (nI n) (nI k) n k (dA 4) (dA 0) (hE.2.2 s hC.2.2.2.2.2.2.2.2.1) hP hS hR4 hR0 (nI_pos (by omega)) (nI_pos (by omega)) (nI_clamp (by omega)) (nI_clamp (by omega)) hn hk hce hsl (fun H1 hP1 hS1 z1 => ?_)
  have hH := hz hal
  have e1 : xcx b ρ sa dA 0 (K ++ (.inl (4, (List.range n).map (fun i => (1, K.length + 1 + i))) :: List.replicate n (.inl (0, List.replicate k (0, 0))))) = xcx b ρ sa dA 0 K ++ (H.size, .inl (dA 4, n, .inr (.inr (.inr (.inr (fun i => if i < n then some (H.size + 1 + i) else none)))))) :: (List.range n).map (fun i => (H.size + 1 + i, .inl (dA 0, k, .inl (fun _ => 0)))) := by
    rw [xcx_app]
    congr 1
    rw [xcx, xcx_rep]
    congr 1
    · rw [hH, Nat.zero_add]
      congr 1
      show (Sum.inl (dA 4, ((List.range n).map (fun i => ((1, K.length + 1 + i) : xV))).length, _) : va_E) = _
      rw [List.length_map, List.length_range]
      congr 7
      funext j
      simp only [List.getD_eq_getElem?_getD, List.getElem?_map]
      by_cases hj : j < n
      · rw [List.getElem?_range hj, if_pos hj]
        show some (b + (K.length + 1 + j)) = some (b + K.length + 1 + j)
        congr 1
        omega
      · rw [List.getElem?_eq_none (by rw [List.length_range]; omega), if_neg hj]
        rfl
    · apply List.map_congr_left
      intro i _
      rw [hH]
      congr 1
      · omega
      · show (Sum.inl (dA 0, (List.replicate k ((0, 0) : xV)).length, _) : va_E) = _
        rw [List.length_replicate]
        congr 3
        congr 1
        funext j
        simp only [List.getD_eq_getElem?_getD, List.getElem?_replicate]
        split <;> rfl
  rw [← e1] at hP1
  have := hr _ _ _ _ _ _ _ _ h H1 locs ls hl hP1 hS1 (fun q => by
    rw [z1, hH]
    simp only [List.length_append, List.length_cons, List.length_replicate]
    omega) (fun j hj => by
    by_cases hj2 : j < K.length
    · exact hA0 j hj2
    · refine hC.2.2.2.1 _ ?_
      have := hS.1
      omega) hκ hQ
  rw [List.map_cons] at this
  rw [hH]
  exact this
end XD
end
section
section XE
variable {al : Bool} {b : Nat} {ρ : Nat → Int32} {sa : Nat → Nat} {dA : Nat → ClassId} {D : va_G} {M : xM} {p : Program} {l : Launch} {e : Env} {s : State} {m : MethodId} {args : Array Value} {below : List Frame} {meth : Method} {c : Code} {A : Nat → Prop} {Qc : Array Value → State → Outcome → State → Prop} {EX : State → Prop}
variable {mt : List xM} {ds : xD} {rec : xRec} {call : xCal} {pc nx : Nat} {lv : xL} {st : List xV} {K : xH} {ce sl : Nat} {κ : xK} {Ls : List xR}
abbrev xSndC (al : Bool) (b : Nat) (ρ : Nat → Int32) (sa : Nat → Nat) (dA : Nat → ClassId) (D : va_G) (EX : State → Prop) (l : Launch) (mt : List xM) (call : xCal) : Prop :=
  ∀ (mi : Nat) (M' : xM) (avs : List xV) (K : xH) (κ : xK) (Lc : List xR), mt[mi]? = some M' → call M' avs K κ = some Lc → xsum avs ≤ xMl M' → xKok ρ κ → ∀ sz, b ≤ sz → xMet al b ρ sa dA D EX l M' avs K Lc sz
theorem xsum_app (a : List xV) : ∀ c : List xV, xsum (c ++ a) = xsum c + xsum a
  | [] => by simp [xsum]
  | v :: r => by simp [xsum, xsum_app a r, Nat.add_assoc]
theorem xsum_rev : ∀ a : List xV, xsum a.reverse = xsum a
  | [] => rfl
  | v :: r => by
    rw [List.reverse_cons, xsum_app, xsum_rev r]
    simp [xsum, Nat.add_comm]
theorem xcall_un {M' : xM} {n0 mi : Nat} (hmi : mt[mi]? = some M') (h : xh_call mt M rec call n0 nx mi lv st K ce sl κ = some Ls) : xMn M' + n0 ≤ st.length ∧ xroom (xMm M) M' ce sl = true ∧ xsum (st.drop (xMn M' + n0)) ≤ 8 ∧ xsum (st.take (xMn M' + n0)) ≤ xMl M' ∧ ∃ Lc, call M' (st.take (xMn M' + n0)).reverse K κ = some Lc ∧ ∀ lf ∈ Lc, ∃ L, rec nx lv (xput (st.drop (xMn M' + n0)) lf.2.1) lf.2.2 (ce + (xMm M').cells) (sl + (xMm M').slots) lf.1 = some L ∧ ∀ q ∈ L, q ∈ Ls := by
  simp only [xh_call, hmi] at h
  split at h
  · next hc =>
    simp only [Bool.and_eq_true, Nat.ble_eq] at hc
    obtain ⟨h1, h2, h3, h4⟩ := hc
    split at h
    · cases h
    · next L hL => exact ⟨h1, h2, h3, h4, L, hL, fun lf hlf => xall_ok h lf hlf⟩
  · cases h
theorem xcallS_ok (hC : xCtx b dA D M p s m args meth c A EX) (hE : xEok b sa EX) (hmt : ∀ (mi : Nat) (M' : xM), mt[mi]? = some M' → xMok mt M') (hr : xSnd al b ρ sa dA D M p l e s m args below meth c A Qc rec) (hcl : xSndC al b ρ sa dA D EX l mt call) {mi : Nat} {M' : xM} (hmi : mt[mi]? = some M') (hc : xcS M pc M') (h : xh_call mt M rec call 0 (pc + 3) mi lv st K ce sl κ = some Ls) : xGood al b ρ sa dA D M p l e s m args below meth c A Qc pc lv st K ce sl κ Ls := by
  obtain ⟨h1, h2, h3, h4, Lc, h5, h6⟩ := xcall_un hmi h
  rw [Nat.add_zero] at h1 h3 h4 h5 h6
  have hst : st = ((st.take (xMn M')).reverse).reverse ++ st.drop (xMn M') := by rw [List.reverse_reverse, List.take_append_drop]
  exact xp_call hC hr (fun H locs ls hl hP hS hz hκ => xp_runS hC hE (hmt mi M' hmi) hc h2 hst (by rw [List.length_reverse, List.length_take, Nat.min_eq_left h1]) h3 (fun hκ => hcl mi M' _ K κ Lc hmi h5 (by rw [xsum_rev]; exact h4) hκ) H locs ls hl hP hS hz hκ) h6
theorem xsplitG {n : Nat} {v : xV} {r : List xV} (h : st.drop n = v :: r) (hl : n + 1 ≤ st.length) : st = ((st.take n).reverse).reverse ++ v :: r ∧ st.drop (n + 1) = r ∧ (st.take (n + 1)).reverse = v :: (st.take n).reverse ∧ ((st.take n).reverse).length = n := by
  refine ⟨?_, ?_, ?_, ?_⟩
  · rw [List.reverse_reverse, ← h, List.take_append_drop]
  · rw [← List.drop_drop, h]
    rfl
  · have e : st.take (n + 1) = st.take n ++ [v] := by
      rw [List.take_add, h]
      rfl
    rw [e, List.reverse_append]
    rfl
  · rw [List.length_reverse, List.length_take]
    omega
theorem xcallV_ok (hC : xCtx b dA D M p s m args meth c A EX) (hE : xEok b sa EX) (hmt : ∀ (mi : Nat) (M' : xM), mt[mi]? = some M' → xMok mt M') (hr : xSnd al b ρ sa dA D M p l e s m args below meth c A Qc rec) (hcl : xSndC al b ρ sa dA D EX l mt call) {mi i ci : Nat} {M' : xM} {r fs : List xV} {q : vw_C} (hmi : mt[mi]? = some M') (hc : xcV M pc M') (hKi : K[i]? = some (.inr (ci, fs))) (hq : vwCl[ci]? = some q) (hqn : q.1 = (xMy M').cls) (hd : st.drop (xMn M') = (1, i) :: r) (h : xh_call mt M rec call 1 (pc + 3) mi lv st K ce sl κ = some Ls) : xGood al b ρ sa dA D M p l e s m args below meth c A Qc pc lv st K ce sl κ Ls := by
  obtain ⟨h1, h2, h3, h4, Lc, h5, h6⟩ := xcall_un hmi h
  obtain ⟨s1, s2, s3, s4⟩ := xsplitG hd h1
  rw [s2] at h3 h6
  have h7 : xsum (st.take (xMn M' + 1)).reverse ≤ xMl M' := by rw [xsum_rev]; exact h4
  rw [s3] at h5 h7
  exact xp_call hC hr (fun H locs ls hl hP hS hz hκ => xp_runV hC hE (hmt mi M' hmi) hc h2 hKi hq hqn s1 s4 h3 (fun hκ => hcl mi M' _ K κ Lc hmi h5 h7 hκ) H locs ls hl hP hS hz hκ) h6
theorem xcallI_ok (hC : xCtx b dA D M p s m args meth c A EX) (hE : xEok b sa EX) (hmt : ∀ (mi : Nat) (M' : xM), mt[mi]? = some M' → xMok mt M') (hr : xSnd al b ρ sa dA D M p l e s m args below meth c A Qc rec) (hcl : xSndC al b ρ sa dA D EX l mt call) {mi i : Nat} {M' : xM} {r : List xV} (hmi : mt[mi]? = some M') (hc : xcI M pc M') (hd : st.drop (xMn M') = (1, i) :: r) (h : xh_call mt M rec call 1 (pc + 3) mi lv st K ce sl κ = some Ls) : xGood al b ρ sa dA D M p l e s m args below meth c A Qc pc lv st K ce sl κ Ls := by
  obtain ⟨h1, h2, h3, h4, Lc, h5, h6⟩ := xcall_un hmi h
  obtain ⟨s1, s2, s3, s4⟩ := xsplitG hd h1
  rw [s2] at h3 h6
  have h7 : xsum (st.take (xMn M' + 1)).reverse ≤ xMl M' := by rw [xsum_rev]; exact h4
  rw [s3] at h5 h7
  exact xp_call hC hr (fun H locs ls hl hP hS hz hκ => xp_runI hC hE (hmt mi M' hmi) hc h2 s1 s4 h3 (fun hκ => hcl mi M' _ K κ Lc hmi h5 h7 hκ) H locs ls hl hP hS hz hκ) h6
theorem xne0 {n : Nat} (h : 0 < n) (h2 : n < 4294967296) : ¬ nI n = 0 := by
  intro e
  have h3 := sgI_nI h2
  rw [e, show (0 : Int32) = nI 0 from rfl, sgI_nI (by decide)] at h3
  simp only [xsg] at h3
  omega
theorem xdivne {o x y z : Nat} (h : xbin o x y = some z) (ho : o = 9 ∨ o = 10) : ¬ nI y = 0 := by
  rcases ho with rfl | rfl <;>
  · simp only [xbin] at h
    split at h
    · next hc =>
      simp only [Bool.and_eq_true, Nat.blt_eq] at hc
      exact xne0 hc.1.1 (by omega)
    · cases h
theorem xlcmp0 {x y : Nat} (hx : x < 9223372036854775808) (hy : y < 9223372036854775808) : lg_cmp (lN x) (lN y) = nI (if Nat.blt y x then 1 else if Nat.beq x y then 0 else 4294967295) := by
  have h1 := pk_lLT hy hx
  have h2 := pk_lEQ hx hy
  simp only [lg_cmp, gt_iff_lt, h1, h2]
  by_cases a : y < x
  · have e1 : Nat.blt y x = true := by rw [Nat.blt_eq]; exact a
    rw [if_pos a, e1]
    rfl
  · have e1 : Nat.blt y x = false := by rw [← Bool.not_eq_true, Nat.blt_eq]; exact a
    rw [if_neg a, e1]
    by_cases d : x = y
    · have e2 : Nat.beq x y = true := by rw [Nat.beq_eq]; exact d
      rw [if_pos d, e2]
      rfl
    · have e2 : Nat.beq x y = false := by rw [← Bool.not_eq_true, Nat.beq_eq]; exact d
      rw [if_neg d, e2]
      decide +kernel
theorem xlcmp {x y : Nat} (h : x = y ∨ (x < 9223372036854775808 ∧ y < 9223372036854775808)) : lg_cmp (lN x) (lN y) = nI (if Nat.blt y x then 1 else if Nat.beq x y then 0 else 4294967295) := by
  rcases h with h | h
  · subst h
    have e1 : Nat.blt x x = false := by rw [← Bool.not_eq_true, Nat.blt_eq]; omega
    have e2 : Nat.beq x x = true := by rw [Nat.beq_eq]
    rw [e1, e2]
    have e3 : ¬ lN x < lN x := fun z => by
      have := Int64.lt_iff_toInt_lt.mp z
      omega
    simp only [lg_cmp, gt_iff_lt, if_neg e3]
    rfl
  · exact xlcmp0 h.1 h.2
theorem xnarB {n : Nat} (h : n < 128) : narrow .byte (.int (nI n)) = .int (nI n) := (by decide +kernel : ∀ n : Fin 128, narrow .byte (.int (nI n.val)) = .int (nI n.val)) ⟨n, h⟩
set_option maxHeartbeats 4000000 in
theorem xstep_ok (hls : l.stackTraces = false) (hC : xCtx b dA D M p s m args meth c A EX) (hE : xEok b sa EX) (hds : xdok ρ ds) (hsc : ∀ s : State, EX s → ∀ L : Nat, xSc ds = some L → va_X (sa 50) L (fun n => ρ (n + 1)) s s.heap ∧ sa 50 < b) (hmt : ∀ (mi : Nat) (M' : xM), mt[mi]? = some M' → xMok mt M') (hr : xSnd al b ρ sa dA D M p l e s m args below meth c A Qc rec) (hcl : xSndC al b ρ sa dA D EX l mt call) (hMk : ∀ q ∈ xMk M, xok mt M q.1 q.2) {op : xOp} (hok : xok mt M pc op) (h : xstep mt ds al M rec call op lv st K ce sl κ = some Ls) : xGood al b ρ sa dA D M p l e s m args below meth c A Qc pc lv st K ce sl κ Ls := by
  obtain ⟨tg, nx, a, d, cs⟩ := op
  match tg, hok, h with
  | 0, hok, h => exact xp_T hC hr (st0 := []) (st1 := [(0, a)]) hok h
  | 1, hok, h => exact xp_T hC hr (st0 := []) (st1 := [(4, a)]) hok h
  | 2, hok, h =>
    simp only [xstep] at h
    split at h
    · cases h
    · next v hv =>
      split at h
      · next hk => exact xp_load hC hr hok.1 hok.2 hv hk h
      · cases h
  | 3, hok, h =>
    match st, h with
    | v :: st', h =>
      simp only [xstep] at h
      split at h
      · next hc =>
        simp only [Bool.and_eq_true, Nat.blt_eq] at hc
        exact xp_store hC hr hok.1 hok.2 hc.1 hc.2 h
      · cases h
  | 4, hok, h =>
    simp only [xstep] at h
    split at h
    · next x hv =>
      split at h
      · next hi =>
        rw [Nat.blt_eq] at hi
        exact xp_iinc hC hr hok hv hi h
      · cases h
    · cases h
  | 5, hok, h =>
    match st, h with
    | y :: x :: st', h =>
      simp only [xstep] at h
      split at h
      · next y' x' hy hx =>
        split at h
        · cases h
        · next z hz =>
          refine xp_bin hC hr (o := a) hok (fun hκ => ?_) h
          have ex := xnm_ok hκ (b := b) (sa := sa) x
          have ey := xnm_ok hκ (b := b) (sa := sa) y
          rw [hx] at ex
          rw [hy] at ey
          refine ⟨?_, ?_, ?_, fun ho => ?_⟩
          · rw [← ex.1, ← ex.2]; rfl
          · rw [← ey.1, ← ey.2]; rfl
          · rw [← ex.2, ← ey.2]
            show Value.int (nI z) = .int (fbin a (nI x') (nI y'))
            rw [xbin_ok hz]
          · rw [← ey.2]
            exact xdivne hz ho
      · next y' x' _ =>
        split at h
        · next hc =>
          simp only [Bool.and_eq_true, Nat.blt_eq] at hc
          split at h
          · cases h
          · next k hk =>
            refine xp_bin hC hr (o := a) hok (fun hκ => ?_) h
            have ex := xnm_ok hκ (b := b) (sa := sa) x
            have ey := xnm_ok hκ (b := b) (sa := sa) y
            obtain ⟨i, e1, e2⟩ := xidx_ok hk
            rw [Nat.zero_add] at e1
            subst e1
            have hd := hds _ _ _ _ e2 (by omega)
            rw [xfd, if_neg (by omega)] at hd
            refine ⟨?_, ?_, ?_, fun ho => by omega⟩
            · rw [← ex.1, ← ex.2]; exact xk0 hc.2.1
            · rw [← ey.1, ← ey.2]; exact xk0 hc.1
            · rw [← ex.2, ← ey.2]
              show Value.int (ρ k) = _
              rw [hd]
        · cases h
  | 6, hok, h =>
    match st, h with
    | x :: st', h =>
      simp only [xstep] at h
      split at h
      · next hx =>
        split at h
        · cases h
        · next k hk =>
          obtain ⟨i, e1, e2⟩ := xidx_ok hk
          rw [Nat.zero_add] at e1
          subst e1
          have hd := hds _ _ _ _ e2 (by omega)
          rw [xfd, if_pos rfl] at hd
          refine xp_T hC hr (st0 := [x]) (st1 := [(3, k)]) ?_ h
          have := hok (xdi ρ x)
          rw [← hd] at this
          rw [show [x].map (xdv b ρ sa) = [.int (xdi ρ x)] by rw [← xk0 hx (b := b) (sa := sa)]; rfl]
          exact this
      · cases h
  | 7, hok, h =>
    match st, h with
    | (4, y) :: (4, x) :: st', h =>
      simp only [xstep] at h
      split at h
      · cases h
      · next z hz =>
        refine xp_T hC hr (st0 := [(4, y), (4, x)]) (st1 := [(4, z)]) ?_ h
        have := hok (lN x) (lN y)
        dsimp only at this
        rw [xlb_ok hz] at this
        exact this
  | 8, hok, h =>
    match st, h with
    | (4, y) :: (4, x) :: st', h =>
      simp only [xstep] at h
      split at h
      · next hc =>
        simp only [Bool.or_eq_true, Bool.and_eq_true, Nat.blt_eq, Nat.beq_eq] at hc
        refine xp_T hC hr (st0 := [(4, y), (4, x)]) (st1 := [(0, _)]) ?_ h
        have := hok (lN x) (lN y)
        rw [xlcmp hc] at this
        exact this
      · cases h
  | 9, hok, h =>
    match st, h with
    | v :: st', h =>
      simp only [xstep] at h
      split at h
      · next hc =>
        rw [Nat.beq_eq] at hc
        exact xp_T hC hr (st0 := [v]) (st1 := [v, v]) (hok _ (by rw [xcat_ok]; exact hc)) h
      · cases h
  | 10, hok, h =>
    match st, h with
    | v :: st', h =>
      simp only [xstep] at h
      split at h
      · next hc =>
        rw [Nat.beq_eq] at hc
        exact xp_T hC hr (st0 := [v]) (st1 := []) (hok _ (by rw [xcat_ok]; exact hc)) h
      · cases h
  | 11, hok, h =>
    match st, h with
    | v :: w :: st', h =>
      simp only [xstep] at h
      split at h
      · next hc =>
        simp only [Bool.and_eq_true, Nat.beq_eq] at hc
        exact xp_T hC hr (st0 := [v, w]) (st1 := [v, w, v, w]) (hok _ _ (by rw [xcat_ok]; exact hc.1) (by rw [xcat_ok]; exact hc.2)) h
      · cases h
  | 12, hok, h =>
    match st, h with
    | x :: st', h =>
      simp only [xstep] at h
      split at h
      · next hx => exact xp_fork0 hC hr hok hx h
      · cases h
  | 13, hok, h =>
    match st, h with
    | y :: x :: st', h =>
      simp only [xstep] at h
      split at h
      · next hx =>
        simp only [Bool.and_eq_true] at hx
        exact xp_fork hC hr hok hx.1 hx.2 h
      · cases h
  | 14, hok, h => exact xp_T hC hr (st0 := []) (st1 := []) hok h
  | 15, hok, h =>
    match st, h with
    | x :: st', h =>
      simp only [xstep] at h
      split at h
      · next hx => exact xp_sw hC hr hok hx h
      · cases h
  | 16, hok, h =>
    match st, h with
    | (1, i) :: st', h =>
      simp only [xstep] at h
      split at h
      · next ci fs hK =>
        split at h
        · next he =>
          rw [Nat.beq_eq] at he
          rw [he] at hK
          split at h
          · cases h
          · next v hv => exact xp_getf hC hr hok hK hv h
        · cases h
      · cases h
  | 17, hok, h =>
    match st, h with
    | v :: (1, i) :: st', h =>
      obtain ⟨ty, fin, z, e1, e2, e3⟩ := hok
      dsimp only at e1
      subst e1
      simp only [xstep] at h
      split at h
      · next ci fs hK =>
        split at h
        · next he =>
          simp only [Bool.and_eq_true, Nat.beq_eq, Nat.blt_eq] at he
          obtain ⟨h1, h2, h3⟩ := he
          rw [h1] at hK h
          exact xp_putf hC hr e2 e3 h2 h3 hK h
        · cases h
      · cases h
  | 18, hok, h =>
    match st, h with
    | (1, i) :: st', h =>
      simp only [xstep] at h
      split at h
      · next t vs hK =>
        split at h
        · next ht =>
          rw [Nat.blt_eq] at ht
          exact xp_alen hC hr hok.1 ht hK h
        · cases h
      · cases h
    | (6, k) :: st', h =>
      simp only [xstep] at h
      split at h
      · next hk =>
        rw [Nat.blt_eq] at hk
        intro H locs ls hl hP hS hz hA0 hκ hQ
        have := hr _ _ _ _ _ _ _ _ h H locs ls hl hP hS hz hA0 hκ hQ
        rw [List.map_cons] at this ⊢
        exact hok.2 p l e _ s m args below meth c H locs ce sl _ ls _ hC.1 b sa A (hE.2.2 s hC.2.2.2.2.2.2.2.2.1) hS hC.2.2.2.2.1 k hk this
      · cases h
  | 19, hok, h =>
    match st, h with
    | j :: (1, i) :: st', h =>
      simp only [xstep] at h
      split at h
      · next t vs n hK hj =>
        split at h
        · next hc =>
          simp only [Bool.and_eq_true, Nat.beq_eq, Nat.blt_eq] at hc
          obtain ⟨h1, hn⟩ := hc
          rw [h1] at hK
          split at h
          · cases h
          · next v hv =>
            rw [xnth_ok] at hv
            split at h
            · next hk => exact xp_read hC hr hok.1 hok.2 hj hn hK hv hk h
            · cases h
        · cases h
      · next t vs k hK hj =>
        split at h
        · next hc =>
          simp only [Bool.and_eq_true, Nat.beq_eq] at hc
          obtain ⟨h1, hk, hv⟩ := hc
          rw [h1] at hK
          exact xp_readz hC hr hok.1 hok.2 hj hk hK hv h
        · cases h
      · cases h
  | 20, hok, h =>
    match st, h with
    | j :: (1, i) :: st', h =>
      simp only [xstep] at h
      split at h
      · next vs n hK hj =>
        split at h
        · next hn =>
          rw [Nat.blt_eq] at hn
          split at h
          · next q hv => exact xp_readr hC hr hok hj hn hK hv h
          · cases h
        · cases h
      · cases h
  | 21, hok, h =>
    match st, h with
    | v :: j :: (1, i) :: st', h =>
      simp only [xstep] at h
      split at h
      · next t vs n hK hj =>
        split at h
        · next hc =>
          simp only [Bool.and_eq_true, Nat.beq_eq, Nat.blt_eq] at hc
          obtain ⟨h1, hn, hv⟩ := hc
          obtain ⟨w1, w2, w3⟩ := xwok_ok hds hv
          split at h
          · cases h
          · next w hw =>
            rw [xnth_ok] at hw
            have hl := (List.getElem?_eq_some_iff.mp hw).1
            have h : rec nx lv st' (K.set i (.inl (t, vs.set n v))) ce sl κ = some Ls := by
              split at h
              · next he =>
                rw [xeqv_ok he] at hw
                rw [xset_same hK hw]
                exact h
              · exact h
            rw [h1] at hK h w1 w3
            exact xp_write hC hr w1 hok hj hn hK hl w2 w3 h
        · cases h
      · cases h
  | 44, hok, h =>
    simp only [xstep] at h
    split at h
    · next q hq =>
      obtain ⟨o, k⟩ := q
      split at h
      · next fs hfs =>
        split at h
        · next hc =>
          simp only [Bool.and_eq_true, Nat.blt_eq] at hc
          obtain ⟨hs, hx, hM2, h1, h2, h3, hal⟩ := hc
          rw [xlv3_ok hq]
          rw [xnl0_ok hs] at h ⊢
          have hpc : pc = 6 := hok
          rw [hpc]
          exact xp_clear hC (fun q hq => hMk q (of_decide_eq_true (List.all_eq_true.mp hal q hq))) hM2 (xob_ok hfs) hx h1 h2 h3 (hr _ _ _ _ _ _ _ _ h) 1000 0 rfl
        · cases h
      · cases h
    · cases h
  | 22, hok, h =>
    simp only [xstep] at h
    split at h
    · next hc =>
      simp only [Bool.and_eq_true, Nat.blt_eq, Nat.ble_eq] at hc
      exact xp_new hC hr hok hc.1 hc.2.1 hc.2.2.1 hc.2.2.2 h
    · cases h
  | 23, hok, h =>
    match st, h with
    | (0, n) :: st', h =>
      simp only [xstep] at h
      split at h
      · next hc =>
        simp only [Bool.and_eq_true, Nat.blt_eq, Nat.ble_eq] at hc
        exact xp_newa hC hr hok.1 hok.2 hc.1 hc.2.1 hc.2.2.1 hc.2.2.2 h
      · cases h
  | 25, hok, h =>
    match st, h with
    | (1, i) :: st', h =>
      simp only [xstep] at h
      split at h
      · next hc =>
        simp only [Bool.and_eq_true, Nat.ble_eq] at hc
        exact xp_oinit hC hr hok hc.1 hc.2 h
      · cases h
  | 26, hok, h =>
    match st, h with
    | (0, n) :: (0, dp) :: (1, d0) :: (0, sp) :: (1, s0) :: st', h =>
      simp only [xstep] at h
      split at h
      · next vs ws hKs hKd =>
        split at h
        · next hc =>
          simp only [Bool.and_eq_true, Nat.ble_eq, Nat.blt_eq] at hc
          obtain ⟨c1, c2, c3, c4, c5, c6⟩ := hc
          exact xp_copy hC hr hok hKs hKd c1 c2 c3 c4 c5 c6 h
        · cases h
      · cases h
  | 27, hok, h =>
    obtain ⟨e1, M', hmi, hc⟩ := hok
    dsimp only at e1 hmi
    subst e1
    exact xcallS_ok hC hE hmt hr hcl hmi hc h
  | 28, hok, h =>
    obtain ⟨e1, M', hmi, hc, q, hq, hqn⟩ := hok
    dsimp only at e1 hmi hq
    subst e1
    simp only [xstep, hmi] at h
    split at h
    · next i r hd =>
      split at h
      · next ci fs hK =>
        split at h
        · next he =>
          rw [Nat.beq_eq] at he
          rw [he] at hK
          exact xcallV_ok hC hE hmt hr hcl hmi hc hK hq hqn hd h
        · cases h
      · cases h
    · cases h
  | 29, hok, h =>
    obtain ⟨e1, M', hmi, hc⟩ := hok
    dsimp only at e1 hmi
    subst e1
    simp only [xstep, hmi] at h
    split at h
    · next i r hd => exact xcallI_ok hC hE hmt hr hcl hmi hc hd h
    · cases h
  | 30, hok, h =>
    match st, h with
    | [v], h =>
      obtain ⟨hd, ty, h1, h2, h3⟩ := hok
      dsimp only at h2
      simp only [xstep] at h
      split at h
      · next hc =>
        simp only [Bool.and_eq_true, Nat.ble_eq] at hc
        cases h
        rw [← h2] at hc
        exact xp_iret hC hd h1 h3 hc.1 hc.2.1 hc.2.2
      · cases h
  | 31, hok, h =>
    match st, h with
    | [v], h =>
      simp only [xstep] at h
      split at h
      · next hc =>
        simp only [Bool.and_eq_true, Nat.ble_eq] at hc
        cases h
        exact xp_lret hC hok.1 hok.2 hc.1 hc.2.1 hc.2.2
      · cases h
  | 32, hok, h =>
    match st, h with
    | [], h =>
      simp only [xstep] at h
      split at h
      · next hc =>
        simp only [Bool.and_eq_true, Nat.ble_eq] at hc
        cases h
        exact xp_vret hC hok.1 hok.2 hc.1 hc.2
      · cases h
  | 24, hok, h =>
    match st, h with
    | (0, k) :: (0, n) :: st', h =>
      simp only [xstep] at h
      split at h
      · next hc =>
        simp only [Bool.and_eq_true, Nat.ble_eq] at hc
        obtain ⟨c1, c2, c3, c4, c5⟩ := hc
        exact xp_mna hC hE hr hok c1 c2 c3 c4 c5 h
      · cases h
  | 33, hok, h =>
    intro H locs ls hl hP hS hz hA0 hκ hQ
    have := hr _ _ _ _ _ _ _ _ h H locs ls hl hP hS hz hA0 hκ hQ
    rw [List.map_cons] at this
    exact hok p l e _ s m args below meth c H locs ce sl _ ls _ hC.1 b sa (hE.2.2 s hC.2.2.2.2.2.2.2.2.1) this
  | 34, hok, h =>
    intro H locs ls hl hP hS hz hA0 hκ hQ
    have := hr _ _ _ _ _ _ _ _ h H locs ls hl hP hS hz hA0 hκ hQ
    rw [List.map_cons] at this
    exact hok p l e _ s m args below meth c H locs ce sl _ ls _ hC.1 b sa A (hE.2.2 s hC.2.2.2.2.2.2.2.2.1) hS hC.2.2.2.2.1 this
  | 35, hok, h =>
    match st, h with
    | (5, k) :: st', h =>
      simp only [xstep] at h
      split at h
      · next hk =>
        rw [Nat.blt_eq] at hk
        intro H locs ls hl hP hS hz hA0 hκ hQ
        have := hr _ _ _ _ _ _ _ _ h H locs ls hl hP hS hz hA0 hκ hQ
        rw [List.map_cons] at this ⊢
        refine hok p l e _ s m args below meth c H locs ce sl _ ls _ hC.1 b sa A (hE.2.2 s hC.2.2.2.2.2.2.2.2.1) hS hC.2.2.2.2.1 k hk ?_
        dsimp only at this ⊢
        by_cases ha : a = 0
        · rw [if_pos (by rw [Nat.beq_eq]; exact ha)] at this
          rw [if_pos ha]
          exact this
        · rw [if_neg (by rw [Nat.beq_eq]; exact ha)] at this
          rw [if_neg ha]
          exact this
      · cases h
  | 36, hok, h =>
    match st, h with
    | y :: x :: st', h =>
      simp only [xstep] at h
      split at h
      · next y' x' hy hx =>
        split at h
        · next hc =>
          simp only [Bool.and_eq_true, Nat.ble_eq, Nat.blt_eq] at hc
          obtain ⟨c1, c2, c3, c4, c5, c6⟩ := hc
          intro H locs ls hl hP hS hz hA0 hκ hQ
          have := hr _ _ _ _ _ _ _ _ h H locs ls hl hP hS hz hA0 hκ hQ
          have ex := (xnm_ok hκ (b := b) (sa := sa) x).1
          have ey := (xnm_ok hκ (b := b) (sa := sa) y).1
          rw [hx] at ex
          rw [hy] at ey
          rw [List.map_cons] at this
          rw [List.map_cons, List.map_cons, ← ex, ← ey]
          refine hok p l e _ s m args below meth c H locs ce sl _ ls _ hC.1 (nI x') (nI y') (by rw [hC.2.1, hl.1]) c3 (by rw [xsum_ok]; exact c4) c5 c6 ?_
          have hcmp := xcb_ok (c := 2) c1 c2
          simp only [xcp] at hcmp
          by_cases hl : nI y' < nI x'
          · rw [if_pos hl]
            rw [if_pos (hcmp.mpr hl)] at this
            exact this
          · rw [if_neg hl]
            rw [if_neg (fun z => hl (hcmp.mp z))] at this
            exact this
        · cases h
      · cases h
  | 37, hok, h =>
    match st, h with
    | j :: (6, k) :: st', h =>
      simp only [xstep] at h
      split at h
      · next n hj =>
        split at h
        · next hc =>
          simp only [Bool.and_eq_true, Nat.blt_eq] at hc
          intro H locs ls hl hP hS hz hA0 hκ hQ
          have := hr _ _ _ _ _ _ _ _ h H locs ls hl hP hS hz hA0 hκ hQ
          have ej := (xnm_ok hκ (b := b) (sa := sa) j).1
          rw [hj] at ej
          rw [List.map_cons] at this
          rw [List.map_cons, List.map_cons, ← ej]
          exact hok p l e _ s m args below meth c H locs ce sl _ ls _ hC.1 b sa A (hE.2.2 s hC.2.2.2.2.2.2.2.2.1) hS hC.2.2.2.2.1 k n hc.1 hc.2.1 hc.2.2 this
        · cases h
      · cases h
  | 38, hok, h =>
    match st, h with
    | (0, n) :: st', h =>
      simp only [xstep] at h
      split at h
      · next hn =>
        rw [Nat.blt_eq] at hn
        refine xp_T hC hr (st0 := [(0, n)]) (st1 := [(0, n)]) ?_ h
        have := hok (nI n)
        rw [pk_char, pk_tn (by omega), Nat.mod_eq_of_lt hn] at this
        exact this
      · cases h
  | 39, hok, h =>
    obtain ⟨e1, M', hmi, hc, hq⟩ := hok
    dsimp only at e1 hmi
    subst e1
    simp only [xstep, hmi] at h
    split at h
    · next k r hd =>
      split at h
      · next hk =>
        rw [Nat.blt_eq] at hk
        obtain ⟨h1, h2, h3, h4, Lc, h5, h6⟩ := xcall_un hmi h
        obtain ⟨s1, s2, s3, s4⟩ := xsplitG hd h1
        rw [s2] at h3 h6
        have h7 : xsum (st.take (xMn M' + 1)).reverse ≤ xMl M' := by rw [xsum_rev]; exact h4
        rw [s3] at h5 h7
        exact xp_call hC hr (fun H locs ls hl hP hS hz hκ => xp_runVs hC hE (hmt _ M' hmi) hc h2 hk hq s1 s4 h3 (fun hκ => hcl _ M' _ K κ Lc hmi h5 h7 hκ) H locs ls hl hP hS hz hκ) h6
      · cases h
    · cases h
  | 40, hok, h =>
    match st, h with
    | [(0, n)], h =>
      obtain ⟨hd, ty, h1, h2⟩ := hok
      dsimp only at h2
      rcases h2 with ⟨e1, e2⟩ | ⟨e1, e2⟩
      · rw [e1] at h
        change (if (Nat.blt n 65536 && (Nat.ble ce (xMm M).cells && Nat.ble sl (xMm M).slots)) = true then some [(κ, some (0, n), K)] else none) = some Ls at h
        split at h
        · next hc =>
          simp only [Bool.and_eq_true, Nat.ble_eq, Nat.blt_eq] at hc
          cases h
          exact xp_zret hC hd h1 (by rw [e2]; exact (pk_charN hc.1).1) hc.2.1 hc.2.2
        · cases h
      · rw [e1] at h
        change (if (Nat.blt n 128 && (Nat.ble ce (xMm M).cells && Nat.ble sl (xMm M).slots)) = true then some [(κ, some (0, n), K)] else none) = some Ls at h
        split at h
        · next hc =>
          simp only [Bool.and_eq_true, Nat.ble_eq, Nat.blt_eq] at hc
          cases h
          exact xp_zret hC hd h1 (by rw [e2]; exact xnarB hc.1) hc.2.1 hc.2.2
        · cases h
  | 41, hok, h =>
    intro H locs ls hl hP hS hz hA0 hκ hQ
    have := hr _ _ _ _ _ _ _ _ h H locs ls hl hP hS hz hA0 hκ hQ
    rw [List.map_cons] at this
    exact hok p l e _ s m args below meth c H locs ce sl _ ls _ hC.1 b sa A (hE.2.2 s hC.2.2.2.2.2.2.2.2.1) hS hC.2.2.2.2.1 this
  | 42, hok, h =>
    match st, h with
    | (5, 50) :: st', h =>
      simp only [xstep] at h
      split at h
      · next L hL =>
        obtain ⟨hX, hq⟩ := hsc s hC.2.2.2.2.2.2.2.2.1 L hL
        intro H locs ls hl hP hS hz hA0 hκ hQ
        have := hr _ _ _ _ _ _ _ _ h H locs ls hl hP hS hz hA0 hκ hQ
        rw [List.map_cons] at this ⊢
        have hb := hC.2.2.2.2.2.2.2.2.2
        exact hok p l e _ s m args below meth c H locs ce sl _ ls _ hC.1 (sa 50) L _ A hX (by omega) (fun z => by have := hC.2.2.2.2.1 _ z; omega) hS this
      · cases h
  | 43, hok, h =>
    match st, h with
    | j :: (5, 50) :: st', h =>
      simp only [xstep] at h
      split at h
      · next L n hL hj =>
        split at h
        · next hc =>
          simp only [Bool.and_eq_true, Nat.blt_eq] at hc
          obtain ⟨hX, hq⟩ := hsc s hC.2.2.2.2.2.2.2.2.1 L hL
          intro H locs ls hl hP hS hz hA0 hκ hQ
          have := hr _ _ _ _ _ _ _ _ h H locs ls hl hP hS hz hA0 hκ hQ
          have ej := (xnm_ok hκ (b := b) (sa := sa) j).1
          rw [hj] at ej
          rw [List.map_cons, (xnm_ok hκ _).1] at this
          rw [List.map_cons, List.map_cons, ← ej]
          have hb := hC.2.2.2.2.2.2.2.2.2
          exact hok p l e _ s m args below meth c H locs ce sl _ ls _ hC.1 (sa 50) L _ A hX (by omega) (fun z => by have := hC.2.2.2.2.1 _ z; omega) hS n hc.1 (by omega) hc.2 this
        · cases h
      · cases h
  | 50, hok, h =>
    match st, h with
    | (1, o) :: y :: x :: (1, i) :: st', h =>
      simp only [xstep] at h
      split at h
      · next hc =>
        simp only [Bool.and_eq_true, Nat.ble_eq, Bool.not_eq_true'] at hc
        obtain ⟨⟨c1, c2, c3, c4, c5, c6, c7, c8⟩, c9⟩ := hc
        intro H locs ls hl hP hS hz hA0 hκ hQ
        rw [List.map_cons, List.map_cons, List.map_cons, List.map_cons, xk0 c1, xk0 c2]
        refine hok p l e _ s m args below meth c H locs ce sl _ ls _ hC.1 hls b ρ sa dA D K A i o _ _ hC.2.2.2.2.2.2.2.2.2 hC.2.2.1 (hE.2.2 s hC.2.2.2.2.2.2.2.2.1) (by rw [hC.2.1, hl.1]) hP hS hC.2.2.2.2.1 hC.2.2.2.1 hA0 c3 (by rw [xsum_ok]; exact c4) c5 c6 c7 c8 (fun H1 locs1 hP1 hS1 => ?_)
        exact hr _ _ _ _ _ _ _ _ h H1 locs1 ls hl hP1 hS1 (fun q => by rw [q] at c9; cases c9) hA0 hκ hQ
      · cases h
  | 44, hok, h | 45, hok, h | 46, hok, h | 47, hok, h | 48, hok, h | 49, hok, h => cases h
  | n + 51, hok, h => cases h
end XE
end
