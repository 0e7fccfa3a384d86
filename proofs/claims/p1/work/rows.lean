section
-- ===== PART A: goes FIRST, ahead of the names: the tables' words, and 'selects' of the private methods out of them =====
/-- a private method of a class that the tables say can be made, by its rows of tables_1 -/
def lw_okq (q : MethodName × Nat) : Prop := (q.1.cls ≠ "java/lang/invoke/MethodHandle" ∧ q.1.cls ≠ "java/lang/invoke/VarHandle") ∧ Cond.instantiable q.1.cls q.2 ∈ tables_1 ∧ Cond.privateMethod q.1 ∈ tables_1 ∧ Cond.instanceMethod q.1 ∈ tables_1
theorem lw_p0 : lw_okq (⟨"RansomHymn$Tokens", "packWords", "(Ljava/lang/String;I)V"⟩, 9) := ⟨⟨by decide +kernel, by decide +kernel⟩, List.mem_of_getElem? (i := 218) (by decide +kernel), List.mem_of_getElem? (i := 225) (by decide +kernel), List.mem_of_getElem? (i := 226) (by decide +kernel)⟩
theorem lw_p1 : lw_okq (⟨"RansomHymn", "tapeNumber", "(I)V"⟩, 15) := ⟨⟨by decide +kernel, by decide +kernel⟩, List.mem_of_getElem? (i := 29) (by decide +kernel), List.mem_of_getElem? (i := 607) (by decide +kernel), List.mem_of_getElem? (i := 608) (by decide +kernel)⟩
theorem lw_p2 : lw_okq (⟨"RansomHymn$Tokens", "readWord", "()V"⟩, 9) := ⟨⟨by decide +kernel, by decide +kernel⟩, List.mem_of_getElem? (i := 218) (by decide +kernel), List.mem_of_getElem? (i := 642) (by decide +kernel), List.mem_of_getElem? (i := 643) (by decide +kernel)⟩
theorem lw_p3 : lw_okq (⟨"RansomHymn$Tokens", "readNumber", "()V"⟩, 9) := ⟨⟨by decide +kernel, by decide +kernel⟩, List.mem_of_getElem? (i := 218) (by decide +kernel), List.mem_of_getElem? (i := 649) (by decide +kernel), List.mem_of_getElem? (i := 650) (by decide +kernel)⟩
theorem lw_p4 : lw_okq (⟨"RansomHymn$Tokens", "readSign", "()V"⟩, 9) := ⟨⟨by decide +kernel, by decide +kernel⟩, List.mem_of_getElem? (i := 218) (by decide +kernel), List.mem_of_getElem? (i := 654) (by decide +kernel), List.mem_of_getElem? (i := 655) (by decide +kernel)⟩
theorem lw_p5 : lw_okq (⟨"RansomHymn$Teller", "readTavern", "()V"⟩, 4) := ⟨⟨by decide +kernel, by decide +kernel⟩, List.mem_of_getElem? (i := 216) (by decide +kernel), List.mem_of_getElem? (i := 661) (by decide +kernel), List.mem_of_getElem? (i := 662) (by decide +kernel)⟩
theorem lw_p6 : lw_okq (⟨"RansomHymn$Teller", "begin", "(LRansomHymn$Roll;)I"⟩, 4) := ⟨⟨by decide +kernel, by decide +kernel⟩, List.mem_of_getElem? (i := 216) (by decide +kernel), List.mem_of_getElem? (i := 665) (by decide +kernel), List.mem_of_getElem? (i := 666) (by decide +kernel)⟩
theorem lw_p7 : lw_okq (⟨"RansomHymn$Teller", "number", "(II)I"⟩, 4) := ⟨⟨by decide +kernel, by decide +kernel⟩, List.mem_of_getElem? (i := 216) (by decide +kernel), List.mem_of_getElem? (i := 687) (by decide +kernel), List.mem_of_getElem? (i := 688) (by decide +kernel)⟩
theorem lw_p8 : lw_okq (⟨"RansomHymn$Teller", "readVoice", "()V"⟩, 4) := ⟨⟨by decide +kernel, by decide +kernel⟩, List.mem_of_getElem? (i := 216) (by decide +kernel), List.mem_of_getElem? (i := 691) (by decide +kernel), List.mem_of_getElem? (i := 692) (by decide +kernel)⟩
theorem lw_p9 : lw_okq (⟨"RansomHymn$Teller", "skips", "(I)Z"⟩, 4) := ⟨⟨by decide +kernel, by decide +kernel⟩, List.mem_of_getElem? (i := 216) (by decide +kernel), List.mem_of_getElem? (i := 695) (by decide +kernel), List.mem_of_getElem? (i := 696) (by decide +kernel)⟩
theorem lw_p10 : lw_okq (⟨"RansomHymn$Teller", "toldTavern", "()I"⟩, 4) := ⟨⟨by decide +kernel, by decide +kernel⟩, List.mem_of_getElem? (i := 216) (by decide +kernel), List.mem_of_getElem? (i := 699) (by decide +kernel), List.mem_of_getElem? (i := 700) (by decide +kernel)⟩
theorem lw_p11 : lw_okq (⟨"RansomHymn$Teller", "readVerse", "()V"⟩, 4) := ⟨⟨by decide +kernel, by decide +kernel⟩, List.mem_of_getElem? (i := 216) (by decide +kernel), List.mem_of_getElem? (i := 703) (by decide +kernel), List.mem_of_getElem? (i := 704) (by decide +kernel)⟩
theorem lw_p12 : lw_okq (⟨"RansomHymn$Teller", "readPart", "(I)V"⟩, 4) := ⟨⟨by decide +kernel, by decide +kernel⟩, List.mem_of_getElem? (i := 216) (by decide +kernel), List.mem_of_getElem? (i := 710) (by decide +kernel), List.mem_of_getElem? (i := 711) (by decide +kernel)⟩
theorem lw_p13 : lw_okq (⟨"RansomHymn$Teller", "readBaker", "()V"⟩, 4) := ⟨⟨by decide +kernel, by decide +kernel⟩, List.mem_of_getElem? (i := 216) (by decide +kernel), List.mem_of_getElem? (i := 714) (by decide +kernel), List.mem_of_getElem? (i := 715) (by decide +kernel)⟩
theorem lw_p14 : lw_okq (⟨"RansomHymn$Formulas", "readValue", "(LRansomHymn$Tokens;)Z"⟩, 10) := ⟨⟨by decide +kernel, by decide +kernel⟩, List.mem_of_getElem? (i := 64) (by decide +kernel), List.mem_of_getElem? (i := 722) (by decide +kernel), List.mem_of_getElem? (i := 723) (by decide +kernel)⟩
theorem lw_p15 : lw_okq (⟨"RansomHymn$Formulas", "hold", "(I)Z"⟩, 10) := ⟨⟨by decide +kernel, by decide +kernel⟩, List.mem_of_getElem? (i := 64) (by decide +kernel), List.mem_of_getElem? (i := 726) (by decide +kernel), List.mem_of_getElem? (i := 727) (by decide +kernel)⟩
def lw_privs_1 : List (MethodName × Nat) := [(⟨"RansomHymn$Tokens", "packWords", "(Ljava/lang/String;I)V"⟩, 9), (⟨"RansomHymn", "tapeNumber", "(I)V"⟩, 15), (⟨"RansomHymn$Tokens", "readWord", "()V"⟩, 9), (⟨"RansomHymn$Tokens", "readNumber", "()V"⟩, 9), (⟨"RansomHymn$Tokens", "readSign", "()V"⟩, 9), (⟨"RansomHymn$Teller", "readTavern", "()V"⟩, 4), (⟨"RansomHymn$Teller", "begin", "(LRansomHymn$Roll;)I"⟩, 4), (⟨"RansomHymn$Teller", "number", "(II)I"⟩, 4), (⟨"RansomHymn$Teller", "readVoice", "()V"⟩, 4), (⟨"RansomHymn$Teller", "skips", "(I)Z"⟩, 4), (⟨"RansomHymn$Teller", "toldTavern", "()I"⟩, 4), (⟨"RansomHymn$Teller", "readVerse", "()V"⟩, 4), (⟨"RansomHymn$Teller", "readPart", "(I)V"⟩, 4), (⟨"RansomHymn$Teller", "readBaker", "()V"⟩, 4), (⟨"RansomHymn$Formulas", "readValue", "(LRansomHymn$Tokens;)Z"⟩, 10), (⟨"RansomHymn$Formulas", "hold", "(I)Z"⟩, 10)]
theorem lw_r1 : ∀ q ∈ lw_privs_1, lw_okq q := List.forall_mem_cons.mpr ⟨lw_p0, List.forall_mem_cons.mpr ⟨lw_p1, List.forall_mem_cons.mpr ⟨lw_p2, List.forall_mem_cons.mpr ⟨lw_p3, List.forall_mem_cons.mpr ⟨lw_p4, List.forall_mem_cons.mpr ⟨lw_p5, List.forall_mem_cons.mpr ⟨lw_p6, List.forall_mem_cons.mpr ⟨lw_p7, List.forall_mem_cons.mpr ⟨lw_p8, List.forall_mem_cons.mpr ⟨lw_p9, List.forall_mem_cons.mpr ⟨lw_p10, List.forall_mem_cons.mpr ⟨lw_p11, List.forall_mem_cons.mpr ⟨lw_p12, List.forall_mem_cons.mpr ⟨lw_p13, List.forall_mem_cons.mpr ⟨lw_p14, List.forall_mem_cons.mpr ⟨lw_p15, fun _ h => absurd h List.not_mem_nil⟩⟩⟩⟩⟩⟩⟩⟩⟩⟩⟩⟩⟩⟩⟩⟩
theorem lw_p16 : lw_okq (⟨"RansomHymn$Formulas", "topLevel", "()I"⟩, 10) := ⟨⟨by decide +kernel, by decide +kernel⟩, List.mem_of_getElem? (i := 64) (by decide +kernel), List.mem_of_getElem? (i := 731) (by decide +kernel), List.mem_of_getElem? (i := 732) (by decide +kernel)⟩
theorem lw_p17 : lw_okq (⟨"RansomHymn$Formulas", "isRoom", "(LRansomHymn$Tokens;)Z"⟩, 10) := ⟨⟨by decide +kernel, by decide +kernel⟩, List.mem_of_getElem? (i := 64) (by decide +kernel), List.mem_of_getElem? (i := 738) (by decide +kernel), List.mem_of_getElem? (i := 739) (by decide +kernel)⟩
theorem lw_p18 : lw_okq (⟨"RansomHymn$Formulas", "put", "(II)Z"⟩, 10) := ⟨⟨by decide +kernel, by decide +kernel⟩, List.mem_of_getElem? (i := 64) (by decide +kernel), List.mem_of_getElem? (i := 742) (by decide +kernel), List.mem_of_getElem? (i := 743) (by decide +kernel)⟩
theorem lw_p19 : lw_okq (⟨"RansomHymn$Formulas", "readSign", "(LRansomHymn$Tokens;)Z"⟩, 10) := ⟨⟨by decide +kernel, by decide +kernel⟩, List.mem_of_getElem? (i := 64) (by decide +kernel), List.mem_of_getElem? (i := 746) (by decide +kernel), List.mem_of_getElem? (i := 747) (by decide +kernel)⟩
theorem lw_p20 : lw_okq (⟨"RansomHymn$Formulas", "settle", "(I)V"⟩, 10) := ⟨⟨by decide +kernel, by decide +kernel⟩, List.mem_of_getElem? (i := 64) (by decide +kernel), List.mem_of_getElem? (i := 750) (by decide +kernel), List.mem_of_getElem? (i := 751) (by decide +kernel)⟩
theorem lw_p21 : lw_okq (⟨"RansomHymn$Teller", "loneNumber", "(ZI)I"⟩, 4) := ⟨⟨by decide +kernel, by decide +kernel⟩, List.mem_of_getElem? (i := 216) (by decide +kernel), List.mem_of_getElem? (i := 755) (by decide +kernel), List.mem_of_getElem? (i := 756) (by decide +kernel)⟩
theorem lw_p22 : lw_okq (⟨"RansomHymn$Teller", "readLaw", "()V"⟩, 4) := ⟨⟨by decide +kernel, by decide +kernel⟩, List.mem_of_getElem? (i := 216) (by decide +kernel), List.mem_of_getElem? (i := 760) (by decide +kernel), List.mem_of_getElem? (i := 761) (by decide +kernel)⟩
theorem lw_p23 : lw_okq (⟨"RansomHymn", "claimsOn", "(I)I"⟩, 15) := ⟨⟨by decide +kernel, by decide +kernel⟩, List.mem_of_getElem? (i := 29) (by decide +kernel), List.mem_of_getElem? (i := 800) (by decide +kernel), List.mem_of_getElem? (i := 801) (by decide +kernel)⟩
theorem lw_p24 : lw_okq (⟨"RansomHymn$Laws", "setOwner", "(III)V"⟩, 6) := ⟨⟨by decide +kernel, by decide +kernel⟩, List.mem_of_getElem? (i := 406) (by decide +kernel), List.mem_of_getElem? (i := 850) (by decide +kernel), List.mem_of_getElem? (i := 851) (by decide +kernel)⟩
theorem lw_p25 : lw_okq (⟨"RansomHymn$Laws", "setMusic", "(IIII)V"⟩, 6) := ⟨⟨by decide +kernel, by decide +kernel⟩, List.mem_of_getElem? (i := 406) (by decide +kernel), List.mem_of_getElem? (i := 865) (by decide +kernel), List.mem_of_getElem? (i := 866) (by decide +kernel)⟩
theorem lw_p26 : lw_okq (⟨"RansomHymn$Laws", "reckon", "(III)I"⟩, 6) := ⟨⟨by decide +kernel, by decide +kernel⟩, List.mem_of_getElem? (i := 406) (by decide +kernel), List.mem_of_getElem? (i := 869) (by decide +kernel), List.mem_of_getElem? (i := 870) (by decide +kernel)⟩
theorem lw_p27 : lw_okq (⟨"RansomHymn$Laws", "apply", "(II)V"⟩, 6) := ⟨⟨by decide +kernel, by decide +kernel⟩, List.mem_of_getElem? (i := 406) (by decide +kernel), List.mem_of_getElem? (i := 874) (by decide +kernel), List.mem_of_getElem? (i := 875) (by decide +kernel)⟩
theorem lw_p28 : lw_okq (⟨"RansomHymn$Laws", "push", "(J)V"⟩, 6) := ⟨⟨by decide +kernel, by decide +kernel⟩, List.mem_of_getElem? (i := 406) (by decide +kernel), List.mem_of_getElem? (i := 878) (by decide +kernel), List.mem_of_getElem? (i := 879) (by decide +kernel)⟩
theorem lw_p29 : lw_okq (⟨"RansomHymn$Laws", "pop", "()J"⟩, 6) := ⟨⟨by decide +kernel, by decide +kernel⟩, List.mem_of_getElem? (i := 406) (by decide +kernel), List.mem_of_getElem? (i := 884) (by decide +kernel), List.mem_of_getElem? (i := 885) (by decide +kernel)⟩
theorem lw_p30 : lw_okq (⟨"RansomHymn$Laws", "scale", "(IJJ)J"⟩, 6) := ⟨⟨by decide +kernel, by decide +kernel⟩, List.mem_of_getElem? (i := 406) (by decide +kernel), List.mem_of_getElem? (i := 888) (by decide +kernel), List.mem_of_getElem? (i := 889) (by decide +kernel)⟩
theorem lw_p31 : lw_okq (⟨"RansomHymn", "singsIn", "(II)Z"⟩, 15) := ⟨⟨by decide +kernel, by decide +kernel⟩, List.mem_of_getElem? (i := 29) (by decide +kernel), List.mem_of_getElem? (i := 933) (by decide +kernel), List.mem_of_getElem? (i := 934) (by decide +kernel)⟩
def lw_privs_2 : List (MethodName × Nat) := [(⟨"RansomHymn$Formulas", "topLevel", "()I"⟩, 10), (⟨"RansomHymn$Formulas", "isRoom", "(LRansomHymn$Tokens;)Z"⟩, 10), (⟨"RansomHymn$Formulas", "put", "(II)Z"⟩, 10), (⟨"RansomHymn$Formulas", "readSign", "(LRansomHymn$Tokens;)Z"⟩, 10), (⟨"RansomHymn$Formulas", "settle", "(I)V"⟩, 10), (⟨"RansomHymn$Teller", "loneNumber", "(ZI)I"⟩, 4), (⟨"RansomHymn$Teller", "readLaw", "()V"⟩, 4), (⟨"RansomHymn", "claimsOn", "(I)I"⟩, 15), (⟨"RansomHymn$Laws", "setOwner", "(III)V"⟩, 6), (⟨"RansomHymn$Laws", "setMusic", "(IIII)V"⟩, 6), (⟨"RansomHymn$Laws", "reckon", "(III)I"⟩, 6), (⟨"RansomHymn$Laws", "apply", "(II)V"⟩, 6), (⟨"RansomHymn$Laws", "push", "(J)V"⟩, 6), (⟨"RansomHymn$Laws", "pop", "()J"⟩, 6), (⟨"RansomHymn$Laws", "scale", "(IJJ)J"⟩, 6), (⟨"RansomHymn", "singsIn", "(II)Z"⟩, 15)]
theorem lw_r2 : ∀ q ∈ lw_privs_2, lw_okq q := List.forall_mem_cons.mpr ⟨lw_p16, List.forall_mem_cons.mpr ⟨lw_p17, List.forall_mem_cons.mpr ⟨lw_p18, List.forall_mem_cons.mpr ⟨lw_p19, List.forall_mem_cons.mpr ⟨lw_p20, List.forall_mem_cons.mpr ⟨lw_p21, List.forall_mem_cons.mpr ⟨lw_p22, List.forall_mem_cons.mpr ⟨lw_p23, List.forall_mem_cons.mpr ⟨lw_p24, List.forall_mem_cons.mpr ⟨lw_p25, List.forall_mem_cons.mpr ⟨lw_p26, List.forall_mem_cons.mpr ⟨lw_p27, List.forall_mem_cons.mpr ⟨lw_p28, List.forall_mem_cons.mpr ⟨lw_p29, List.forall_mem_cons.mpr ⟨lw_p30, List.forall_mem_cons.mpr ⟨lw_p31, fun _ h => absurd h List.not_mem_nil⟩⟩⟩⟩⟩⟩⟩⟩⟩⟩⟩⟩⟩⟩⟩⟩
theorem lw_p32 : lw_okq (⟨"RansomHymn", "singPart", "(I)I"⟩, 15) := ⟨⟨by decide +kernel, by decide +kernel⟩, List.mem_of_getElem? (i := 29) (by decide +kernel), List.mem_of_getElem? (i := 961) (by decide +kernel), List.mem_of_getElem? (i := 962) (by decide +kernel)⟩
theorem lw_p33 : lw_okq (⟨"RansomHymn", "crackBoys", "()V"⟩, 15) := ⟨⟨by decide +kernel, by decide +kernel⟩, List.mem_of_getElem? (i := 29) (by decide +kernel), List.mem_of_getElem? (i := 967) (by decide +kernel), List.mem_of_getElem? (i := 968) (by decide +kernel)⟩
theorem lw_p34 : lw_okq (⟨"RansomHymn$Choice", "weighPart", "(II)V"⟩, 11) := ⟨⟨by decide +kernel, by decide +kernel⟩, List.mem_of_getElem? (i := 432) (by decide +kernel), List.mem_of_getElem? (i := 993) (by decide +kernel), List.mem_of_getElem? (i := 994) (by decide +kernel)⟩
theorem lw_p35 : lw_okq (⟨"RansomHymn$Choice", "weighRows", "(I)V"⟩, 11) := ⟨⟨by decide +kernel, by decide +kernel⟩, List.mem_of_getElem? (i := 432) (by decide +kernel), List.mem_of_getElem? (i := 1001) (by decide +kernel), List.mem_of_getElem? (i := 1002) (by decide +kernel)⟩
theorem lw_p36 : lw_okq (⟨"RansomHymn$Choice", "rowsOf", "(I)I"⟩, 11) := ⟨⟨by decide +kernel, by decide +kernel⟩, List.mem_of_getElem? (i := 432) (by decide +kernel), List.mem_of_getElem? (i := 1005) (by decide +kernel), List.mem_of_getElem? (i := 1006) (by decide +kernel)⟩
theorem lw_p37 : lw_okq (⟨"RansomHymn$Choice", "fits", "(II)Z"⟩, 11) := ⟨⟨by decide +kernel, by decide +kernel⟩, List.mem_of_getElem? (i := 432) (by decide +kernel), List.mem_of_getElem? (i := 1009) (by decide +kernel), List.mem_of_getElem? (i := 1010) (by decide +kernel)⟩
theorem lw_p38 : lw_okq (⟨"RansomHymn$Choice", "joinRest", "(I)V"⟩, 11) := ⟨⟨by decide +kernel, by decide +kernel⟩, List.mem_of_getElem? (i := 432) (by decide +kernel), List.mem_of_getElem? (i := 1013) (by decide +kernel), List.mem_of_getElem? (i := 1014) (by decide +kernel)⟩
theorem lw_p39 : lw_okq (⟨"RansomHymn$Choice", "isBest", "(II)Z"⟩, 11) := ⟨⟨by decide +kernel, by decide +kernel⟩, List.mem_of_getElem? (i := 432) (by decide +kernel), List.mem_of_getElem? (i := 1035) (by decide +kernel), List.mem_of_getElem? (i := 1036) (by decide +kernel)⟩
theorem lw_p40 : lw_okq (⟨"RansomHymn$Sale", "sellVerse", "(I)V"⟩, 6) := ⟨⟨by decide +kernel, by decide +kernel⟩, List.mem_of_getElem? (i := 476) (by decide +kernel), List.mem_of_getElem? (i := 1052) (by decide +kernel), List.mem_of_getElem? (i := 1053) (by decide +kernel)⟩
theorem lw_p41 : lw_okq (⟨"RansomHymn", "knownCount", "()I"⟩, 15) := ⟨⟨by decide +kernel, by decide +kernel⟩, List.mem_of_getElem? (i := 29) (by decide +kernel), List.mem_of_getElem? (i := 1082) (by decide +kernel), List.mem_of_getElem? (i := 1083) (by decide +kernel)⟩
theorem lw_p42 : lw_okq (⟨"RansomHymn", "reachOf", "(I)J"⟩, 15) := ⟨⟨by decide +kernel, by decide +kernel⟩, List.mem_of_getElem? (i := 29) (by decide +kernel), List.mem_of_getElem? (i := 1109) (by decide +kernel), List.mem_of_getElem? (i := 1110) (by decide +kernel)⟩
theorem lw_p43 : lw_okq (⟨"RansomHymn", "isRound", "(IIII)Z"⟩, 15) := ⟨⟨by decide +kernel, by decide +kernel⟩, List.mem_of_getElem? (i := 29) (by decide +kernel), List.mem_of_getElem? (i := 1117) (by decide +kernel), List.mem_of_getElem? (i := 1118) (by decide +kernel)⟩
theorem lw_p44 : lw_okq (⟨"RansomHymn$Canon", "fill", "(IIJ)V"⟩, 10) := ⟨⟨by decide +kernel, by decide +kernel⟩, List.mem_of_getElem? (i := 504) (by decide +kernel), List.mem_of_getElem? (i := 1127) (by decide +kernel), List.mem_of_getElem? (i := 1128) (by decide +kernel)⟩
theorem lw_p45 : lw_okq (⟨"RansomHymn", "shareOf", "(II)I"⟩, 15) := ⟨⟨by decide +kernel, by decide +kernel⟩, List.mem_of_getElem? (i := 29) (by decide +kernel), List.mem_of_getElem? (i := 1146) (by decide +kernel), List.mem_of_getElem? (i := 1147) (by decide +kernel)⟩
theorem lw_p46 : lw_okq (⟨"java/lang/Throwable", "fillInStackTrace", "(I)Ljava/lang/Throwable;"⟩, 6) := ⟨⟨by decide +kernel, by decide +kernel⟩, List.mem_of_getElem? (i := 1226) (by decide +kernel), List.mem_of_getElem? (i := 1224) (by decide +kernel), List.mem_of_getElem? (i := 1225) (by decide +kernel)⟩
theorem lw_p47 : lw_okq (⟨"RansomHymnModel", "begins", "()V"⟩, 69) := ⟨⟨by decide +kernel, by decide +kernel⟩, List.mem_of_getElem? (i := 1271) (by decide +kernel), List.mem_of_getElem? (i := 1277) (by decide +kernel), List.mem_of_getElem? (i := 1278) (by decide +kernel)⟩
def lw_privs_3 : List (MethodName × Nat) := [(⟨"RansomHymn", "singPart", "(I)I"⟩, 15), (⟨"RansomHymn", "crackBoys", "()V"⟩, 15), (⟨"RansomHymn$Choice", "weighPart", "(II)V"⟩, 11), (⟨"RansomHymn$Choice", "weighRows", "(I)V"⟩, 11), (⟨"RansomHymn$Choice", "rowsOf", "(I)I"⟩, 11), (⟨"RansomHymn$Choice", "fits", "(II)Z"⟩, 11), (⟨"RansomHymn$Choice", "joinRest", "(I)V"⟩, 11), (⟨"RansomHymn$Choice", "isBest", "(II)Z"⟩, 11), (⟨"RansomHymn$Sale", "sellVerse", "(I)V"⟩, 6), (⟨"RansomHymn", "knownCount", "()I"⟩, 15), (⟨"RansomHymn", "reachOf", "(I)J"⟩, 15), (⟨"RansomHymn", "isRound", "(IIII)Z"⟩, 15), (⟨"RansomHymn$Canon", "fill", "(IIJ)V"⟩, 10), (⟨"RansomHymn", "shareOf", "(II)I"⟩, 15), (⟨"java/lang/Throwable", "fillInStackTrace", "(I)Ljava/lang/Throwable;"⟩, 6), (⟨"RansomHymnModel", "begins", "()V"⟩, 69)]
theorem lw_r3 : ∀ q ∈ lw_privs_3, lw_okq q := List.forall_mem_cons.mpr ⟨lw_p32, List.forall_mem_cons.mpr ⟨lw_p33, List.forall_mem_cons.mpr ⟨lw_p34, List.forall_mem_cons.mpr ⟨lw_p35, List.forall_mem_cons.mpr ⟨lw_p36, List.forall_mem_cons.mpr ⟨lw_p37, List.forall_mem_cons.mpr ⟨lw_p38, List.forall_mem_cons.mpr ⟨lw_p39, List.forall_mem_cons.mpr ⟨lw_p40, List.forall_mem_cons.mpr ⟨lw_p41, List.forall_mem_cons.mpr ⟨lw_p42, List.forall_mem_cons.mpr ⟨lw_p43, List.forall_mem_cons.mpr ⟨lw_p44, List.forall_mem_cons.mpr ⟨lw_p45, List.forall_mem_cons.mpr ⟨lw_p46, List.forall_mem_cons.mpr ⟨lw_p47, fun _ h => absurd h List.not_mem_nil⟩⟩⟩⟩⟩⟩⟩⟩⟩⟩⟩⟩⟩⟩⟩⟩
theorem lw_p48 : lw_okq (⟨"RansomHymnModel", "reads", "(II)V"⟩, 69) := ⟨⟨by decide +kernel, by decide +kernel⟩, List.mem_of_getElem? (i := 1271) (by decide +kernel), List.mem_of_getElem? (i := 1502) (by decide +kernel), List.mem_of_getElem? (i := 1503) (by decide +kernel)⟩
theorem lw_p49 : lw_okq (⟨"RansomHymnModel", "token", "()V"⟩, 69) := ⟨⟨by decide +kernel, by decide +kernel⟩, List.mem_of_getElem? (i := 1271) (by decide +kernel), List.mem_of_getElem? (i := 1506) (by decide +kernel), List.mem_of_getElem? (i := 1507) (by decide +kernel)⟩
theorem lw_p50 : lw_okq (⟨"RansomHymnModel", "here", "()I"⟩, 69) := ⟨⟨by decide +kernel, by decide +kernel⟩, List.mem_of_getElem? (i := 1271) (by decide +kernel), List.mem_of_getElem? (i := 1510) (by decide +kernel), List.mem_of_getElem? (i := 1511) (by decide +kernel)⟩
theorem lw_p51 : lw_okq (⟨"RansomHymnModel", "word", "()I"⟩, 69) := ⟨⟨by decide +kernel, by decide +kernel⟩, List.mem_of_getElem? (i := 1271) (by decide +kernel), List.mem_of_getElem? (i := 1517) (by decide +kernel), List.mem_of_getElem? (i := 1518) (by decide +kernel)⟩
theorem lw_p52 : lw_okq (⟨"RansomHymnModel", "name", "()V"⟩, 69) := ⟨⟨by decide +kernel, by decide +kernel⟩, List.mem_of_getElem? (i := 1271) (by decide +kernel), List.mem_of_getElem? (i := 1524) (by decide +kernel), List.mem_of_getElem? (i := 1525) (by decide +kernel)⟩
theorem lw_p53 : lw_okq (⟨"RansomHymnModel", "sign", "(I)V"⟩, 69) := ⟨⟨by decide +kernel, by decide +kernel⟩, List.mem_of_getElem? (i := 1271) (by decide +kernel), List.mem_of_getElem? (i := 1532) (by decide +kernel), List.mem_of_getElem? (i := 1533) (by decide +kernel)⟩
theorem lw_p54 : lw_okq (⟨"RansomHymnModel", "line", "()V"⟩, 69) := ⟨⟨by decide +kernel, by decide +kernel⟩, List.mem_of_getElem? (i := 1271) (by decide +kernel), List.mem_of_getElem? (i := 1536) (by decide +kernel), List.mem_of_getElem? (i := 1537) (by decide +kernel)⟩
theorem lw_p55 : lw_okq (⟨"RansomHymnModel", "wrong", "(I)V"⟩, 69) := ⟨⟨by decide +kernel, by decide +kernel⟩, List.mem_of_getElem? (i := 1271) (by decide +kernel), List.mem_of_getElem? (i := 1540) (by decide +kernel), List.mem_of_getElem? (i := 1541) (by decide +kernel)⟩
theorem lw_p56 : lw_okq (⟨"RansomHymnModel", "isFull", "(I)Z"⟩, 69) := ⟨⟨by decide +kernel, by decide +kernel⟩, List.mem_of_getElem? (i := 1271) (by decide +kernel), List.mem_of_getElem? (i := 1544) (by decide +kernel), List.mem_of_getElem? (i := 1545) (by decide +kernel)⟩
theorem lw_p57 : lw_okq (⟨"RansomHymnModel", "fresher", "(I)I"⟩, 69) := ⟨⟨by decide +kernel, by decide +kernel⟩, List.mem_of_getElem? (i := 1271) (by decide +kernel), List.mem_of_getElem? (i := 1548) (by decide +kernel), List.mem_of_getElem? (i := 1549) (by decide +kernel)⟩
theorem lw_p58 : lw_okq (⟨"RansomHymnModel", "fresh", "([III)I"⟩, 69) := ⟨⟨by decide +kernel, by decide +kernel⟩, List.mem_of_getElem? (i := 1271) (by decide +kernel), List.mem_of_getElem? (i := 1552) (by decide +kernel), List.mem_of_getElem? (i := 1553) (by decide +kernel)⟩
theorem lw_p59 : lw_okq (⟨"RansomHymnModel", "numeral", "(II)I"⟩, 69) := ⟨⟨by decide +kernel, by decide +kernel⟩, List.mem_of_getElem? (i := 1271) (by decide +kernel), List.mem_of_getElem? (i := 1559) (by decide +kernel), List.mem_of_getElem? (i := 1560) (by decide +kernel)⟩
theorem lw_p60 : lw_okq (⟨"RansomHymnModel", "voiceLine", "(I)V"⟩, 69) := ⟨⟨by decide +kernel, by decide +kernel⟩, List.mem_of_getElem? (i := 1271) (by decide +kernel), List.mem_of_getElem? (i := 1563) (by decide +kernel), List.mem_of_getElem? (i := 1564) (by decide +kernel)⟩
theorem lw_p61 : lw_okq (⟨"RansomHymnModel", "isWord", "(I)Z"⟩, 69) := ⟨⟨by decide +kernel, by decide +kernel⟩, List.mem_of_getElem? (i := 1271) (by decide +kernel), List.mem_of_getElem? (i := 1567) (by decide +kernel), List.mem_of_getElem? (i := 1568) (by decide +kernel)⟩
theorem lw_p62 : lw_okq (⟨"RansomHymnModel", "tavernAhead", "()I"⟩, 69) := ⟨⟨by decide +kernel, by decide +kernel⟩, List.mem_of_getElem? (i := 1271) (by decide +kernel), List.mem_of_getElem? (i := 1571) (by decide +kernel), List.mem_of_getElem? (i := 1572) (by decide +kernel)⟩
theorem lw_p63 : lw_okq (⟨"RansomHymnModel", "goOn", "()V"⟩, 69) := ⟨⟨by decide +kernel, by decide +kernel⟩, List.mem_of_getElem? (i := 1271) (by decide +kernel), List.mem_of_getElem? (i := 1575) (by decide +kernel), List.mem_of_getElem? (i := 1576) (by decide +kernel)⟩
def lw_privs_4 : List (MethodName × Nat) := [(⟨"RansomHymnModel", "reads", "(II)V"⟩, 69), (⟨"RansomHymnModel", "token", "()V"⟩, 69), (⟨"RansomHymnModel", "here", "()I"⟩, 69), (⟨"RansomHymnModel", "word", "()I"⟩, 69), (⟨"RansomHymnModel", "name", "()V"⟩, 69), (⟨"RansomHymnModel", "sign", "(I)V"⟩, 69), (⟨"RansomHymnModel", "line", "()V"⟩, 69), (⟨"RansomHymnModel", "wrong", "(I)V"⟩, 69), (⟨"RansomHymnModel", "isFull", "(I)Z"⟩, 69), (⟨"RansomHymnModel", "fresher", "(I)I"⟩, 69), (⟨"RansomHymnModel", "fresh", "([III)I"⟩, 69), (⟨"RansomHymnModel", "numeral", "(II)I"⟩, 69), (⟨"RansomHymnModel", "voiceLine", "(I)V"⟩, 69), (⟨"RansomHymnModel", "isWord", "(I)Z"⟩, 69), (⟨"RansomHymnModel", "tavernAhead", "()I"⟩, 69), (⟨"RansomHymnModel", "goOn", "()V"⟩, 69)]
theorem lw_r4 : ∀ q ∈ lw_privs_4, lw_okq q := List.forall_mem_cons.mpr ⟨lw_p48, List.forall_mem_cons.mpr ⟨lw_p49, List.forall_mem_cons.mpr ⟨lw_p50, List.forall_mem_cons.mpr ⟨lw_p51, List.forall_mem_cons.mpr ⟨lw_p52, List.forall_mem_cons.mpr ⟨lw_p53, List.forall_mem_cons.mpr ⟨lw_p54, List.forall_mem_cons.mpr ⟨lw_p55, List.forall_mem_cons.mpr ⟨lw_p56, List.forall_mem_cons.mpr ⟨lw_p57, List.forall_mem_cons.mpr ⟨lw_p58, List.forall_mem_cons.mpr ⟨lw_p59, List.forall_mem_cons.mpr ⟨lw_p60, List.forall_mem_cons.mpr ⟨lw_p61, List.forall_mem_cons.mpr ⟨lw_p62, List.forall_mem_cons.mpr ⟨lw_p63, fun _ h => absurd h List.not_mem_nil⟩⟩⟩⟩⟩⟩⟩⟩⟩⟩⟩⟩⟩⟩⟩⟩
theorem lw_p64 : lw_okq (⟨"RansomHymnModel", "verseLine", "(I)V"⟩, 69) := ⟨⟨by decide +kernel, by decide +kernel⟩, List.mem_of_getElem? (i := 1271) (by decide +kernel), List.mem_of_getElem? (i := 1579) (by decide +kernel), List.mem_of_getElem? (i := 1580) (by decide +kernel)⟩
theorem lw_p65 : lw_okq (⟨"RansomHymnModel", "partLine", "(I)V"⟩, 69) := ⟨⟨by decide +kernel, by decide +kernel⟩, List.mem_of_getElem? (i := 1271) (by decide +kernel), List.mem_of_getElem? (i := 1583) (by decide +kernel), List.mem_of_getElem? (i := 1584) (by decide +kernel)⟩
theorem lw_p66 : lw_okq (⟨"RansomHymnModel", "sumOf", "(I)V"⟩, 69) := ⟨⟨by decide +kernel, by decide +kernel⟩, List.mem_of_getElem? (i := 1271) (by decide +kernel), List.mem_of_getElem? (i := 1587) (by decide +kernel), List.mem_of_getElem? (i := 1588) (by decide +kernel)⟩
theorem lw_p67 : lw_okq (⟨"RansomHymnModel", "expression", "()V"⟩, 69) := ⟨⟨by decide +kernel, by decide +kernel⟩, List.mem_of_getElem? (i := 1271) (by decide +kernel), List.mem_of_getElem? (i := 1591) (by decide +kernel), List.mem_of_getElem? (i := 1592) (by decide +kernel)⟩
theorem lw_p68 : lw_okq (⟨"RansomHymnModel", "conjunction", "()V"⟩, 69) := ⟨⟨by decide +kernel, by decide +kernel⟩, List.mem_of_getElem? (i := 1271) (by decide +kernel), List.mem_of_getElem? (i := 1595) (by decide +kernel), List.mem_of_getElem? (i := 1596) (by decide +kernel)⟩
theorem lw_p69 : lw_okq (⟨"RansomHymnModel", "negation", "()V"⟩, 69) := ⟨⟨by decide +kernel, by decide +kernel⟩, List.mem_of_getElem? (i := 1271) (by decide +kernel), List.mem_of_getElem? (i := 1599) (by decide +kernel), List.mem_of_getElem? (i := 1600) (by decide +kernel)⟩
theorem lw_p70 : lw_okq (⟨"RansomHymnModel", "knot", "()V"⟩, 69) := ⟨⟨by decide +kernel, by decide +kernel⟩, List.mem_of_getElem? (i := 1271) (by decide +kernel), List.mem_of_getElem? (i := 1603) (by decide +kernel), List.mem_of_getElem? (i := 1604) (by decide +kernel)⟩
theorem lw_p71 : lw_okq (⟨"RansomHymnModel", "puts", "(II)V"⟩, 69) := ⟨⟨by decide +kernel, by decide +kernel⟩, List.mem_of_getElem? (i := 1271) (by decide +kernel), List.mem_of_getElem? (i := 1607) (by decide +kernel), List.mem_of_getElem? (i := 1608) (by decide +kernel)⟩
theorem lw_p72 : lw_okq (⟨"RansomHymnModel", "sum", "()V"⟩, 69) := ⟨⟨by decide +kernel, by decide +kernel⟩, List.mem_of_getElem? (i := 1271) (by decide +kernel), List.mem_of_getElem? (i := 1611) (by decide +kernel), List.mem_of_getElem? (i := 1612) (by decide +kernel)⟩
theorem lw_p73 : lw_okq (⟨"RansomHymnModel", "product", "()V"⟩, 69) := ⟨⟨by decide +kernel, by decide +kernel⟩, List.mem_of_getElem? (i := 1271) (by decide +kernel), List.mem_of_getElem? (i := 1615) (by decide +kernel), List.mem_of_getElem? (i := 1616) (by decide +kernel)⟩
theorem lw_p74 : lw_okq (⟨"RansomHymnModel", "primary", "()V"⟩, 69) := ⟨⟨by decide +kernel, by decide +kernel⟩, List.mem_of_getElem? (i := 1271) (by decide +kernel), List.mem_of_getElem? (i := 1619) (by decide +kernel), List.mem_of_getElem? (i := 1620) (by decide +kernel)⟩
theorem lw_p75 : lw_okq (⟨"RansomHymnModel", "isSign", "(I)Z"⟩, 69) := ⟨⟨by decide +kernel, by decide +kernel⟩, List.mem_of_getElem? (i := 1271) (by decide +kernel), List.mem_of_getElem? (i := 1623) (by decide +kernel), List.mem_of_getElem? (i := 1624) (by decide +kernel)⟩
theorem lw_p76 : lw_okq (⟨"RansomHymnModel", "lawLine", "()V"⟩, 69) := ⟨⟨by decide +kernel, by decide +kernel⟩, List.mem_of_getElem? (i := 1271) (by decide +kernel), List.mem_of_getElem? (i := 1627) (by decide +kernel), List.mem_of_getElem? (i := 1628) (by decide +kernel)⟩
theorem lw_p77 : lw_okq (⟨"RansomHymnModel", "isVoice", "(I)Z"⟩, 69) := ⟨⟨by decide +kernel, by decide +kernel⟩, List.mem_of_getElem? (i := 1271) (by decide +kernel), List.mem_of_getElem? (i := 1646) (by decide +kernel), List.mem_of_getElem? (i := 1647) (by decide +kernel)⟩
theorem lw_p78 : lw_okq (⟨"RansomHymnModel", "isCracked", "(I)Z"⟩, 69) := ⟨⟨by decide +kernel, by decide +kernel⟩, List.mem_of_getElem? (i := 1271) (by decide +kernel), List.mem_of_getElem? (i := 1650) (by decide +kernel), List.mem_of_getElem? (i := 1651) (by decide +kernel)⟩
theorem lw_p79 : lw_okq (⟨"RansomHymnModel", "isTavern", "(I)Z"⟩, 69) := ⟨⟨by decide +kernel, by decide +kernel⟩, List.mem_of_getElem? (i := 1271) (by decide +kernel), List.mem_of_getElem? (i := 1658) (by decide +kernel), List.mem_of_getElem? (i := 1659) (by decide +kernel)⟩
def lw_privs_5 : List (MethodName × Nat) := [(⟨"RansomHymnModel", "verseLine", "(I)V"⟩, 69), (⟨"RansomHymnModel", "partLine", "(I)V"⟩, 69), (⟨"RansomHymnModel", "sumOf", "(I)V"⟩, 69), (⟨"RansomHymnModel", "expression", "()V"⟩, 69), (⟨"RansomHymnModel", "conjunction", "()V"⟩, 69), (⟨"RansomHymnModel", "negation", "()V"⟩, 69), (⟨"RansomHymnModel", "knot", "()V"⟩, 69), (⟨"RansomHymnModel", "puts", "(II)V"⟩, 69), (⟨"RansomHymnModel", "sum", "()V"⟩, 69), (⟨"RansomHymnModel", "product", "()V"⟩, 69), (⟨"RansomHymnModel", "primary", "()V"⟩, 69), (⟨"RansomHymnModel", "isSign", "(I)Z"⟩, 69), (⟨"RansomHymnModel", "lawLine", "()V"⟩, 69), (⟨"RansomHymnModel", "isVoice", "(I)Z"⟩, 69), (⟨"RansomHymnModel", "isCracked", "(I)Z"⟩, 69), (⟨"RansomHymnModel", "isTavern", "(I)Z"⟩, 69)]
theorem lw_r5 : ∀ q ∈ lw_privs_5, lw_okq q := List.forall_mem_cons.mpr ⟨lw_p64, List.forall_mem_cons.mpr ⟨lw_p65, List.forall_mem_cons.mpr ⟨lw_p66, List.forall_mem_cons.mpr ⟨lw_p67, List.forall_mem_cons.mpr ⟨lw_p68, List.forall_mem_cons.mpr ⟨lw_p69, List.forall_mem_cons.mpr ⟨lw_p70, List.forall_mem_cons.mpr ⟨lw_p71, List.forall_mem_cons.mpr ⟨lw_p72, List.forall_mem_cons.mpr ⟨lw_p73, List.forall_mem_cons.mpr ⟨lw_p74, List.forall_mem_cons.mpr ⟨lw_p75, List.forall_mem_cons.mpr ⟨lw_p76, List.forall_mem_cons.mpr ⟨lw_p77, List.forall_mem_cons.mpr ⟨lw_p78, List.forall_mem_cons.mpr ⟨lw_p79, fun _ h => absurd h List.not_mem_nil⟩⟩⟩⟩⟩⟩⟩⟩⟩⟩⟩⟩⟩⟩⟩⟩
theorem lw_p80 : lw_okq (⟨"RansomHymnModel", "isVerse", "(I)Z"⟩, 69) := ⟨⟨by decide +kernel, by decide +kernel⟩, List.mem_of_getElem? (i := 1271) (by decide +kernel), List.mem_of_getElem? (i := 1666) (by decide +kernel), List.mem_of_getElem? (i := 1667) (by decide +kernel)⟩
theorem lw_p81 : lw_okq (⟨"RansomHymnModel", "isPart", "(II)Z"⟩, 69) := ⟨⟨by decide +kernel, by decide +kernel⟩, List.mem_of_getElem? (i := 1271) (by decide +kernel), List.mem_of_getElem? (i := 1670) (by decide +kernel), List.mem_of_getElem? (i := 1671) (by decide +kernel)⟩
theorem lw_p82 : lw_okq (⟨"RansomHymnModel", "dueOf", "(II)I"⟩, 69) := ⟨⟨by decide +kernel, by decide +kernel⟩, List.mem_of_getElem? (i := 1271) (by decide +kernel), List.mem_of_getElem? (i := 1682) (by decide +kernel), List.mem_of_getElem? (i := 1683) (by decide +kernel)⟩
theorem lw_p83 : lw_okq (⟨"RansomHymnModel", "calls", "(I)V"⟩, 69) := ⟨⟨by decide +kernel, by decide +kernel⟩, List.mem_of_getElem? (i := 1271) (by decide +kernel), List.mem_of_getElem? (i := 1686) (by decide +kernel), List.mem_of_getElem? (i := 1687) (by decide +kernel)⟩
theorem lw_p84 : lw_okq (⟨"RansomHymnModel", "soundsOf", "(II)I"⟩, 69) := ⟨⟨by decide +kernel, by decide +kernel⟩, List.mem_of_getElem? (i := 1271) (by decide +kernel), List.mem_of_getElem? (i := 1690) (by decide +kernel), List.mem_of_getElem? (i := 1691) (by decide +kernel)⟩
theorem lw_p85 : lw_okq (⟨"RansomHymnModel", "isSounded", "(III)Z"⟩, 69) := ⟨⟨by decide +kernel, by decide +kernel⟩, List.mem_of_getElem? (i := 1271) (by decide +kernel), List.mem_of_getElem? (i := 1694) (by decide +kernel), List.mem_of_getElem? (i := 1695) (by decide +kernel)⟩
theorem lw_p86 : lw_okq (⟨"RansomHymnModel", "reaches", "(II)Z"⟩, 69) := ⟨⟨by decide +kernel, by decide +kernel⟩, List.mem_of_getElem? (i := 1271) (by decide +kernel), List.mem_of_getElem? (i := 1698) (by decide +kernel), List.mem_of_getElem? (i := 1699) (by decide +kernel)⟩
theorem lw_p87 : lw_okq (⟨"RansomHymnModel", "restsOf", "(I)I"⟩, 69) := ⟨⟨by decide +kernel, by decide +kernel⟩, List.mem_of_getElem? (i := 1271) (by decide +kernel), List.mem_of_getElem? (i := 1702) (by decide +kernel), List.mem_of_getElem? (i := 1703) (by decide +kernel)⟩
theorem lw_p88 : lw_okq (⟨"RansomHymnModel", "highOf", "(I)I"⟩, 69) := ⟨⟨by decide +kernel, by decide +kernel⟩, List.mem_of_getElem? (i := 1271) (by decide +kernel), List.mem_of_getElem? (i := 1706) (by decide +kernel), List.mem_of_getElem? (i := 1707) (by decide +kernel)⟩
theorem lw_p89 : lw_okq (⟨"RansomHymnModel", "within", "(III)I"⟩, 69) := ⟨⟨by decide +kernel, by decide +kernel⟩, List.mem_of_getElem? (i := 1271) (by decide +kernel), List.mem_of_getElem? (i := 1711) (by decide +kernel), List.mem_of_getElem? (i := 1712) (by decide +kernel)⟩
theorem lw_p90 : lw_okq (⟨"RansomHymnModel", "goes", "(I)Z"⟩, 69) := ⟨⟨by decide +kernel, by decide +kernel⟩, List.mem_of_getElem? (i := 1271) (by decide +kernel), List.mem_of_getElem? (i := 1715) (by decide +kernel), List.mem_of_getElem? (i := 1716) (by decide +kernel)⟩
theorem lw_p91 : lw_okq (⟨"RansomHymnModel", "works", "(I)Z"⟩, 69) := ⟨⟨by decide +kernel, by decide +kernel⟩, List.mem_of_getElem? (i := 1271) (by decide +kernel), List.mem_of_getElem? (i := 1719) (by decide +kernel), List.mem_of_getElem? (i := 1720) (by decide +kernel)⟩
theorem lw_p92 : lw_okq (⟨"RansomHymnModel", "bidOf", "(III)I"⟩, 69) := ⟨⟨by decide +kernel, by decide +kernel⟩, List.mem_of_getElem? (i := 1271) (by decide +kernel), List.mem_of_getElem? (i := 1739) (by decide +kernel), List.mem_of_getElem? (i := 1740) (by decide +kernel)⟩
theorem lw_p93 : lw_okq (⟨"RansomHymnModel", "crackOf", "(II)I"⟩, 69) := ⟨⟨by decide +kernel, by decide +kernel⟩, List.mem_of_getElem? (i := 1271) (by decide +kernel), List.mem_of_getElem? (i := 1748) (by decide +kernel), List.mem_of_getElem? (i := 1749) (by decide +kernel)⟩
theorem lw_p94 : lw_okq (⟨"RansomHymnModel", "singsIn", "(II)Z"⟩, 69) := ⟨⟨by decide +kernel, by decide +kernel⟩, List.mem_of_getElem? (i := 1271) (by decide +kernel), List.mem_of_getElem? (i := 1756) (by decide +kernel), List.mem_of_getElem? (i := 1757) (by decide +kernel)⟩
theorem lw_p95 : lw_okq (⟨"RansomHymnModel", "draw", "()I"⟩, 69) := ⟨⟨by decide +kernel, by decide +kernel⟩, List.mem_of_getElem? (i := 1271) (by decide +kernel), List.mem_of_getElem? (i := 1776) (by decide +kernel), List.mem_of_getElem? (i := 1777) (by decide +kernel)⟩
def lw_privs_6 : List (MethodName × Nat) := [(⟨"RansomHymnModel", "isVerse", "(I)Z"⟩, 69), (⟨"RansomHymnModel", "isPart", "(II)Z"⟩, 69), (⟨"RansomHymnModel", "dueOf", "(II)I"⟩, 69), (⟨"RansomHymnModel", "calls", "(I)V"⟩, 69), (⟨"RansomHymnModel", "soundsOf", "(II)I"⟩, 69), (⟨"RansomHymnModel", "isSounded", "(III)Z"⟩, 69), (⟨"RansomHymnModel", "reaches", "(II)Z"⟩, 69), (⟨"RansomHymnModel", "restsOf", "(I)I"⟩, 69), (⟨"RansomHymnModel", "highOf", "(I)I"⟩, 69), (⟨"RansomHymnModel", "within", "(III)I"⟩, 69), (⟨"RansomHymnModel", "goes", "(I)Z"⟩, 69), (⟨"RansomHymnModel", "works", "(I)Z"⟩, 69), (⟨"RansomHymnModel", "bidOf", "(III)I"⟩, 69), (⟨"RansomHymnModel", "crackOf", "(II)I"⟩, 69), (⟨"RansomHymnModel", "singsIn", "(II)Z"⟩, 69), (⟨"RansomHymnModel", "draw", "()I"⟩, 69)]
theorem lw_r6 : ∀ q ∈ lw_privs_6, lw_okq q := List.forall_mem_cons.mpr ⟨lw_p80, List.forall_mem_cons.mpr ⟨lw_p81, List.forall_mem_cons.mpr ⟨lw_p82, List.forall_mem_cons.mpr ⟨lw_p83, List.forall_mem_cons.mpr ⟨lw_p84, List.forall_mem_cons.mpr ⟨lw_p85, List.forall_mem_cons.mpr ⟨lw_p86, List.forall_mem_cons.mpr ⟨lw_p87, List.forall_mem_cons.mpr ⟨lw_p88, List.forall_mem_cons.mpr ⟨lw_p89, List.forall_mem_cons.mpr ⟨lw_p90, List.forall_mem_cons.mpr ⟨lw_p91, List.forall_mem_cons.mpr ⟨lw_p92, List.forall_mem_cons.mpr ⟨lw_p93, List.forall_mem_cons.mpr ⟨lw_p94, List.forall_mem_cons.mpr ⟨lw_p95, fun _ h => absurd h List.not_mem_nil⟩⟩⟩⟩⟩⟩⟩⟩⟩⟩⟩⟩⟩⟩⟩⟩
theorem lw_p96 : lw_okq (⟨"RansomHymnModel", "layBest", "(I)V"⟩, 69) := ⟨⟨by decide +kernel, by decide +kernel⟩, List.mem_of_getElem? (i := 1271) (by decide +kernel), List.mem_of_getElem? (i := 1789) (by decide +kernel), List.mem_of_getElem? (i := 1790) (by decide +kernel)⟩
theorem lw_p97 : lw_okq (⟨"RansomHymnModel", "layDues", "()V"⟩, 69) := ⟨⟨by decide +kernel, by decide +kernel⟩, List.mem_of_getElem? (i := 1271) (by decide +kernel), List.mem_of_getElem? (i := 1793) (by decide +kernel), List.mem_of_getElem? (i := 1794) (by decide +kernel)⟩
theorem lw_p98 : lw_okq (⟨"RansomHymnModel", "starts", "()V"⟩, 69) := ⟨⟨by decide +kernel, by decide +kernel⟩, List.mem_of_getElem? (i := 1271) (by decide +kernel), List.mem_of_getElem? (i := 1797) (by decide +kernel), List.mem_of_getElem? (i := 1798) (by decide +kernel)⟩
theorem lw_p99 : lw_okq (⟨"RansomHymnModel", "mayBe", "(I)Z"⟩, 69) := ⟨⟨by decide +kernel, by decide +kernel⟩, List.mem_of_getElem? (i := 1271) (by decide +kernel), List.mem_of_getElem? (i := 1801) (by decide +kernel), List.mem_of_getElem? (i := 1802) (by decide +kernel)⟩
theorem lw_p100 : lw_okq (⟨"RansomHymnModel", "costOf", "(I)I"⟩, 69) := ⟨⟨by decide +kernel, by decide +kernel⟩, List.mem_of_getElem? (i := 1271) (by decide +kernel), List.mem_of_getElem? (i := 1805) (by decide +kernel), List.mem_of_getElem? (i := 1806) (by decide +kernel)⟩
theorem lw_p101 : lw_okq (⟨"RansomHymnModel", "gainOf", "(I)I"⟩, 69) := ⟨⟨by decide +kernel, by decide +kernel⟩, List.mem_of_getElem? (i := 1271) (by decide +kernel), List.mem_of_getElem? (i := 1809) (by decide +kernel), List.mem_of_getElem? (i := 1810) (by decide +kernel)⟩
theorem lw_p102 : lw_okq (⟨"RansomHymnModel", "tries", "(IIII)V"⟩, 69) := ⟨⟨by decide +kernel, by decide +kernel⟩, List.mem_of_getElem? (i := 1271) (by decide +kernel), List.mem_of_getElem? (i := 1813) (by decide +kernel), List.mem_of_getElem? (i := 1814) (by decide +kernel)⟩
theorem lw_p103 : lw_okq (⟨"RansomHymnModel", "goesNext", "(I)Z"⟩, 69) := ⟨⟨by decide +kernel, by decide +kernel⟩, List.mem_of_getElem? (i := 1271) (by decide +kernel), List.mem_of_getElem? (i := 1817) (by decide +kernel), List.mem_of_getElem? (i := 1818) (by decide +kernel)⟩
theorem lw_p104 : lw_okq (⟨"RansomHymnModel", "isBest", "(II)Z"⟩, 69) := ⟨⟨by decide +kernel, by decide +kernel⟩, List.mem_of_getElem? (i := 1271) (by decide +kernel), List.mem_of_getElem? (i := 1825) (by decide +kernel), List.mem_of_getElem? (i := 1826) (by decide +kernel)⟩
theorem lw_p105 : lw_okq (⟨"RansomHymnModel", "areVerses", "(I)Z"⟩, 69) := ⟨⟨by decide +kernel, by decide +kernel⟩, List.mem_of_getElem? (i := 1271) (by decide +kernel), List.mem_of_getElem? (i := 1833) (by decide +kernel), List.mem_of_getElem? (i := 1834) (by decide +kernel)⟩
theorem lw_p106 : lw_okq (⟨"RansomHymnModel", "sells", "(II)I"⟩, 69) := ⟨⟨by decide +kernel, by decide +kernel⟩, List.mem_of_getElem? (i := 1271) (by decide +kernel), List.mem_of_getElem? (i := 1837) (by decide +kernel), List.mem_of_getElem? (i := 1838) (by decide +kernel)⟩
theorem lw_p107 : lw_okq (⟨"RansomHymnModel", "strikes", "()V"⟩, 69) := ⟨⟨by decide +kernel, by decide +kernel⟩, List.mem_of_getElem? (i := 1271) (by decide +kernel), List.mem_of_getElem? (i := 1861) (by decide +kernel), List.mem_of_getElem? (i := 1862) (by decide +kernel)⟩
theorem lw_p108 : lw_okq (⟨"RansomHymnModel", "knownMany", "()I"⟩, 69) := ⟨⟨by decide +kernel, by decide +kernel⟩, List.mem_of_getElem? (i := 1271) (by decide +kernel), List.mem_of_getElem? (i := 1865) (by decide +kernel), List.mem_of_getElem? (i := 1866) (by decide +kernel)⟩
theorem lw_p109 : lw_okq (⟨"RansomHymnModel", "isThief", "(I)Z"⟩, 69) := ⟨⟨by decide +kernel, by decide +kernel⟩, List.mem_of_getElem? (i := 1271) (by decide +kernel), List.mem_of_getElem? (i := 1869) (by decide +kernel), List.mem_of_getElem? (i := 1870) (by decide +kernel)⟩
theorem lw_p110 : lw_okq (⟨"RansomHymnModel", "isHummed", "(I)Z"⟩, 69) := ⟨⟨by decide +kernel, by decide +kernel⟩, List.mem_of_getElem? (i := 1271) (by decide +kernel), List.mem_of_getElem? (i := 1873) (by decide +kernel), List.mem_of_getElem? (i := 1874) (by decide +kernel)⟩
theorem lw_p111 : lw_okq (⟨"RansomHymnModel", "isGang", "(I)Z"⟩, 69) := ⟨⟨by decide +kernel, by decide +kernel⟩, List.mem_of_getElem? (i := 1271) (by decide +kernel), List.mem_of_getElem? (i := 1892) (by decide +kernel), List.mem_of_getElem? (i := 1893) (by decide +kernel)⟩
def lw_privs_7 : List (MethodName × Nat) := [(⟨"RansomHymnModel", "layBest", "(I)V"⟩, 69), (⟨"RansomHymnModel", "layDues", "()V"⟩, 69), (⟨"RansomHymnModel", "starts", "()V"⟩, 69), (⟨"RansomHymnModel", "mayBe", "(I)Z"⟩, 69), (⟨"RansomHymnModel", "costOf", "(I)I"⟩, 69), (⟨"RansomHymnModel", "gainOf", "(I)I"⟩, 69), (⟨"RansomHymnModel", "tries", "(IIII)V"⟩, 69), (⟨"RansomHymnModel", "goesNext", "(I)Z"⟩, 69), (⟨"RansomHymnModel", "isBest", "(II)Z"⟩, 69), (⟨"RansomHymnModel", "areVerses", "(I)Z"⟩, 69), (⟨"RansomHymnModel", "sells", "(II)I"⟩, 69), (⟨"RansomHymnModel", "strikes", "()V"⟩, 69), (⟨"RansomHymnModel", "knownMany", "()I"⟩, 69), (⟨"RansomHymnModel", "isThief", "(I)Z"⟩, 69), (⟨"RansomHymnModel", "isHummed", "(I)Z"⟩, 69), (⟨"RansomHymnModel", "isGang", "(I)Z"⟩, 69)]
theorem lw_r7 : ∀ q ∈ lw_privs_7, lw_okq q := List.forall_mem_cons.mpr ⟨lw_p96, List.forall_mem_cons.mpr ⟨lw_p97, List.forall_mem_cons.mpr ⟨lw_p98, List.forall_mem_cons.mpr ⟨lw_p99, List.forall_mem_cons.mpr ⟨lw_p100, List.forall_mem_cons.mpr ⟨lw_p101, List.forall_mem_cons.mpr ⟨lw_p102, List.forall_mem_cons.mpr ⟨lw_p103, List.forall_mem_cons.mpr ⟨lw_p104, List.forall_mem_cons.mpr ⟨lw_p105, List.forall_mem_cons.mpr ⟨lw_p106, List.forall_mem_cons.mpr ⟨lw_p107, List.forall_mem_cons.mpr ⟨lw_p108, List.forall_mem_cons.mpr ⟨lw_p109, List.forall_mem_cons.mpr ⟨lw_p110, List.forall_mem_cons.mpr ⟨lw_p111, fun _ h => absurd h List.not_mem_nil⟩⟩⟩⟩⟩⟩⟩⟩⟩⟩⟩⟩⟩⟩⟩⟩
theorem lw_p112 : lw_okq (⟨"RansomHymnModel", "rows", "(IIIII)V"⟩, 69) := ⟨⟨by decide +kernel, by decide +kernel⟩, List.mem_of_getElem? (i := 1271) (by decide +kernel), List.mem_of_getElem? (i := 1903) (by decide +kernel), List.mem_of_getElem? (i := 1904) (by decide +kernel)⟩
theorem lw_p113 : lw_okq (⟨"RansomHymnModel", "hasOf", "(II)I"⟩, 69) := ⟨⟨by decide +kernel, by decide +kernel⟩, List.mem_of_getElem? (i := 1271) (by decide +kernel), List.mem_of_getElem? (i := 1915) (by decide +kernel), List.mem_of_getElem? (i := 1916) (by decide +kernel)⟩
theorem lw_p114 : lw_okq (⟨"RansomHymnModel", "copies", "(II)V"⟩, 69) := ⟨⟨by decide +kernel, by decide +kernel⟩, List.mem_of_getElem? (i := 1271) (by decide +kernel), List.mem_of_getElem? (i := 1933) (by decide +kernel), List.mem_of_getElem? (i := 1934) (by decide +kernel)⟩
def lw_privs_8 : List (MethodName × Nat) := [(⟨"RansomHymnModel", "rows", "(IIIII)V"⟩, 69), (⟨"RansomHymnModel", "hasOf", "(II)I"⟩, 69), (⟨"RansomHymnModel", "copies", "(II)V"⟩, 69)]
theorem lw_r8 : ∀ q ∈ lw_privs_8, lw_okq q := List.forall_mem_cons.mpr ⟨lw_p112, List.forall_mem_cons.mpr ⟨lw_p113, List.forall_mem_cons.mpr ⟨lw_p114, fun _ h => absurd h List.not_mem_nil⟩⟩⟩
def lw_privs : List (MethodName × Nat) := lw_privs_1 ++ (lw_privs_2 ++ (lw_privs_3 ++ (lw_privs_4 ++ (lw_privs_5 ++ (lw_privs_6 ++ (lw_privs_7 ++ (lw_privs_8)))))))
def lw_tbl : List Cond := k2_sels lw_privs ++ tables_1
theorem lw_privs_ok : ∀ q ∈ lw_privs, lw_okq q := by
  show ∀ q ∈ lw_privs_1 ++ (lw_privs_2 ++ (lw_privs_3 ++ (lw_privs_4 ++ (lw_privs_5 ++ (lw_privs_6 ++ (lw_privs_7 ++ (lw_privs_8))))))), lw_okq q
  exact List.forall_mem_append.mpr ⟨lw_r1, List.forall_mem_append.mpr ⟨lw_r2, List.forall_mem_append.mpr ⟨lw_r3, List.forall_mem_append.mpr ⟨lw_r4, List.forall_mem_append.mpr ⟨lw_r5, List.forall_mem_append.mpr ⟨lw_r6, List.forall_mem_append.mpr ⟨lw_r7, lw_r8⟩⟩⟩⟩⟩⟩⟩
end
section
/-! ===== BEGIN words of one list among another's, by their places ===== -/
theorem goodIn_r {big : List Cond} (ws : List Cond) (ps : List Nat) (hp : ws = ps.filterMap (fun i => big[i]?)) (h : ws.all goodWord = true) : GoodIn big ws := by
  intro w hw
  have h1 := List.all_eq_true.mp h w hw
  rw [hp] at hw
  obtain ⟨i, -, hi⟩ := List.mem_filterMap.mp hw
  have hm : w ∈ big := by first | exact List.mem_of_getElem? hi | exact List.getElem?_mem hi
  exact ⟨hm, good_of_word h1⟩
theorem goodIn_app {big a b : List Cond} (ha : GoodIn big a) (hb : GoodIn big b) : GoodIn big (a ++ b) := fun w h => (List.mem_append.mp h).elim (ha w) (hb w)
theorem goodIn_ca {big a b : List Cond} {c : Cond} (ha : GoodIn big (c :: a)) (hb : GoodIn big b) : GoodIn big (c :: (a ++ b)) := fun w h => (List.mem_cons.mp h).elim (fun e => ha w (List.mem_cons.mpr (Or.inl e))) (fun h => (List.mem_append.mp h).elim (fun h => ha w (List.mem_cons.mpr (Or.inr h))) (hb w))
theorem goodIn_sub {big ws : List Cond} (hm : ∀ w ∈ ws, w ∈ big) (h : ws.all goodWord = true) : GoodIn big ws := fun w hw => ⟨hm w hw, good_of_word (List.all_eq_true.mp h w hw)⟩
/-! ===== END ===== -/
end
section
def RX0 : String := "RansomHymn$Canon"
def TX0 : u_T := fun k => match k with
  | 0 => ("RansomHymn$Canon", "hymn", "LRansomHymn$Hymn;", true)
  | 1 => ("RansomHymn$Canon", "now", "LRansomHymn$World;", true)
  | 2 => ("RansomHymn$Canon", "laws", "LRansomHymn$Laws;", true)
  | 3 => ("RansomHymn$Canon", "heardBars", "[I", true)
  | 4 => ("RansomHymn$Canon", "row", "[I", true)
  | 5 => ("RansomHymn$Canon", "bestRow", "[I", true)
  | 6 => ("RansomHymn$Canon", "many", "I", false)
  | 7 => ("RansomHymn$Canon", "behind", "I", false)
  | 8 => ("RansomHymn$Canon", "length", "I", false)
  | _ => ("RansomHymn$Canon", "fewest", "I", false)
def tyX0 : Nat → FieldType := fun k => match k with
  | 0 => .object "RansomHymn$Hymn"
  | 1 => .object "RansomHymn$World"
  | 2 => .object "RansomHymn$Laws"
  | 3 => .array .int
  | 4 => .array .int
  | 5 => .array .int
  | 6 => .int
  | 7 => .int
  | 8 => .int
  | _ => .int
abbrev wsX00 : List Cond := u_ws RX0 TX0 10
theorem nmX0 : ∀ a, a < 10 → ∀ b, b < 10 → a ≠ b → (TX0 a).2.1 ≠ (TX0 b).2.1 := by decide +kernel
theorem tyX0_ok : ∀ k, k < 10 → parseFieldDescriptor (TX0 k).2.2.1 = some (tyX0 k) := by decide +kernel
abbrev cX0_init : ByteArray := prog_2_method_1_code
def yX0_init : MethodName := ⟨RX0, "<init>", "(LRansomHymn$Hymn;LRansomHymn$World;LRansomHymn$Laws;)V"⟩
abbrev cX0_fewestGaps : ByteArray := prog_2_method_2_code
def yX0_fewestGaps : MethodName := ⟨RX0, "fewestGaps", "(III)I"⟩
abbrev cX0_fill : ByteArray := prog_2_method_3_code
def yX0_fill : MethodName := ⟨RX0, "fill", "(IIJ)V"⟩
def RX1 : String := "RansomHymn$Choice"
def TX1 : u_T := fun k => match k with
  | 0 => ("RansomHymn$Choice", "hymn", "LRansomHymn$Hymn;", true)
  | 1 => ("RansomHymn$Choice", "now", "LRansomHymn$World;", true)
  | 2 => ("RansomHymn$Choice", "laws", "LRansomHymn$Laws;", true)
  | 3 => ("RansomHymn$Choice", "notes", "[I", true)
  | 4 => ("RansomHymn$Choice", "crowns", "[I", true)
  | 5 => ("RansomHymn$Choice", "verseCrowns", "[I", true)
  | 6 => ("RansomHymn$Choice", "restCrowns", "[[I", true)
  | 7 => ("RansomHymn$Choice", "singers", "[I", true)
  | 8 => ("RansomHymn$Choice", "rowNotes", "I", false)
  | 9 => ("RansomHymn$Choice", "rowCrowns", "I", false)
  | _ => ("RansomHymn$Choice", "weighed", "Z", false)
def tyX1 : Nat → FieldType := fun k => match k with
  | 0 => .object "RansomHymn$Hymn"
  | 1 => .object "RansomHymn$World"
  | 2 => .object "RansomHymn$Laws"
  | 3 => .array .int
  | 4 => .array .int
  | 5 => .array .int
  | 6 => .array (.array .int)
  | 7 => .array .int
  | 8 => .int
  | 9 => .int
  | _ => .boolean
abbrev wsX10 : List Cond := u_ws RX1 TX1 11
theorem nmX1 : ∀ a, a < 11 → ∀ b, b < 11 → a ≠ b → (TX1 a).2.1 ≠ (TX1 b).2.1 := by decide +kernel
theorem tyX1_ok : ∀ k, k < 11 → parseFieldDescriptor (TX1 k).2.2.1 = some (tyX1 k) := by decide +kernel
abbrev cX1_init : ByteArray := prog_3_method_1_code
def yX1_init : MethodName := ⟨RX1, "<init>", "(LRansomHymn$Hymn;LRansomHymn$World;LRansomHymn$Laws;)V"⟩
abbrev cX1_mostNotes : ByteArray := prog_3_method_2_code
def yX1_mostNotes : MethodName := ⟨RX1, "mostNotes", "(I)I"⟩
abbrev cX1_crownsFor : ByteArray := prog_3_method_3_code
def yX1_crownsFor : MethodName := ⟨RX1, "crownsFor", "(I)I"⟩
abbrev cX1_weigh : ByteArray := prog_3_method_4_code
def yX1_weigh : MethodName := ⟨RX1, "weigh", "()V"⟩
abbrev cX1_choose : ByteArray := prog_3_method_5_code
def yX1_choose : MethodName := ⟨RX1, "choose", "(I)V"⟩
abbrev cX1_isBest : ByteArray := prog_3_method_6_code
def yX1_isBest : MethodName := ⟨RX1, "isBest", "(II)Z"⟩
abbrev cX1_weighPart : ByteArray := prog_3_method_7_code
def yX1_weighPart : MethodName := ⟨RX1, "weighPart", "(II)V"⟩
abbrev cX1_weighRows : ByteArray := prog_3_method_8_code
def yX1_weighRows : MethodName := ⟨RX1, "weighRows", "(I)V"⟩
abbrev cX1_joinRest : ByteArray := prog_3_method_9_code
def yX1_joinRest : MethodName := ⟨RX1, "joinRest", "(I)V"⟩
abbrev cX1_rowsOf : ByteArray := prog_3_method_10_code
def yX1_rowsOf : MethodName := ⟨RX1, "rowsOf", "(I)I"⟩
abbrev cX1_fits : ByteArray := prog_3_method_11_code
def yX1_fits : MethodName := ⟨RX1, "fits", "(II)Z"⟩
def RX2 : String := "RansomHymn$Formulas"
def TX2 : u_T := fun k => match k with
  | 0 => ("RansomHymn$Formulas", "kinds", "[I", true)
  | 1 => ("RansomHymn$Formulas", "values", "[I", true)
  | 2 => ("RansomHymn$Formulas", "from", "[I", true)
  | 3 => ("RansomHymn$Formulas", "to", "[I", true)
  | 4 => ("RansomHymn$Formulas", "size", "I", false)
  | 5 => ("RansomHymn$Formulas", "waiting", "[I", true)
  | 6 => ("RansomHymn$Formulas", "depth", "I", false)
  | 7 => ("RansomHymn$Formulas", "open", "I", false)
  | 8 => ("RansomHymn$Formulas", "knots", "I", false)
  | _ => ("RansomHymn$Formulas", "wantsValue", "Z", false)
def tyX2 : Nat → FieldType := fun k => match k with
  | 0 => .array .int
  | 1 => .array .int
  | 2 => .array .int
  | 3 => .array .int
  | 4 => .int
  | 5 => .array .int
  | 6 => .int
  | 7 => .int
  | 8 => .int
  | _ => .boolean
abbrev wsX20 : List Cond := u_ws RX2 TX2 10
theorem nmX2 : ∀ a, a < 10 → ∀ b, b < 10 → a ≠ b → (TX2 a).2.1 ≠ (TX2 b).2.1 := by decide +kernel
theorem tyX2_ok : ∀ k, k < 10 → parseFieldDescriptor (TX2 k).2.2.1 = some (tyX2 k) := by decide +kernel
abbrev cX2_init : ByteArray := prog_4_method_1_code
def yX2_init : MethodName := ⟨RX2, "<init>", "()V"⟩
abbrev cX2_clear : ByteArray := prog_4_method_2_code
def yX2_clear : MethodName := ⟨RX2, "clear", "()V"⟩
abbrev cX2_take : ByteArray := prog_4_method_3_code
def yX2_take : MethodName := ⟨RX2, "take", "(LRansomHymn$Formulas;)V"⟩
abbrev cX2_isTold : ByteArray := prog_4_method_4_code
def yX2_isTold : MethodName := ⟨RX2, "isTold", "(I)Z"⟩
abbrev cX2_tell : ByteArray := prog_4_method_5_code
def yX2_tell : MethodName := ⟨RX2, "tell", "(ILRansomHymn$Tokens;)V"⟩
abbrev cX2_readValue : ByteArray := prog_4_method_6_code
def yX2_readValue : MethodName := ⟨RX2, "readValue", "(LRansomHymn$Tokens;)Z"⟩
abbrev cX2_readSign : ByteArray := prog_4_method_7_code
def yX2_readSign : MethodName := ⟨RX2, "readSign", "(LRansomHymn$Tokens;)Z"⟩
abbrev cX2_isRoom : ByteArray := prog_4_method_8_code
def yX2_isRoom : MethodName := ⟨RX2, "isRoom", "(LRansomHymn$Tokens;)Z"⟩
abbrev cX2_hold : ByteArray := prog_4_method_9_code
def yX2_hold : MethodName := ⟨RX2, "hold", "(I)Z"⟩
abbrev cX2_topLevel : ByteArray := prog_4_method_10_code
def yX2_topLevel : MethodName := ⟨RX2, "topLevel", "()I"⟩
abbrev cX2_settle : ByteArray := prog_4_method_11_code
def yX2_settle : MethodName := ⟨RX2, "settle", "(I)V"⟩
abbrev cX2_put : ByteArray := prog_4_method_12_code
def yX2_put : MethodName := ⟨RX2, "put", "(II)Z"⟩
abbrev cX2_levelOf : ByteArray := prog_4_method_13_code
def yX2_levelOf : MethodName := ⟨RX2, "levelOf", "(I)I"⟩
def RX3 : String := "RansomHymn$Hums"
def TX3 : u_T := fun k => match k with
  | 0 => ("RansomHymn$Hums", "hummed", "[I", true)
  | _ => ("RansomHymn$Hums", "size", "I", false)
def tyX3 : Nat → FieldType := fun k => match k with
  | 0 => .array .int
  | _ => .int
abbrev wsX30 : List Cond := u_ws RX3 TX3 2
theorem nmX3 : ∀ a, a < 2 → ∀ b, b < 2 → a ≠ b → (TX3 a).2.1 ≠ (TX3 b).2.1 := by decide +kernel
theorem tyX3_ok : ∀ k, k < 2 → parseFieldDescriptor (TX3 k).2.2.1 = some (tyX3 k) := by decide +kernel
abbrev cX3_init : ByteArray := prog_5_method_1_code
def yX3_init : MethodName := ⟨RX3, "<init>", "()V"⟩
abbrev cX3_add : ByteArray := prog_5_method_2_code
def yX3_add : MethodName := ⟨RX3, "add", "(I)I"⟩
abbrev cX3_pitches : ByteArray := prog_5_method_3_code
def yX3_pitches : MethodName := ⟨RX3, "pitches", "(I)J"⟩
def RX4 : String := "RansomHymn$Hymn"
def TX4 : u_T := fun k => match k with
  | 0 => ("RansomHymn$Hymn", "taverns", "LRansomHymn$Roll;", true)
  | 1 => ("RansomHymn$Hymn", "voices", "LRansomHymn$Roll;", true)
  | 2 => ("RansomHymn$Hymn", "verses", "LRansomHymn$Roll;", true)
  | 3 => ("RansomHymn$Hymn", "bakers", "LRansomHymn$Roll;", true)
  | 4 => ("RansomHymn$Hymn", "rates", "[I", true)
  | 5 => ("RansomHymn$Hymn", "tills", "[I", true)
  | 6 => ("RansomHymn$Hymn", "lows", "[I", true)
  | 7 => ("RansomHymn$Hymn", "highs", "[I", true)
  | 8 => ("RansomHymn$Hymn", "homes", "[I", true)
  | 9 => ("RansomHymn$Hymn", "debts", "[I", true)
  | 10 => ("RansomHymn$Hymn", "chances", "[I", true)
  | 11 => ("RansomHymn$Hymn", "partsOf", "[I", true)
  | 12 => ("RansomHymn$Hymn", "barsOf", "[I", true)
  | 13 => ("RansomHymn$Hymn", "pitches", "[I", true)
  | 14 => ("RansomHymn$Hymn", "bakerPurses", "[I", true)
  | 15 => ("RansomHymn$Hymn", "formulas", "LRansomHymn$Formulas;", true)
  | 16 => ("RansomHymn$Hymn", "boys", "I", false)
  | 17 => ("RansomHymn$Hymn", "purse", "I", false)
  | _ => ("RansomHymn$Hymn", "seed", "I", false)
def tyX4 : Nat → FieldType := fun k => match k with
  | 0 => .object "RansomHymn$Roll"
  | 1 => .object "RansomHymn$Roll"
  | 2 => .object "RansomHymn$Roll"
  | 3 => .object "RansomHymn$Roll"
  | 4 => .array .int
  | 5 => .array .int
  | 6 => .array .int
  | 7 => .array .int
  | 8 => .array .int
  | 9 => .array .int
  | 10 => .array .int
  | 11 => .array .int
  | 12 => .array .int
  | 13 => .array .int
  | 14 => .array .int
  | 15 => .object "RansomHymn$Formulas"
  | 16 => .int
  | 17 => .int
  | _ => .int
abbrev wsX40 : List Cond := u_ws RX4 TX4 19
theorem nmX4 : ∀ a, a < 19 → ∀ b, b < 19 → a ≠ b → (TX4 a).2.1 ≠ (TX4 b).2.1 := by decide +kernel
theorem tyX4_ok : ∀ k, k < 19 → parseFieldDescriptor (TX4 k).2.2.1 = some (tyX4 k) := by decide +kernel
abbrev cX4_init : ByteArray := prog_6_method_1_code
def yX4_init : MethodName := ⟨RX4, "<init>", "()V"⟩
abbrev cX4_clear : ByteArray := prog_6_method_2_code
def yX4_clear : MethodName := ⟨RX4, "clear", "()V"⟩
abbrev cX4_take : ByteArray := prog_6_method_3_code
def yX4_take : MethodName := ⟨RX4, "take", "(LRansomHymn$Hymn;)V"⟩
abbrev cX4_hasPart : ByteArray := prog_6_method_4_code
def yX4_hasPart : MethodName := ⟨RX4, "hasPart", "(II)Z"⟩
abbrev cX4_hasVerses : ByteArray := prog_6_method_5_code
def yX4_hasVerses : MethodName := ⟨RX4, "hasVerses", "(I)Z"⟩
abbrev cX4_isBoy : ByteArray := prog_6_method_6_code
def yX4_isBoy : MethodName := ⟨RX4, "isBoy", "(I)Z"⟩
abbrev cX4_pitchAt : ByteArray := prog_6_method_7_code
def yX4_pitchAt : MethodName := ⟨RX4, "pitchAt", "(II)I"⟩
abbrev cX4_restsIn : ByteArray := prog_6_method_8_code
def yX4_restsIn : MethodName := ⟨RX4, "restsIn", "(I)I"⟩
abbrev cX4_highestIn : ByteArray := prog_6_method_9_code
def yX4_highestIn : MethodName := ⟨RX4, "highestIn", "(I)I"⟩
abbrev cX4_reach : ByteArray := prog_6_method_10_code
def yX4_reach : MethodName := ⟨RX4, "reach", "(I)J"⟩
abbrev cX4_reachedBars : ByteArray := prog_6_method_11_code
def yX4_reachedBars : MethodName := ⟨RX4, "reachedBars", "(II)I"⟩
def RX5 : String := "RansomHymn$Laws"
def TX5 : u_T := fun k => match k with
  | 0 => ("RansomHymn$Laws", "hymn", "LRansomHymn$Hymn;", true)
  | 1 => ("RansomHymn$Laws", "now", "LRansomHymn$World;", true)
  | 2 => ("RansomHymn$Laws", "names", "[J", true)
  | 3 => ("RansomHymn$Laws", "stack", "[J", true)
  | 4 => ("RansomHymn$Laws", "top", "I", false)
  | _ => ("RansomHymn$Laws", "error", "Z", false)
def tyX5 : Nat → FieldType := fun k => match k with
  | 0 => .object "RansomHymn$Hymn"
  | 1 => .object "RansomHymn$World"
  | 2 => .array .long
  | 3 => .array .long
  | 4 => .int
  | _ => .boolean
abbrev wsX50 : List Cond := u_ws RX5 TX5 6
theorem nmX5 : ∀ a, a < 6 → ∀ b, b < 6 → a ≠ b → (TX5 a).2.1 ≠ (TX5 b).2.1 := by decide +kernel
theorem tyX5_ok : ∀ k, k < 6 → parseFieldDescriptor (TX5 k).2.2.1 = some (tyX5 k) := by decide +kernel
abbrev cX5_init : ByteArray := prog_7_method_1_code
def yX5_init : MethodName := ⟨RX5, "<init>", "(LRansomHymn$Hymn;LRansomHymn$World;)V"⟩
abbrev cX5_soundBits : ByteArray := prog_7_method_2_code
def yX5_soundBits : MethodName := ⟨RX5, "soundBits", "(II)I"⟩
abbrev cX5_dueFor : ByteArray := prog_7_method_3_code
def yX5_dueFor : MethodName := ⟨RX5, "dueFor", "(III)I"⟩
abbrev cX5_crackFor : ByteArray := prog_7_method_4_code
def yX5_crackFor : MethodName := ⟨RX5, "crackFor", "(II)I"⟩
abbrev cX5_bidFor : ByteArray := prog_7_method_5_code
def yX5_bidFor : MethodName := ⟨RX5, "bidFor", "(III)I"⟩
abbrev cX5_setOwner : ByteArray := prog_7_method_6_code
def yX5_setOwner : MethodName := ⟨RX5, "setOwner", "(III)V"⟩
abbrev cX5_setMusic : ByteArray := prog_7_method_7_code
def yX5_setMusic : MethodName := ⟨RX5, "setMusic", "(IIII)V"⟩
abbrev cX5_reckon : ByteArray := prog_7_method_8_code
def yX5_reckon : MethodName := ⟨RX5, "reckon", "(III)I"⟩
abbrev cX5_apply : ByteArray := prog_7_method_9_code
def yX5_apply : MethodName := ⟨RX5, "apply", "(II)V"⟩
abbrev cX5_scale : ByteArray := prog_7_method_10_code
def yX5_scale : MethodName := ⟨RX5, "scale", "(IJJ)J"⟩
abbrev cX5_join : ByteArray := prog_7_method_11_code
def yX5_join : MethodName := ⟨RX5, "join", "(IJJ)J"⟩
abbrev cX5_push : ByteArray := prog_7_method_12_code
def yX5_push : MethodName := ⟨RX5, "push", "(J)V"⟩
abbrev cX5_pop : ByteArray := prog_7_method_13_code
def yX5_pop : MethodName := ⟨RX5, "pop", "()J"⟩
def RX6 : String := "RansomHymn$Roll"
def TX6 : u_T := fun k => match k with
  | 0 => ("RansomHymn$Roll", "names", "[I", true)
  | _ => ("RansomHymn$Roll", "size", "I", false)
def tyX6 : Nat → FieldType := fun k => match k with
  | 0 => .array .int
  | _ => .int
abbrev wsX60 : List Cond := u_ws RX6 TX6 2
theorem nmX6 : ∀ a, a < 2 → ∀ b, b < 2 → a ≠ b → (TX6 a).2.1 ≠ (TX6 b).2.1 := by decide +kernel
theorem tyX6_ok : ∀ k, k < 2 → parseFieldDescriptor (TX6 k).2.2.1 = some (tyX6 k) := by decide +kernel
abbrev cX6_init : ByteArray := prog_8_method_1_code
def yX6_init : MethodName := ⟨RX6, "<init>", "(I)V"⟩
abbrev cX6_isFull : ByteArray := prog_8_method_2_code
def yX6_isFull : MethodName := ⟨RX6, "isFull", "()Z"⟩
abbrev cX6_holds : ByteArray := prog_8_method_3_code
def yX6_holds : MethodName := ⟨RX6, "holds", "(I)Z"⟩
abbrev cX6_find : ByteArray := prog_8_method_4_code
def yX6_find : MethodName := ⟨RX6, "find", "(I)I"⟩
abbrev cX6_add : ByteArray := prog_8_method_5_code
def yX6_add : MethodName := ⟨RX6, "add", "(I)I"⟩
abbrev cX6_take : ByteArray := prog_8_method_6_code
def yX6_take : MethodName := ⟨RX6, "take", "(LRansomHymn$Roll;)V"⟩
def RX7 : String := "RansomHymn$Sale"
def TX7 : u_T := fun k => match k with
  | 0 => ("RansomHymn$Sale", "hymn", "LRansomHymn$Hymn;", true)
  | 1 => ("RansomHymn$Sale", "now", "LRansomHymn$World;", true)
  | 2 => ("RansomHymn$Sale", "laws", "LRansomHymn$Laws;", true)
  | 3 => ("RansomHymn$Sale", "owners", "[I", true)
  | 4 => ("RansomHymn$Sale", "prices", "[I", true)
  | _ => ("RansomHymn$Sale", "left", "[I", true)
def tyX7 : Nat → FieldType := fun k => match k with
  | 0 => .object "RansomHymn$Hymn"
  | 1 => .object "RansomHymn$World"
  | 2 => .object "RansomHymn$Laws"
  | 3 => .array .int
  | 4 => .array .int
  | _ => .array .int
abbrev wsX70 : List Cond := u_ws RX7 TX7 6
theorem nmX7 : ∀ a, a < 6 → ∀ b, b < 6 → a ≠ b → (TX7 a).2.1 ≠ (TX7 b).2.1 := by decide +kernel
theorem tyX7_ok : ∀ k, k < 6 → parseFieldDescriptor (TX7 k).2.2.1 = some (tyX7 k) := by decide +kernel
abbrev cX7_init : ByteArray := prog_9_method_1_code
def yX7_init : MethodName := ⟨RX7, "<init>", "(LRansomHymn$Hymn;LRansomHymn$World;LRansomHymn$Laws;)V"⟩
abbrev cX7_hold : ByteArray := prog_9_method_2_code
def yX7_hold : MethodName := ⟨RX7, "hold", "(I)I"⟩
abbrev cX7_sellVerse : ByteArray := prog_9_method_3_code
def yX7_sellVerse : MethodName := ⟨RX7, "sellVerse", "(I)V"⟩
def RX8 : String := "RansomHymn$Teller"
def TX8 : u_T := fun k => match k with
  | 0 => ("RansomHymn$Teller", "tokens", "LRansomHymn$Tokens;", true)
  | 1 => ("RansomHymn$Teller", "hymn", "LRansomHymn$Hymn;", true)
  | 2 => ("RansomHymn$Teller", "purseTold", "Z", false)
  | _ => ("RansomHymn$Teller", "seedTold", "Z", false)
def tyX8 : Nat → FieldType := fun k => match k with
  | 0 => .object "RansomHymn$Tokens"
  | 1 => .object "RansomHymn$Hymn"
  | 2 => .boolean
  | _ => .boolean
abbrev wsX80 : List Cond := u_ws RX8 TX8 4
theorem nmX8 : ∀ a, a < 4 → ∀ b, b < 4 → a ≠ b → (TX8 a).2.1 ≠ (TX8 b).2.1 := by decide +kernel
theorem tyX8_ok : ∀ k, k < 4 → parseFieldDescriptor (TX8 k).2.2.1 = some (tyX8 k) := by decide +kernel
abbrev cX8_init : ByteArray := prog_10_method_1_code
def yX8_init : MethodName := ⟨RX8, "<init>", "(LRansomHymn$Tokens;LRansomHymn$Hymn;)V"⟩
abbrev cX8_tell : ByteArray := prog_10_method_2_code
def yX8_tell : MethodName := ⟨RX8, "tell", "(I)I"⟩
abbrev cX8_readTavern : ByteArray := prog_10_method_3_code
def yX8_readTavern : MethodName := ⟨RX8, "readTavern", "()V"⟩
abbrev cX8_readVoice : ByteArray := prog_10_method_4_code
def yX8_readVoice : MethodName := ⟨RX8, "readVoice", "()V"⟩
abbrev cX8_readVerse : ByteArray := prog_10_method_5_code
def yX8_readVerse : MethodName := ⟨RX8, "readVerse", "()V"⟩
abbrev cX8_readPart : ByteArray := prog_10_method_6_code
def yX8_readPart : MethodName := ⟨RX8, "readPart", "(I)V"⟩
abbrev cX8_readBaker : ByteArray := prog_10_method_7_code
def yX8_readBaker : MethodName := ⟨RX8, "readBaker", "()V"⟩
abbrev cX8_loneNumber : ByteArray := prog_10_method_8_code
def yX8_loneNumber : MethodName := ⟨RX8, "loneNumber", "(ZI)I"⟩
abbrev cX8_readLaw : ByteArray := prog_10_method_9_code
def yX8_readLaw : MethodName := ⟨RX8, "readLaw", "()V"⟩
abbrev cX8_begin : ByteArray := prog_10_method_10_code
def yX8_begin : MethodName := ⟨RX8, "begin", "(LRansomHymn$Roll;)I"⟩
abbrev cX8_toldTavern : ByteArray := prog_10_method_11_code
def yX8_toldTavern : MethodName := ⟨RX8, "toldTavern", "()I"⟩
abbrev cX8_number : ByteArray := prog_10_method_12_code
def yX8_number : MethodName := ⟨RX8, "number", "(II)I"⟩
abbrev cX8_skips : ByteArray := prog_10_method_13_code
def yX8_skips : MethodName := ⟨RX8, "skips", "(I)Z"⟩
def RX9 : String := "RansomHymn$Tokens"
def TX9 : u_T := fun k => match k with
  | 0 => ("RansomHymn$Tokens", "bytes", "[B", true)
  | 1 => ("RansomHymn$Tokens", "words", "[I", true)
  | 2 => ("RansomHymn$Tokens", "end", "I", false)
  | 3 => ("RansomHymn$Tokens", "at", "I", false)
  | 4 => ("RansomHymn$Tokens", "kind", "I", false)
  | 5 => ("RansomHymn$Tokens", "place", "I", false)
  | 6 => ("RansomHymn$Tokens", "value", "I", false)
  | 7 => ("RansomHymn$Tokens", "faultKind", "I", false)
  | _ => ("RansomHymn$Tokens", "faultPlace", "I", false)
def tyX9 : Nat → FieldType := fun k => match k with
  | 0 => .array .byte
  | 1 => .array .int
  | 2 => .int
  | 3 => .int
  | 4 => .int
  | 5 => .int
  | 6 => .int
  | 7 => .int
  | _ => .int
abbrev wsX90 : List Cond := u_ws RX9 TX9 9
theorem nmX9 : ∀ a, a < 9 → ∀ b, b < 9 → a ≠ b → (TX9 a).2.1 ≠ (TX9 b).2.1 := by decide +kernel
theorem tyX9_ok : ∀ k, k < 9 → parseFieldDescriptor (TX9 k).2.2.1 = some (tyX9 k) := by decide +kernel
abbrev cX9_init : ByteArray := prog_11_method_1_code
def yX9_init : MethodName := ⟨RX9, "<init>", "([B)V"⟩
abbrev cX9_packWords : ByteArray := prog_11_method_2_code
def yX9_packWords : MethodName := ⟨RX9, "packWords", "(Ljava/lang/String;I)V"⟩
abbrev cX9_start : ByteArray := prog_11_method_3_code
def yX9_start : MethodName := ⟨RX9, "start", "(I)V"⟩
abbrev cX9_fail : ByteArray := prog_11_method_4_code
def yX9_fail : MethodName := ⟨RX9, "fail", "(I)Z"⟩
abbrev cX9_next : ByteArray := prog_11_method_5_code
def yX9_next : MethodName := ⟨RX9, "next", "()V"⟩
abbrev cX9_isLetter : ByteArray := prog_11_method_6_code
def yX9_isLetter : MethodName := ⟨RX9, "isLetter", "(I)Z"⟩
abbrev cX9_isDigit : ByteArray := prog_11_method_7_code
def yX9_isDigit : MethodName := ⟨RX9, "isDigit", "(I)Z"⟩
abbrev cX9_readWord : ByteArray := prog_11_method_8_code
def yX9_readWord : MethodName := ⟨RX9, "readWord", "()V"⟩
abbrev cX9_readNumber : ByteArray := prog_11_method_9_code
def yX9_readNumber : MethodName := ⟨RX9, "readNumber", "()V"⟩
abbrev cX9_readSign : ByteArray := prog_11_method_10_code
def yX9_readSign : MethodName := ⟨RX9, "readSign", "()V"⟩
abbrev cX9_signKind : ByteArray := prog_11_method_11_code
def yX9_signKind : MethodName := ⟨RX9, "signKind", "(II)I"⟩
def RX10 : String := "RansomHymn$World"
def TX10 : u_T := fun k => match k with
  | 0 => ("RansomHymn$World", "tills", "[I", true)
  | 1 => ("RansomHymn$World", "claims", "[I", true)
  | 2 => ("RansomHymn$World", "bakerPurses", "[I", true)
  | 3 => ("RansomHymn$World", "singers", "[I", true)
  | 4 => ("RansomHymn$World", "slots", "[I", true)
  | 5 => ("RansomHymn$World", "paid", "[I", true)
  | 6 => ("RansomHymn$World", "redeemed", "I", false)
  | 7 => ("RansomHymn$World", "week", "I", false)
  | 8 => ("RansomHymn$World", "purse", "I", false)
  | 9 => ("RansomHymn$World", "paidOut", "I", false)
  | 10 => ("RansomHymn$World", "cracked", "I", false)
  | 11 => ("RansomHymn$World", "knownBy", "I", false)
  | _ => ("RansomHymn$World", "random", "I", false)
def tyX10 : Nat → FieldType := fun k => match k with
  | 0 => .array .int
  | 1 => .array .int
  | 2 => .array .int
  | 3 => .array .int
  | 4 => .array .int
  | 5 => .array .int
  | 6 => .int
  | 7 => .int
  | 8 => .int
  | 9 => .int
  | 10 => .int
  | 11 => .int
  | _ => .int
abbrev wsX100 : List Cond := u_ws RX10 TX10 13
theorem nmX10 : ∀ a, a < 13 → ∀ b, b < 13 → a ≠ b → (TX10 a).2.1 ≠ (TX10 b).2.1 := by decide +kernel
theorem tyX10_ok : ∀ k, k < 13 → parseFieldDescriptor (TX10 k).2.2.1 = some (tyX10 k) := by decide +kernel
abbrev cX10_init : ByteArray := prog_12_method_1_code
def yX10_init : MethodName := ⟨RX10, "<init>", "()V"⟩
abbrev cX10_begin : ByteArray := prog_12_method_2_code
def yX10_begin : MethodName := ⟨RX10, "begin", "(LRansomHymn$Hymn;)V"⟩
abbrev cX10_take : ByteArray := prog_12_method_3_code
def yX10_take : MethodName := ⟨RX10, "take", "(LRansomHymn$World;)V"⟩
abbrev cX10_isCracked : ByteArray := prog_12_method_4_code
def yX10_isCracked : MethodName := ⟨RX10, "isCracked", "(I)Z"⟩
abbrev cX10_enlist : ByteArray := prog_12_method_5_code
def yX10_enlist : MethodName := ⟨RX10, "enlist", "(IIII)V"⟩
abbrev cX10_dismiss : ByteArray := prog_12_method_6_code
def yX10_dismiss : MethodName := ⟨RX10, "dismiss", "(I)V"⟩
abbrev cX10_dismissAll : ByteArray := prog_12_method_7_code
def yX10_dismissAll : MethodName := ⟨RX10, "dismissAll", "()V"⟩
abbrev cX10_nextNumber : ByteArray := prog_12_method_8_code
def yX10_nextNumber : MethodName := ⟨RX10, "nextNumber", "()I"⟩
abbrev cX10_allCoin : ByteArray := prog_12_method_9_code
def yX10_allCoin : MethodName := ⟨RX10, "allCoin", "()I"⟩
def RX11 : String := "RansomHymn"
def TX11 : u_T := fun k => match k with
  | 0 => ("RansomHymn", "tape", "[B", true)
  | 1 => ("RansomHymn", "hymn", "LRansomHymn$Hymn;", true)
  | 2 => ("RansomHymn", "draft", "LRansomHymn$Hymn;", true)
  | 3 => ("RansomHymn", "teller", "LRansomHymn$Teller;", true)
  | 4 => ("RansomHymn", "now", "LRansomHymn$World;", true)
  | 5 => ("RansomHymn", "image", "LRansomHymn$World;", true)
  | 6 => ("RansomHymn", "hums", "LRansomHymn$Hums;", true)
  | 7 => ("RansomHymn", "laws", "LRansomHymn$Laws;", true)
  | 8 => ("RansomHymn", "choice", "LRansomHymn$Choice;", true)
  | 9 => ("RansomHymn", "sale", "LRansomHymn$Sale;", true)
  | 10 => ("RansomHymn", "canon", "LRansomHymn$Canon;", true)
  | 11 => ("RansomHymn", "taped", "I", false)
  | 12 => ("RansomHymn", "faultKind", "I", false)
  | 13 => ("RansomHymn", "faultPlace", "I", false)
  | _ => ("RansomHymn", "kept", "Z", false)
def tyX11 : Nat → FieldType := fun k => match k with
  | 0 => .array .byte
  | 1 => .object "RansomHymn$Hymn"
  | 2 => .object "RansomHymn$Hymn"
  | 3 => .object "RansomHymn$Teller"
  | 4 => .object "RansomHymn$World"
  | 5 => .object "RansomHymn$World"
  | 6 => .object "RansomHymn$Hums"
  | 7 => .object "RansomHymn$Laws"
  | 8 => .object "RansomHymn$Choice"
  | 9 => .object "RansomHymn$Sale"
  | 10 => .object "RansomHymn$Canon"
  | 11 => .int
  | 12 => .int
  | 13 => .int
  | _ => .boolean
abbrev wsX110 : List Cond := u_ws RX11 TX11 15
theorem nmX11 : ∀ a, a < 15 → ∀ b, b < 15 → a ≠ b → (TX11 a).2.1 ≠ (TX11 b).2.1 := by decide +kernel
theorem tyX11_ok : ∀ k, k < 15 → parseFieldDescriptor (TX11 k).2.2.1 = some (tyX11 k) := by decide +kernel
abbrev cX11_init : ByteArray := prog_1_method_1_code
def yX11_init : MethodName := ⟨RX11, "<init>", "()V"⟩
abbrev cX11_feed : ByteArray := prog_1_method_2_code
def yX11_feed : MethodName := ⟨RX11, "feed", "(IIIII)I"⟩
abbrev cX11_text : ByteArray := prog_1_method_3_code
def yX11_text : MethodName := ⟨RX11, "text", "(I)I"⟩
abbrev cX11_fault : ByteArray := prog_1_method_4_code
def yX11_fault : MethodName := ⟨RX11, "fault", "(I)I"⟩
abbrev cX11_named : ByteArray := prog_1_method_5_code
def yX11_named : MethodName := ⟨RX11, "named", "(II)I"⟩
abbrev cX11_look : ByteArray := prog_1_method_6_code
def yX11_look : MethodName := ⟨RX11, "look", "(II)I"⟩
abbrev cX11_tavern : ByteArray := prog_1_method_7_code
def yX11_tavern : MethodName := ⟨RX11, "tavern", "(II)I"⟩
abbrev cX11_verse : ByteArray := prog_1_method_8_code
def yX11_verse : MethodName := ⟨RX11, "verse", "(II)I"⟩
abbrev cX11_pitch : ByteArray := prog_1_method_9_code
def yX11_pitch : MethodName := ⟨RX11, "pitch", "(III)I"⟩
abbrev cX11_due : ByteArray := prog_1_method_10_code
def yX11_due : MethodName := ⟨RX11, "due", "(III)I"⟩
abbrev cX11_sounds : ByteArray := prog_1_method_11_code
def yX11_sounds : MethodName := ⟨RX11, "sounds", "(III)I"⟩
abbrev cX11_bids : ByteArray := prog_1_method_12_code
def yX11_bids : MethodName := ⟨RX11, "bids", "(II)I"⟩
abbrev cX11_cracks : ByteArray := prog_1_method_13_code
def yX11_cracks : MethodName := ⟨RX11, "cracks", "(I)I"⟩
abbrev cX11_redeem : ByteArray := prog_1_method_14_code
def yX11_redeem : MethodName := ⟨RX11, "redeem", "(III)I"⟩
abbrev cX11_undo : ByteArray := prog_1_method_15_code
def yX11_undo : MethodName := ⟨RX11, "undo", "()I"⟩
abbrev cX11_sings : ByteArray := prog_1_method_16_code
def yX11_sings : MethodName := ⟨RX11, "sings", "(II)I"⟩
abbrev cX11_bar : ByteArray := prog_1_method_17_code
def yX11_bar : MethodName := ⟨RX11, "bar", "(II)I"⟩
abbrev cX11_sunday : ByteArray := prog_1_method_18_code
def yX11_sunday : MethodName := ⟨RX11, "sunday", "()I"⟩
abbrev cX11_best : ByteArray := prog_1_method_19_code
def yX11_best : MethodName := ⟨RX11, "best", "(II)I"⟩
abbrev cX11_chosen : ByteArray := prog_1_method_20_code
def yX11_chosen : MethodName := ⟨RX11, "chosen", "(III)I"⟩
abbrev cX11_sold : ByteArray := prog_1_method_21_code
def yX11_sold : MethodName := ⟨RX11, "sold", "(III)I"⟩
abbrev cX11_easter : ByteArray := prog_1_method_22_code
def yX11_easter : MethodName := ⟨RX11, "easter", "(I)I"⟩
abbrev cX11_hum : ByteArray := prog_1_method_23_code
def yX11_hum : MethodName := ⟨RX11, "hum", "(I)I"⟩
abbrev cX11_strike : ByteArray := prog_1_method_24_code
def yX11_strike : MethodName := ⟨RX11, "strike", "(I)I"⟩
abbrev cX11_known : ByteArray := prog_1_method_25_code
def yX11_known : MethodName := ⟨RX11, "known", "(I)Z"⟩
abbrev cX11_thieves : ByteArray := prog_1_method_26_code
def yX11_thieves : MethodName := ⟨RX11, "thieves", "()I"⟩
abbrev cX11_odds : ByteArray := prog_1_method_27_code
def yX11_odds : MethodName := ⟨RX11, "odds", "(II)I"⟩
abbrev cX11_gang : ByteArray := prog_1_method_28_code
def yX11_gang : MethodName := ⟨RX11, "gang", "()I"⟩
abbrev cX11_round : ByteArray := prog_1_method_29_code
def yX11_round : MethodName := ⟨RX11, "round", "(IIII)I"⟩
abbrev cX11_entry : ByteArray := prog_1_method_30_code
def yX11_entry : MethodName := ⟨RX11, "entry", "(IIIII)I"⟩
abbrev cX11_run : ByteArray := prog_1_method_31_code
def yX11_run : MethodName := ⟨RX11, "run", "(II)I"⟩
abbrev cX11_pay : ByteArray := prog_1_method_32_code
def yX11_pay : MethodName := ⟨RX11, "pay", "(I)I"⟩
abbrev cX11_whole : ByteArray := prog_1_method_33_code
def yX11_whole : MethodName := ⟨RX11, "whole", "(III)J"⟩
abbrev cX11_keep : ByteArray := prog_1_method_34_code
def yX11_keep : MethodName := ⟨RX11, "keep", "()I"⟩
abbrev cX11_back : ByteArray := prog_1_method_35_code
def yX11_back : MethodName := ⟨RX11, "back", "()I"⟩
abbrev cX11_count : ByteArray := prog_1_method_36_code
def yX11_count : MethodName := ⟨RX11, "count", "(I)I"⟩
abbrev cX11_slotOf : ByteArray := prog_1_method_37_code
def yX11_slotOf : MethodName := ⟨RX11, "slotOf", "(II)I"⟩
abbrev cX11_tapeNumber : ByteArray := prog_1_method_38_code
def yX11_tapeNumber : MethodName := ⟨RX11, "tapeNumber", "(I)V"⟩
abbrev cX11_claimsOn : ByteArray := prog_1_method_39_code
def yX11_claimsOn : MethodName := ⟨RX11, "claimsOn", "(I)I"⟩
abbrev cX11_singsIn : ByteArray := prog_1_method_40_code
def yX11_singsIn : MethodName := ⟨RX11, "singsIn", "(II)Z"⟩
abbrev cX11_singPart : ByteArray := prog_1_method_41_code
def yX11_singPart : MethodName := ⟨RX11, "singPart", "(I)I"⟩
abbrev cX11_crackBoys : ByteArray := prog_1_method_42_code
def yX11_crackBoys : MethodName := ⟨RX11, "crackBoys", "()V"⟩
abbrev cX11_knownCount : ByteArray := prog_1_method_43_code
def yX11_knownCount : MethodName := ⟨RX11, "knownCount", "()I"⟩
abbrev cX11_reachOf : ByteArray := prog_1_method_44_code
def yX11_reachOf : MethodName := ⟨RX11, "reachOf", "(I)J"⟩
abbrev cX11_isRound : ByteArray := prog_1_method_45_code
def yX11_isRound : MethodName := ⟨RX11, "isRound", "(IIII)Z"⟩
abbrev cX11_shareOf : ByteArray := prog_1_method_46_code
def yX11_shareOf : MethodName := ⟨RX11, "shareOf", "(II)I"⟩
abbrev cX11_leastTerm : ByteArray := prog_1_method_47_code
def yX11_leastTerm : MethodName := ⟨RX11, "leastTerm", "(JJI)J"⟩
def RX12 : String := "RansomHymnModel"
def TX12 : u_T := fun k => match k with
  | 0 => ("RansomHymnModel", "thrown", "I", false)
  | 1 => ("RansomHymnModel", "tape", "[I", true)
  | 2 => ("RansomHymnModel", "taped", "I", false)
  | 3 => ("RansomHymnModel", "number", "[I", true)
  | 4 => ("RansomHymnModel", "tavernName", "[I", true)
  | 5 => ("RansomHymnModel", "tavernRate", "[I", true)
  | 6 => ("RansomHymnModel", "tavernTill", "[I", true)
  | 7 => ("RansomHymnModel", "voiceName", "[I", true)
  | 8 => ("RansomHymnModel", "voiceLow", "[I", true)
  | 9 => ("RansomHymnModel", "voiceHigh", "[I", true)
  | 10 => ("RansomHymnModel", "isBoy", "[Z", true)
  | 11 => ("RansomHymnModel", "pawnAt", "[I", true)
  | 12 => ("RansomHymnModel", "voiceDebt", "[I", true)
  | 13 => ("RansomHymnModel", "voiceOdds", "[I", true)
  | 14 => ("RansomHymnModel", "verseName", "[I", true)
  | 15 => ("RansomHymnModel", "verseParts", "[I", true)
  | 16 => ("RansomHymnModel", "barMany", "[I", true)
  | 17 => ("RansomHymnModel", "pitches", "[I", true)
  | 18 => ("RansomHymnModel", "bakerName", "[I", true)
  | 19 => ("RansomHymnModel", "bakerPurse", "[I", true)
  | 20 => ("RansomHymnModel", "sumFrom", "[I", true)
  | 21 => ("RansomHymnModel", "sumTo", "[I", true)
  | 22 => ("RansomHymnModel", "knotSort", "[I", true)
  | 23 => ("RansomHymnModel", "knotValue", "[I", true)
  | 24 => ("RansomHymnModel", "told", "I", false)
  | 25 => ("RansomHymnModel", "lines", "I", false)
  | 26 => ("RansomHymnModel", "size", "I", false)
  | 27 => ("RansomHymnModel", "at", "I", false)
  | 28 => ("RansomHymnModel", "place", "I", false)
  | 29 => ("RansomHymnModel", "sort", "I", false)
  | 30 => ("RansomHymnModel", "value", "I", false)
  | 31 => ("RansomHymnModel", "fault", "I", false)
  | 32 => ("RansomHymnModel", "faultPlace", "I", false)
  | 33 => ("RansomHymnModel", "lastFault", "I", false)
  | 34 => ("RansomHymnModel", "lastPlace", "I", false)
  | 35 => ("RansomHymnModel", "open", "I", false)
  | 36 => ("RansomHymnModel", "counted", "I", false)
  | 37 => ("RansomHymnModel", "week", "[I", true)
  | 38 => ("RansomHymnModel", "purse", "[I", true)
  | 39 => ("RansomHymnModel", "drawn", "[I", true)
  | 40 => ("RansomHymnModel", "runsPaid", "[I", true)
  | 41 => ("RansomHymnModel", "cracked", "[I", true)
  | 42 => ("RansomHymnModel", "till", "[I", true)
  | 43 => ("RansomHymnModel", "bakerNow", "[I", true)
  | 44 => ("RansomHymnModel", "claim", "[I", true)
  | 45 => ("RansomHymnModel", "sung", "[I", true)
  | 46 => ("RansomHymnModel", "doneMany", "[I", true)
  | 47 => ("RansomHymnModel", "donePart", "[I", true)
  | 48 => ("RansomHymnModel", "donePaid", "[I", true)
  | 49 => ("RansomHymnModel", "hasImage", "Z", false)
  | 50 => ("RansomHymnModel", "names", "[J", true)
  | 51 => ("RansomHymnModel", "worked", "[J", true)
  | 52 => ("RansomHymnModel", "workedMany", "I", false)
  | 53 => ("RansomHymnModel", "bestNotes", "[I", true)
  | 54 => ("RansomHymnModel", "bestCrowns", "[I", true)
  | 55 => ("RansomHymnModel", "dues", "[I", true)
  | 56 => ("RansomHymnModel", "notesBy", "[I", true)
  | 57 => ("RansomHymnModel", "who", "[I", true)
  | 58 => ("RansomHymnModel", "leftOf", "[I", true)
  | 59 => ("RansomHymnModel", "soldTo", "I", false)
  | 60 => ("RansomHymnModel", "soldFor", "I", false)
  | 61 => ("RansomHymnModel", "heard", "I", false)
  | 62 => ("RansomHymnModel", "knownBy", "I", false)
  | 63 => ("RansomHymnModel", "humPitch", "[I", true)
  | 64 => ("RansomHymnModel", "humStrike", "[I", true)
  | 65 => ("RansomHymnModel", "isStruck", "[Z", true)
  | 66 => ("RansomHymnModel", "entries", "[I", true)
  | 67 => ("RansomHymnModel", "bestEntries", "[I", true)
  | _ => ("RansomHymnModel", "gaps", "I", false)
def tyX12 : Nat → FieldType := fun k => match k with
  | 0 => .int
  | 1 => .array .int
  | 2 => .int
  | 3 => .array .int
  | 4 => .array .int
  | 5 => .array .int
  | 6 => .array .int
  | 7 => .array .int
  | 8 => .array .int
  | 9 => .array .int
  | 10 => .array .boolean
  | 11 => .array .int
  | 12 => .array .int
  | 13 => .array .int
  | 14 => .array .int
  | 15 => .array .int
  | 16 => .array .int
  | 17 => .array .int
  | 18 => .array .int
  | 19 => .array .int
  | 20 => .array .int
  | 21 => .array .int
  | 22 => .array .int
  | 23 => .array .int
  | 24 => .int
  | 25 => .int
  | 26 => .int
  | 27 => .int
  | 28 => .int
  | 29 => .int
  | 30 => .int
  | 31 => .int
  | 32 => .int
  | 33 => .int
  | 34 => .int
  | 35 => .int
  | 36 => .int
  | 37 => .array .int
  | 38 => .array .int
  | 39 => .array .int
  | 40 => .array .int
  | 41 => .array .int
  | 42 => .array .int
  | 43 => .array .int
  | 44 => .array .int
  | 45 => .array .int
  | 46 => .array .int
  | 47 => .array .int
  | 48 => .array .int
  | 49 => .boolean
  | 50 => .array .long
  | 51 => .array .long
  | 52 => .int
  | 53 => .array .int
  | 54 => .array .int
  | 55 => .array .int
  | 56 => .array .int
  | 57 => .array .int
  | 58 => .array .int
  | 59 => .int
  | 60 => .int
  | 61 => .int
  | 62 => .int
  | 63 => .array .int
  | 64 => .array .int
  | 65 => .array .boolean
  | 66 => .array .int
  | 67 => .array .int
  | _ => .int
abbrev wsX120 : List Cond := u_ws RX12 TX12 69
theorem nmX12 : ∀ a, a < 69 → ∀ b, b < 69 → a ≠ b → (TX12 a).2.1 ≠ (TX12 b).2.1 := by decide +kernel
theorem tyX12_ok : ∀ k, k < 69 → parseFieldDescriptor (TX12 k).2.2.1 = some (tyX12 k) := by decide +kernel
abbrev cX12_init : ByteArray := prog_14_method_1_code
def yX12_init : MethodName := ⟨RX12, "<init>", "()V"⟩
abbrev cX12_thrown : ByteArray := prog_14_method_2_code
def yX12_thrown : MethodName := ⟨RX12, "thrown", "()I"⟩
abbrev cX12_feed : ByteArray := prog_14_method_3_code
def yX12_feed : MethodName := ⟨RX12, "feed", "(IIIII)I"⟩
abbrev cX12_here : ByteArray := prog_14_method_4_code
def yX12_here : MethodName := ⟨RX12, "here", "()I"⟩
abbrev cX12_isSmall : ByteArray := prog_14_method_5_code
def yX12_isSmall : MethodName := ⟨RX12, "isSmall", "(I)Z"⟩
abbrev cX12_isDigit : ByteArray := prog_14_method_6_code
def yX12_isDigit : MethodName := ⟨RX12, "isDigit", "(I)Z"⟩
abbrev cX12_token : ByteArray := prog_14_method_7_code
def yX12_token : MethodName := ⟨RX12, "token", "()V"⟩
abbrev cX12_sign : ByteArray := prog_14_method_8_code
def yX12_sign : MethodName := ⟨RX12, "sign", "(I)V"⟩
abbrev cX12_word : ByteArray := prog_14_method_9_code
def yX12_word : MethodName := ⟨RX12, "word", "()I"⟩
abbrev cX12_name : ByteArray := prog_14_method_10_code
def yX12_name : MethodName := ⟨RX12, "name", "()V"⟩
abbrev cX12_wrong : ByteArray := prog_14_method_11_code
def yX12_wrong : MethodName := ⟨RX12, "wrong", "(I)V"⟩
abbrev cX12_isWord : ByteArray := prog_14_method_12_code
def yX12_isWord : MethodName := ⟨RX12, "isWord", "(I)Z"⟩
abbrev cX12_isSign : ByteArray := prog_14_method_13_code
def yX12_isSign : MethodName := ⟨RX12, "isSign", "(I)Z"⟩
abbrev cX12_goOn : ByteArray := prog_14_method_14_code
def yX12_goOn : MethodName := ⟨RX12, "goOn", "()V"⟩
abbrev cX12_numeral : ByteArray := prog_14_method_15_code
def yX12_numeral : MethodName := ⟨RX12, "numeral", "(II)I"⟩
abbrev cX12_found : ByteArray := prog_14_method_16_code
def yX12_found : MethodName := ⟨RX12, "found", "([IIII)I"⟩
abbrev cX12_fresh : ByteArray := prog_14_method_17_code
def yX12_fresh : MethodName := ⟨RX12, "fresh", "([III)I"⟩
abbrev cX12_tavernAhead : ByteArray := prog_14_method_18_code
def yX12_tavernAhead : MethodName := ⟨RX12, "tavernAhead", "()I"⟩
abbrev cX12_fresher : ByteArray := prog_14_method_19_code
def yX12_fresher : MethodName := ⟨RX12, "fresher", "(I)I"⟩
abbrev cX12_reads : ByteArray := prog_14_method_20_code
def yX12_reads : MethodName := ⟨RX12, "reads", "(II)V"⟩
abbrev cX12_isFull : ByteArray := prog_14_method_21_code
def yX12_isFull : MethodName := ⟨RX12, "isFull", "(I)Z"⟩
abbrev cX12_line : ByteArray := prog_14_method_22_code
def yX12_line : MethodName := ⟨RX12, "line", "()V"⟩
abbrev cX12_sumOf : ByteArray := prog_14_method_23_code
def yX12_sumOf : MethodName := ⟨RX12, "sumOf", "(I)V"⟩
abbrev cX12_voiceLine : ByteArray := prog_14_method_24_code
def yX12_voiceLine : MethodName := ⟨RX12, "voiceLine", "(I)V"⟩
abbrev cX12_verseLine : ByteArray := prog_14_method_25_code
def yX12_verseLine : MethodName := ⟨RX12, "verseLine", "(I)V"⟩
abbrev cX12_partLine : ByteArray := prog_14_method_26_code
def yX12_partLine : MethodName := ⟨RX12, "partLine", "(I)V"⟩
abbrev cX12_lawLine : ByteArray := prog_14_method_27_code
def yX12_lawLine : MethodName := ⟨RX12, "lawLine", "()V"⟩
abbrev cX12_puts : ByteArray := prog_14_method_28_code
def yX12_puts : MethodName := ⟨RX12, "puts", "(II)V"⟩
abbrev cX12_knot : ByteArray := prog_14_method_29_code
def yX12_knot : MethodName := ⟨RX12, "knot", "()V"⟩
abbrev cX12_expression : ByteArray := prog_14_method_30_code
def yX12_expression : MethodName := ⟨RX12, "expression", "()V"⟩
abbrev cX12_conjunction : ByteArray := prog_14_method_31_code
def yX12_conjunction : MethodName := ⟨RX12, "conjunction", "()V"⟩
abbrev cX12_negation : ByteArray := prog_14_method_32_code
def yX12_negation : MethodName := ⟨RX12, "negation", "()V"⟩
abbrev cX12_sum : ByteArray := prog_14_method_33_code
def yX12_sum : MethodName := ⟨RX12, "sum", "()V"⟩
abbrev cX12_product : ByteArray := prog_14_method_34_code
def yX12_product : MethodName := ⟨RX12, "product", "()V"⟩
abbrev cX12_primary : ByteArray := prog_14_method_35_code
def yX12_primary : MethodName := ⟨RX12, "primary", "()V"⟩
abbrev cX12_half : ByteArray := prog_14_method_36_code
def yX12_half : MethodName := ⟨RX12, "half", "([I)V"⟩
abbrev cX12_text : ByteArray := prog_14_method_37_code
def yX12_text : MethodName := ⟨RX12, "text", "(I)I"⟩
abbrev cX12_fault : ByteArray := prog_14_method_38_code
def yX12_fault : MethodName := ⟨RX12, "fault", "(I)I"⟩
abbrev cX12_named : ByteArray := prog_14_method_39_code
def yX12_named : MethodName := ⟨RX12, "named", "(II)I"⟩
abbrev cX12_begins : ByteArray := prog_14_method_40_code
def yX12_begins : MethodName := ⟨RX12, "begins", "()V"⟩
abbrev cX12_copies : ByteArray := prog_14_method_41_code
def yX12_copies : MethodName := ⟨RX12, "copies", "(II)V"⟩
abbrev cX12_isTavern : ByteArray := prog_14_method_42_code
def yX12_isTavern : MethodName := ⟨RX12, "isTavern", "(I)Z"⟩
abbrev cX12_isVoice : ByteArray := prog_14_method_43_code
def yX12_isVoice : MethodName := ⟨RX12, "isVoice", "(I)Z"⟩
abbrev cX12_isVerse : ByteArray := prog_14_method_44_code
def yX12_isVerse : MethodName := ⟨RX12, "isVerse", "(I)Z"⟩
abbrev cX12_isPart : ByteArray := prog_14_method_45_code
def yX12_isPart : MethodName := ⟨RX12, "isPart", "(II)Z"⟩
abbrev cX12_isCracked : ByteArray := prog_14_method_46_code
def yX12_isCracked : MethodName := ⟨RX12, "isCracked", "(I)Z"⟩
abbrev cX12_look : ByteArray := prog_14_method_47_code
def yX12_look : MethodName := ⟨RX12, "look", "(II)I"⟩
abbrev cX12_tavern : ByteArray := prog_14_method_48_code
def yX12_tavern : MethodName := ⟨RX12, "tavern", "(II)I"⟩
abbrev cX12_verse : ByteArray := prog_14_method_49_code
def yX12_verse : MethodName := ⟨RX12, "verse", "(II)I"⟩
abbrev cX12_pitch : ByteArray := prog_14_method_50_code
def yX12_pitch : MethodName := ⟨RX12, "pitch", "(III)I"⟩
abbrev cX12_is : ByteArray := prog_14_method_51_code
def yX12_is : MethodName := ⟨RX12, "is", "(Z)J"⟩
abbrev cX12_works : ByteArray := prog_14_method_52_code
def yX12_works : MethodName := ⟨RX12, "works", "(I)Z"⟩
abbrev cX12_goes : ByteArray := prog_14_method_53_code
def yX12_goes : MethodName := ⟨RX12, "goes", "(I)Z"⟩
abbrev cX12_within : ByteArray := prog_14_method_54_code
def yX12_within : MethodName := ⟨RX12, "within", "(III)I"⟩
abbrev cX12_reaches : ByteArray := prog_14_method_55_code
def yX12_reaches : MethodName := ⟨RX12, "reaches", "(II)Z"⟩
abbrev cX12_isSounded : ByteArray := prog_14_method_56_code
def yX12_isSounded : MethodName := ⟨RX12, "isSounded", "(III)Z"⟩
abbrev cX12_soundsOf : ByteArray := prog_14_method_57_code
def yX12_soundsOf : MethodName := ⟨RX12, "soundsOf", "(II)I"⟩
abbrev cX12_restsOf : ByteArray := prog_14_method_58_code
def yX12_restsOf : MethodName := ⟨RX12, "restsOf", "(I)I"⟩
abbrev cX12_highOf : ByteArray := prog_14_method_59_code
def yX12_highOf : MethodName := ⟨RX12, "highOf", "(I)I"⟩
abbrev cX12_calls : ByteArray := prog_14_method_60_code
def yX12_calls : MethodName := ⟨RX12, "calls", "(I)V"⟩
abbrev cX12_dueOf : ByteArray := prog_14_method_61_code
def yX12_dueOf : MethodName := ⟨RX12, "dueOf", "(II)I"⟩
abbrev cX12_crackOf : ByteArray := prog_14_method_62_code
def yX12_crackOf : MethodName := ⟨RX12, "crackOf", "(II)I"⟩
abbrev cX12_bidOf : ByteArray := prog_14_method_63_code
def yX12_bidOf : MethodName := ⟨RX12, "bidOf", "(III)I"⟩
abbrev cX12_due : ByteArray := prog_14_method_64_code
def yX12_due : MethodName := ⟨RX12, "due", "(III)I"⟩
abbrev cX12_sounds : ByteArray := prog_14_method_65_code
def yX12_sounds : MethodName := ⟨RX12, "sounds", "(III)I"⟩
abbrev cX12_bids : ByteArray := prog_14_method_66_code
def yX12_bids : MethodName := ⟨RX12, "bids", "(II)I"⟩
abbrev cX12_cracks : ByteArray := prog_14_method_67_code
def yX12_cracks : MethodName := ⟨RX12, "cracks", "(I)I"⟩
abbrev cX12_singsIn : ByteArray := prog_14_method_68_code
def yX12_singsIn : MethodName := ⟨RX12, "singsIn", "(II)Z"⟩
abbrev cX12_redeem : ByteArray := prog_14_method_69_code
def yX12_redeem : MethodName := ⟨RX12, "redeem", "(III)I"⟩
abbrev cX12_undo : ByteArray := prog_14_method_70_code
def yX12_undo : MethodName := ⟨RX12, "undo", "()I"⟩
abbrev cX12_sings : ByteArray := prog_14_method_71_code
def yX12_sings : MethodName := ⟨RX12, "sings", "(II)I"⟩
abbrev cX12_bar : ByteArray := prog_14_method_72_code
def yX12_bar : MethodName := ⟨RX12, "bar", "(II)I"⟩
abbrev cX12_draw : ByteArray := prog_14_method_73_code
def yX12_draw : MethodName := ⟨RX12, "draw", "()I"⟩
abbrev cX12_sunday : ByteArray := prog_14_method_74_code
def yX12_sunday : MethodName := ⟨RX12, "sunday", "()I"⟩
abbrev cX12_layDues : ByteArray := prog_14_method_75_code
def yX12_layDues : MethodName := ⟨RX12, "layDues", "()V"⟩
abbrev cX12_costOf : ByteArray := prog_14_method_76_code
def yX12_costOf : MethodName := ⟨RX12, "costOf", "(I)I"⟩
abbrev cX12_gainOf : ByteArray := prog_14_method_77_code
def yX12_gainOf : MethodName := ⟨RX12, "gainOf", "(I)I"⟩
abbrev cX12_mayBe : ByteArray := prog_14_method_78_code
def yX12_mayBe : MethodName := ⟨RX12, "mayBe", "(I)Z"⟩
abbrev cX12_goesNext : ByteArray := prog_14_method_79_code
def yX12_goesNext : MethodName := ⟨RX12, "goesNext", "(I)Z"⟩
abbrev cX12_starts : ByteArray := prog_14_method_80_code
def yX12_starts : MethodName := ⟨RX12, "starts", "()V"⟩
abbrev cX12_layBest : ByteArray := prog_14_method_81_code
def yX12_layBest : MethodName := ⟨RX12, "layBest", "(I)V"⟩
abbrev cX12_tries : ByteArray := prog_14_method_82_code
def yX12_tries : MethodName := ⟨RX12, "tries", "(IIII)V"⟩
abbrev cX12_isCrowns : ByteArray := prog_14_method_83_code
def yX12_isCrowns : MethodName := ⟨RX12, "isCrowns", "(I)Z"⟩
abbrev cX12_best : ByteArray := prog_14_method_84_code
def yX12_best : MethodName := ⟨RX12, "best", "(II)I"⟩
abbrev cX12_chosen : ByteArray := prog_14_method_85_code
def yX12_chosen : MethodName := ⟨RX12, "chosen", "(III)I"⟩
abbrev cX12_isBest : ByteArray := prog_14_method_86_code
def yX12_isBest : MethodName := ⟨RX12, "isBest", "(II)Z"⟩
abbrev cX12_sells : ByteArray := prog_14_method_87_code
def yX12_sells : MethodName := ⟨RX12, "sells", "(II)I"⟩
abbrev cX12_areVerses : ByteArray := prog_14_method_88_code
def yX12_areVerses : MethodName := ⟨RX12, "areVerses", "(I)Z"⟩
abbrev cX12_sold : ByteArray := prog_14_method_89_code
def yX12_sold : MethodName := ⟨RX12, "sold", "(III)I"⟩
abbrev cX12_easter : ByteArray := prog_14_method_90_code
def yX12_easter : MethodName := ⟨RX12, "easter", "(I)I"⟩
abbrev cX12_hum : ByteArray := prog_14_method_91_code
def yX12_hum : MethodName := ⟨RX12, "hum", "(I)I"⟩
abbrev cX12_strike : ByteArray := prog_14_method_92_code
def yX12_strike : MethodName := ⟨RX12, "strike", "(I)I"⟩
abbrev cX12_known : ByteArray := prog_14_method_93_code
def yX12_known : MethodName := ⟨RX12, "known", "(I)Z"⟩
abbrev cX12_knownMany : ByteArray := prog_14_method_94_code
def yX12_knownMany : MethodName := ⟨RX12, "knownMany", "()I"⟩
abbrev cX12_strikes : ByteArray := prog_14_method_95_code
def yX12_strikes : MethodName := ⟨RX12, "strikes", "()V"⟩
abbrev cX12_isHummed : ByteArray := prog_14_method_96_code
def yX12_isHummed : MethodName := ⟨RX12, "isHummed", "(I)Z"⟩
abbrev cX12_isThief : ByteArray := prog_14_method_97_code
def yX12_isThief : MethodName := ⟨RX12, "isThief", "(I)Z"⟩
abbrev cX12_thieves : ByteArray := prog_14_method_98_code
def yX12_thieves : MethodName := ⟨RX12, "thieves", "()I"⟩
abbrev cX12_common : ByteArray := prog_14_method_99_code
def yX12_common : MethodName := ⟨RX12, "common", "(JJ)J"⟩
abbrev cX12_odds : ByteArray := prog_14_method_100_code
def yX12_odds : MethodName := ⟨RX12, "odds", "(II)I"⟩
abbrev cX12_isGang : ByteArray := prog_14_method_101_code
def yX12_isGang : MethodName := ⟨RX12, "isGang", "(I)Z"⟩
abbrev cX12_bitsOf : ByteArray := prog_14_method_102_code
def yX12_bitsOf : MethodName := ⟨RX12, "bitsOf", "(I)I"⟩
abbrev cX12_gang : ByteArray := prog_14_method_103_code
def yX12_gang : MethodName := ⟨RX12, "gang", "()I"⟩
abbrev cX12_rows : ByteArray := prog_14_method_104_code
def yX12_rows : MethodName := ⟨RX12, "rows", "(IIIII)V"⟩
abbrev cX12_isRound : ByteArray := prog_14_method_105_code
def yX12_isRound : MethodName := ⟨RX12, "isRound", "(II)Z"⟩
abbrev cX12_round : ByteArray := prog_14_method_106_code
def yX12_round : MethodName := ⟨RX12, "round", "(IIII)I"⟩
abbrev cX12_entry : ByteArray := prog_14_method_107_code
def yX12_entry : MethodName := ⟨RX12, "entry", "(IIIII)I"⟩
abbrev cX12_hasOf : ByteArray := prog_14_method_108_code
def yX12_hasOf : MethodName := ⟨RX12, "hasOf", "(II)I"⟩
abbrev cX12_run : ByteArray := prog_14_method_109_code
def yX12_run : MethodName := ⟨RX12, "run", "(II)I"⟩
abbrev cX12_pay : ByteArray := prog_14_method_110_code
def yX12_pay : MethodName := ⟨RX12, "pay", "(I)I"⟩
abbrev cX12_whole : ByteArray := prog_14_method_111_code
def yX12_whole : MethodName := ⟨RX12, "whole", "(III)J"⟩
abbrev cX12_keep : ByteArray := prog_14_method_112_code
def yX12_keep : MethodName := ⟨RX12, "keep", "()I"⟩
abbrev cX12_back : ByteArray := prog_14_method_113_code
def yX12_back : MethodName := ⟨RX12, "back", "()I"⟩
abbrev cX12_count : ByteArray := prog_14_method_114_code
def yX12_count : MethodName := ⟨RX12, "count", "(I)I"⟩
def RJx145de : String := "java/io/Serializable"
def TJx145de : u_T := fun k => match k with
  | _ => ("", "", "", false)
def tyJx145de : Nat → FieldType := fun k => match k with
  | _ => .int
abbrev wsJx145de0 : List Cond := u_ws RJx145de TJx145de 0
theorem nmJx145de : ∀ a, a < 0 → ∀ b, b < 0 → a ≠ b → (TJx145de a).2.1 ≠ (TJx145de b).2.1 := by decide +kernel
theorem tyJx145de_ok : ∀ k, k < 0 → parseFieldDescriptor (TJx145de k).2.2.1 = some (tyJx145de k) := by decide +kernel
def RJx9f9b0 : String := "java/lang/CharSequence"
def TJx9f9b0 : u_T := fun k => match k with
  | _ => ("", "", "", false)
def tyJx9f9b0 : Nat → FieldType := fun k => match k with
  | _ => .int
abbrev wsJx9f9b00 : List Cond := u_ws RJx9f9b0 TJx9f9b0 0
theorem nmJx9f9b0 : ∀ a, a < 0 → ∀ b, b < 0 → a ≠ b → (TJx9f9b0 a).2.1 ≠ (TJx9f9b0 b).2.1 := by decide +kernel
theorem tyJx9f9b0_ok : ∀ k, k < 0 → parseFieldDescriptor (TJx9f9b0 k).2.2.1 = some (tyJx9f9b0 k) := by decide +kernel
def RJxb160c : String := "java/lang/Comparable"
def TJxb160c : u_T := fun k => match k with
  | _ => ("", "", "", false)
def tyJxb160c : Nat → FieldType := fun k => match k with
  | _ => .int
abbrev wsJxb160c0 : List Cond := u_ws RJxb160c TJxb160c 0
theorem nmJxb160c : ∀ a, a < 0 → ∀ b, b < 0 → a ≠ b → (TJxb160c a).2.1 ≠ (TJxb160c b).2.1 := by decide +kernel
theorem tyJxb160c_ok : ∀ k, k < 0 → parseFieldDescriptor (TJxb160c k).2.2.1 = some (tyJxb160c k) := by decide +kernel
def RJ6 : String := "java/lang/Integer"
def TJ6 : u_T := fun k => match k with
  | _ => ("", "", "", false)
def tyJ6 : Nat → FieldType := fun k => match k with
  | _ => .int
abbrev wsJ60 : List Cond := u_ws RJ6 TJ6 0
theorem nmJ6 : ∀ a, a < 0 → ∀ b, b < 0 → a ≠ b → (TJ6 a).2.1 ≠ (TJ6 b).2.1 := by decide +kernel
theorem tyJ6_ok : ∀ k, k < 0 → parseFieldDescriptor (TJ6 k).2.2.1 = some (tyJ6 k) := by decide +kernel
abbrev cJ6_bitCount_0f7a4 : ByteArray := prog_20_method_49_code
def yJ6_bitCount_0f7a4 : MethodName := ⟨RJ6, "bitCount", "(I)I"⟩
def RJ13 : String := "java/lang/Long"
def TJ13 : u_T := fun k => match k with
  | _ => ("", "", "", false)
def tyJ13 : Nat → FieldType := fun k => match k with
  | _ => .int
abbrev wsJ130 : List Cond := u_ws RJ13 TJ13 0
theorem nmJ13 : ∀ a, a < 0 → ∀ b, b < 0 → a ≠ b → (TJ13 a).2.1 ≠ (TJ13 b).2.1 := by decide +kernel
theorem tyJ13_ok : ∀ k, k < 0 → parseFieldDescriptor (TJ13 k).2.2.1 = some (tyJ13 k) := by decide +kernel
abbrev cJ13_bitCount_95d88 : ByteArray := prog_21_method_50_code
def yJ13_bitCount_95d88 : MethodName := ⟨RJ13, "bitCount", "(J)I"⟩
def RJ9 : String := "java/lang/Math"
def TJ9 : u_T := fun k => match k with
  | _ => ("", "", "", false)
def tyJ9 : Nat → FieldType := fun k => match k with
  | _ => .int
abbrev wsJ90 : List Cond := u_ws RJ9 TJ9 0
theorem nmJ9 : ∀ a, a < 0 → ∀ b, b < 0 → a ≠ b → (TJ9 a).2.1 ≠ (TJ9 b).2.1 := by decide +kernel
theorem tyJ9_ok : ∀ k, k < 0 → parseFieldDescriptor (TJ9 k).2.2.1 = some (tyJ9 k) := by decide +kernel
abbrev cJ9_abs_067f4 : ByteArray := prog_22_method_61_code
def yJ9_abs_067f4 : MethodName := ⟨RJ9, "abs", "(J)J"⟩
abbrev cJ9_max_7cf53 : ByteArray := prog_22_method_65_code
def yJ9_max_7cf53 : MethodName := ⟨RJ9, "max", "(II)I"⟩
abbrev cJ9_max_f86c9 : ByteArray := prog_22_method_66_code
def yJ9_max_f86c9 : MethodName := ⟨RJ9, "max", "(JJ)J"⟩
abbrev cJ9_min_7cf53 : ByteArray := prog_22_method_69_code
def yJ9_min_7cf53 : MethodName := ⟨RJ9, "min", "(II)I"⟩
abbrev cJ9_min_f86c9 : ByteArray := prog_22_method_70_code
def yJ9_min_f86c9 : MethodName := ⟨RJ9, "min", "(JJ)J"⟩
def RJ0 : String := "java/lang/String"
def TJ0 : u_T := fun k => match k with
  | _ => ("", "", "", false)
def tyJ0 : Nat → FieldType := fun k => match k with
  | _ => .int
abbrev wsJ00 : List Cond := u_ws RJ0 TJ0 0
theorem nmJ0 : ∀ a, a < 0 → ∀ b, b < 0 → a ≠ b → (TJ0 a).2.1 ≠ (TJ0 b).2.1 := by decide +kernel
theorem tyJ0_ok : ∀ k, k < 0 → parseFieldDescriptor (TJ0 k).2.2.1 = some (tyJ0 k) := by decide +kernel
abbrev cJ0_length_8abf5 : ByteArray := prog_24_method_54_code
def yJ0_length_8abf5 : MethodName := ⟨RJ0, "length", "()I"⟩
abbrev cJ0_charAt_5068e : ByteArray := prog_24_method_56_code
def yJ0_charAt_5068e : MethodName := ⟨RJ0, "charAt", "(I)C"⟩
abbrev cJ0_coder_7d493 : ByteArray := prog_24_method_152_code
def yJ0_coder_7d493 : MethodName := ⟨RJ0, "coder", "()B"⟩
abbrev cJ0_isLatin1_aae02 : ByteArray := prog_24_method_154_code
def yJ0_isLatin1_aae02 : MethodName := ⟨RJ0, "isLatin1", "()Z"⟩
abbrev cJ0_checkIndex_df160 : ByteArray := prog_24_method_155_code
def yJ0_checkIndex_df160 : MethodName := ⟨RJ0, "checkIndex", "(II)V"⟩
def RJ1 : String := "java/lang/StringLatin1"
def TJ1 : u_T := fun k => match k with
  | _ => ("", "", "", false)
def tyJ1 : Nat → FieldType := fun k => match k with
  | _ => .int
abbrev wsJ10 : List Cond := u_ws RJ1 TJ1 0
theorem nmJ1 : ∀ a, a < 0 → ∀ b, b < 0 → a ≠ b → (TJ1 a).2.1 ≠ (TJ1 b).2.1 := by decide +kernel
theorem tyJ1_ok : ∀ k, k < 0 → parseFieldDescriptor (TJ1 k).2.2.1 = some (tyJ1 k) := by decide +kernel
abbrev cJ1_charAt_3b067 : ByteArray := prog_25_method_2_code
def yJ1_charAt_3b067 : MethodName := ⟨RJ1, "charAt", "([BI)C"⟩
def RJ2 : String := "java/lang/StringUTF16"
def TJ2 : u_T := fun k => match k with
  | _ => ("", "", "", false)
def tyJ2 : Nat → FieldType := fun k => match k with
  | _ => .int
abbrev wsJ20 : List Cond := u_ws RJ2 TJ2 0
theorem nmJ2 : ∀ a, a < 0 → ∀ b, b < 0 → a ≠ b → (TJ2 a).2.1 ≠ (TJ2 b).2.1 := by decide +kernel
theorem tyJ2_ok : ∀ k, k < 0 → parseFieldDescriptor (TJ2 k).2.2.1 = some (tyJ2 k) := by decide +kernel
abbrev cJ2_getChar_3b067 : ByteArray := prog_26_method_5_code
def yJ2_getChar_3b067 : MethodName := ⟨RJ2, "getChar", "([BI)C"⟩
abbrev cJ2_length_9d52b : ByteArray := prog_26_method_6_code
def yJ2_length_9d52b : MethodName := ⟨RJ2, "length", "([B)I"⟩
abbrev cJ2_charAt_3b067 : ByteArray := prog_26_method_83_code
def yJ2_charAt_3b067 : MethodName := ⟨RJ2, "charAt", "([BI)C"⟩
abbrev cJ2_checkIndex_2214a : ByteArray := prog_26_method_91_code
def yJ2_checkIndex_2214a : MethodName := ⟨RJ2, "checkIndex", "(I[B)V"⟩
def RJ10 : String := "java/lang/System"
def TJ10 : u_T := fun k => match k with
  | _ => ("", "", "", false)
def tyJ10 : Nat → FieldType := fun k => match k with
  | _ => .int
abbrev wsJ100 : List Cond := u_ws RJ10 TJ10 0
theorem nmJ10 : ∀ a, a < 0 → ∀ b, b < 0 → a ≠ b → (TJ10 a).2.1 ≠ (TJ10 b).2.1 := by decide +kernel
theorem tyJ10_ok : ∀ k, k < 0 → parseFieldDescriptor (TJ10 k).2.2.1 = some (tyJ10 k) := by decide +kernel
def RJxfd54e : String := "java/lang/constant/Constable"
def TJxfd54e : u_T := fun k => match k with
  | _ => ("", "", "", false)
def tyJxfd54e : Nat → FieldType := fun k => match k with
  | _ => .int
abbrev wsJxfd54e0 : List Cond := u_ws RJxfd54e TJxfd54e 0
theorem nmJxfd54e : ∀ a, a < 0 → ∀ b, b < 0 → a ≠ b → (TJxfd54e a).2.1 ≠ (TJxfd54e b).2.1 := by decide +kernel
theorem tyJxfd54e_ok : ∀ k, k < 0 → parseFieldDescriptor (TJxfd54e k).2.2.1 = some (tyJxfd54e k) := by decide +kernel
def RJx3cf43 : String := "java/lang/constant/ConstantDesc"
def TJx3cf43 : u_T := fun k => match k with
  | _ => ("", "", "", false)
def tyJx3cf43 : Nat → FieldType := fun k => match k with
  | _ => .int
abbrev wsJx3cf430 : List Cond := u_ws RJx3cf43 TJx3cf43 0
theorem nmJx3cf43 : ∀ a, a < 0 → ∀ b, b < 0 → a ≠ b → (TJx3cf43 a).2.1 ≠ (TJx3cf43 b).2.1 := by decide +kernel
theorem tyJx3cf43_ok : ∀ k, k < 0 → parseFieldDescriptor (TJx3cf43 k).2.2.1 = some (tyJx3cf43 k) := by decide +kernel
def RJ7 : String := "java/util/Arrays"
def TJ7 : u_T := fun k => match k with
  | _ => ("", "", "", false)
def tyJ7 : Nat → FieldType := fun k => match k with
  | _ => .int
abbrev wsJ70 : List Cond := u_ws RJ7 TJ7 0
theorem nmJ7 : ∀ a, a < 0 → ∀ b, b < 0 → a ≠ b → (TJ7 a).2.1 ≠ (TJ7 b).2.1 := by decide +kernel
theorem tyJ7_ok : ∀ k, k < 0 → parseFieldDescriptor (TJ7 k).2.2.1 = some (tyJ7 k) := by decide +kernel
abbrev cJ7_fill_53178 : ByteArray := prog_31_method_103_code
def yJ7_fill_53178 : MethodName := ⟨RJ7, "fill", "([II)V"⟩
def RJ3 : String := "jdk/internal/util/Preconditions"
def TJ3 : u_T := fun k => match k with
  | _ => ("", "", "", false)
def tyJ3 : Nat → FieldType := fun k => match k with
  | _ => .int
abbrev wsJ30 : List Cond := u_ws RJ3 TJ3 0
theorem nmJ3 : ∀ a, a < 0 → ∀ b, b < 0 → a ≠ b → (TJ3 a).2.1 ≠ (TJ3 b).2.1 := by decide +kernel
theorem tyJ3_ok : ∀ k, k < 0 → parseFieldDescriptor (TJ3 k).2.2.1 = some (tyJ3 k) := by decide +kernel
abbrev cJ3_checkIndex_8e157 : ByteArray := prog_33_method_11_code
def yJ3_checkIndex_8e157 : MethodName := ⟨RJ3, "checkIndex", "(IILjava/util/function/BiFunction;)I"⟩
def RL : String := "RansomHymnLaw"
abbrev cL_look : ByteArray := method_3_code
def yL_look : MethodName := ⟨RL, "look", "(LRansomHymn;II[J)I"⟩
abbrev cL_law : ByteArray := code
def yL_law : MethodName := ⟨RL, "law", "([I)Z"⟩
abbrev vwCl : List vw_C := [(RX0, TX0, 10), (RX1, TX1, 11), (RX2, TX2, 10), (RX3, TX3, 2), (RX4, TX4, 19), (RX5, TX5, 6), (RX6, TX6, 2), (RX7, TX7, 6), (RX8, TX8, 4), (RX9, TX9, 9), (RX10, TX10, 13), (RX11, TX11, 15), (RX12, TX12, 69)]
def xgt : List Cond := lw_tbl.filter goodWord
theorem xgt_good : ∀ w ∈ xgt, ((w.onTables && w.keeps) = true ∨ ∃ ty, w = .arrayClass ty) := fun w h => good_of_word (List.mem_filter.mp h).2
theorem xgt_in : ∀ w ∈ xgt, w ∈ lw_tbl := fun w h => (List.mem_filter.mp h).1
end
section
/-! A machine of my own over numbers, that a program can run: abstract values (tag, number): (0, n) int, (1, i) the cell number i, (2, _) null, (3, k) the unknown int number k, (4, n) long, (5, k) the constant text number k, (6, k) its bytes.
A cell: inl (type, contents) an array, inr (class, fields) an object. -/
abbrev xV : Type := Nat × Nat
abbrev xC : Type := (Nat × List xV) ⊕ (Nat × List xV)
abbrev xH : Type := List xC
abbrev xL : Type := List (Nat × xV)
abbrev xOp : Type := Nat × Nat × Nat × Nat × List (Nat × Nat)
abbrev xM : Type := MethodName × ByteArray × Nat × Option FieldType × Nat × String × Room × List (Nat × xOp)
/-- what is known of the unknown ints: pairs that differ; bounds (moved by 2^31) -/
abbrev xK : Type := List (xV × xV) × List (Nat × Nat)
abbrev xR : Type := xK × Option xV × xH
abbrev xD : Type := List (Nat × xV × xV)
/-! what an abstract thing means -/
def xdi (ρ : Nat → Int32) (v : xV) : Int32 := match v with
  | (0, n) => nI n
  | (3, k) => ρ k
  | _ => 0
def xdl (v : xV) : Int64 := lN v.2
def xdv (b : Nat) (ρ : Nat → Int32) (sa : Nat → Nat) (v : xV) : Value := match v with
  | (0, n) => .int (nI n)
  | (1, i) => .ref (b + i)
  | (2, _) => .null
  | (3, k) => .int (ρ k)
  | (5, k) => .ref (sa k)
  | (6, k) => .ref (sa (k + 1000))
  | (_, n) => .long (lN n)
def xdr (b : Nat) (v : xV) : Option Nat := match v with
  | (1, i) => some (b + i)
  | _ => none
def xty (k : Nat) : FieldType := match k with
  | 0 => .int
  | 1 => .byte
  | 2 => .long
  | 3 => .boolean
  | _ => .array .int
def xzero (k : Nat) : xV := match k with
  | 2 => (4, 0)
  | 4 => (2, 0)
  | _ => (0, 0)
def xce (b : Nat) (ρ : Nat → Int32) (sa : Nat → Nat) (dA : Nat → ClassId) (c : xC) : va_E := match c with
  | .inl (2, vs) => .inl (dA 2, vs.length, .inr (.inl (fun j => xdl (vs.getD j (4, 0)))))
  | .inl (4, vs) => .inl (dA 4, vs.length, .inr (.inr (.inr (.inr (fun j => xdr b (vs.getD j (2, 0)))))))
  | .inl (k, vs) => .inl (dA k, vs.length, .inl (fun j => xdi ρ (vs.getD j (0, 0))))
  | .inr (ci, fs) => .inr (ci, fs.map (xdv b ρ sa))
def xcx (b : Nat) (ρ : Nat → Int32) (sa : Nat → Nat) (dA : Nat → ClassId) : Nat → xH → va_W
  | _, [] => []
  | i, c :: K => (b + i, xce b ρ sa dA c) :: xcx b ρ sa dA (i + 1) K
theorem xcx_get {b : Nat} {ρ : Nat → Int32} {sa : Nat → Nat} {dA : Nat → ClassId} : ∀ (K : xH) (o i : Nat), (xcx b ρ sa dA o K)[i]? = K[i]?.map (fun c => (b + (o + i), xce b ρ sa dA c))
  | [], o, i => by simp [xcx]
  | c :: K, o, 0 => by simp [xcx]
  | c :: K, o, i + 1 => by
    simp only [xcx, List.getElem?_cons_succ]
    rw [xcx_get K (o + 1) i, show o + 1 + i = o + (i + 1) by omega]
theorem xcx_set {b : Nat} {ρ : Nat → Int32} {sa : Nat → Nat} {dA : Nat → ClassId} : ∀ (K : xH) (o i : Nat) (c : xC), (xcx b ρ sa dA o K).set i (b + (o + i), xce b ρ sa dA c) = xcx b ρ sa dA o (K.set i c)
  | [], o, i, c => by simp [xcx]
  | d :: K, o, 0, c => by simp [xcx]
  | d :: K, o, i + 1, c => by
    simp only [xcx, List.set_cons_succ]
    rw [← xcx_set K (o + 1) i c, show o + 1 + i = o + (i + 1) by omega]
theorem xcx_push {b : Nat} {ρ : Nat → Int32} {sa : Nat → Nat} {dA : Nat → ClassId} : ∀ (K : xH) (o : Nat) (c : xC), xcx b ρ sa dA o (K ++ [c]) = xcx b ρ sa dA o K ++ [(b + (o + K.length), xce b ρ sa dA c)]
  | [], o, c => by simp [xcx]
  | d :: K, o, c => by
    simp only [List.cons_append, xcx, List.length_cons]
    rw [xcx_push K (o + 1) c, show o + 1 + K.length = o + (K.length + 1) by omega]
theorem xcx_D {b : Nat} {ρ : Nat → Int32} {sa : Nat → Nat} {dA : Nat → ClassId} {A : Nat → Prop} {K : xH} (h : ∀ i, i < K.length → A (b + i)) : va_D A (xcx b ρ sa dA 0 K) := by
  refine ⟨fun i j p q hi hj hpq => ?_, fun k q hk => ?_⟩
  · rw [xcx_get] at hi hj
    cases h1 : K[i]? with
    | none => rw [h1] at hi; cases hi
    | some x =>
      cases h2 : K[j]? with
      | none => rw [h2] at hj; cases hj
      | some y =>
        rw [h1] at hi; rw [h2] at hj
        cases hi; cases hj
        dsimp only at hpq
        omega
  · rw [xcx_get] at hk
    cases h1 : K[k]? with
    | none => rw [h1] at hk; cases hk
    | some x =>
      rw [h1] at hk
      cases hk
      have := (List.getElem?_eq_some_iff.mp h1).1
      rw [show b + (0 + k) = b + k by omega]
      exact h k this
/-! the numbers -/
def xbin (o x y : Nat) : Option Nat := match o with
  | 0 => some ((x + y) % 4294967296)
  | 1 => some ((x + (4294967296 - y % 4294967296)) % 4294967296)
  | 2 => some ((x * y) % 4294967296)
  | 3 => some (Nat.land x y)
  | 4 => some (Nat.lor x y)
  | 5 => some (Nat.xor x y)
  | 6 => if Nat.blt y 32 && Nat.blt (x * 2 ^ y) 4294967296 then some (x * 2 ^ y) else none
  | 7 => if Nat.blt y 32 && Nat.blt x 2147483648 then some (x / 2 ^ y) else none
  | 8 => if Nat.blt y 32 && Nat.blt x 4294967296 then some (x / 2 ^ y) else none
  | 9 => if Nat.blt 0 y && Nat.blt y 2147483648 && Nat.blt x 2147483648 then some (x / y) else none
  | 10 => if Nat.blt 0 y && Nat.blt y 2147483648 && Nat.blt x 2147483648 then some (x % y) else none
  | _ => none
def fbin (o : Nat) (x y : Int32) : Int32 := match o with
  | 0 => x + y
  | 1 => x - y
  | 2 => x * y
  | 3 => x &&& y
  | 4 => x ||| y
  | 5 => x ^^^ y
  | 6 => x <<< (y &&& 31)
  | 7 => x >>> (y &&& 31)
  | 8 => (x.toUInt32 >>> (y.toUInt32 &&& Int32.toUInt32 31)).toInt32
  | 9 => x / y
  | 10 => x - x / y * y
  | _ => 0
theorem nI_m (n : Nat) : nI (n % 4294967296) = nI n := by
  apply Int32.toBitVec_inj.mp
  show BitVec.ofNat 32 _ = BitVec.ofNat 32 _
  apply BitVec.eq_of_toNat_eq
  simp
theorem nI_bv (n : Nat) : (nI n).toBitVec = BitVec.ofNat 32 n := rfl
theorem xs_l : ∀ n, n < 32 → ((nI n &&& 31).toBitVec.smod 32).toNat = n := by decide +kernel
theorem xs_u : ∀ n, n < 32 → (((nI n).toUInt32 &&& Int32.toUInt32 31).toBitVec % 32).toNat = n := by decide +kernel
theorem xbin_ok {o x y z : Nat} (h : xbin o x y = some z) : fbin o (nI x) (nI y) = nI z := by
  match o, h with
  | 0, h => cases h; rw [nI_m]; exact nI_add x y
  | 1, h =>
    cases h
    rw [nI_m, ← nI_add]
    show nI x - nI y = _
    have e : nI (4294967296 - y % 4294967296) + nI y = 0 := by
      rw [← nI_m y, nI_add, show 4294967296 - y % 4294967296 + y % 4294967296 = 4294967296 by omega]
      decide +kernel
    have e2 : nI (4294967296 - y % 4294967296) = - nI y := by
      rw [← Int32.add_zero (-nI y), ← e, Int32.add_comm, Int32.add_assoc, Int32.add_right_neg, Int32.add_zero]
    rw [e2, Int32.sub_eq_add_neg]
  | 2, h => cases h; rw [nI_m]; exact pk_mul x y
  | 3, h =>
    cases h
    apply Int32.toBitVec_inj.mp
    show BitVec.ofNat 32 x &&& BitVec.ofNat 32 y = BitVec.ofNat 32 (x &&& y)
    apply BitVec.eq_of_toNat_eq
    simp [Nat.and_mod_two_pow]
  | 4, h =>
    cases h
    apply Int32.toBitVec_inj.mp
    show BitVec.ofNat 32 x ||| BitVec.ofNat 32 y = BitVec.ofNat 32 (x ||| y)
    apply BitVec.eq_of_toNat_eq
    simp [Nat.or_mod_two_pow]
  | 5, h =>
    cases h
    apply Int32.toBitVec_inj.mp
    show BitVec.ofNat 32 x ^^^ BitVec.ofNat 32 y = BitVec.ofNat 32 (x ^^^ y)
    apply BitVec.eq_of_toNat_eq
    simp [Nat.xor_mod_two_pow]
  | 6, h =>
    simp only [xbin] at h
    split at h
    · next hc =>
      simp only [Bool.and_eq_true, Nat.blt_eq] at hc
      cases h
      exact pk_shlN _ y (xs_l y hc.1) hc.2
    · cases h
  | 7, h =>
    simp only [xbin] at h
    split at h
    · next hc =>
      simp only [Bool.and_eq_true, Nat.blt_eq] at hc
      cases h
      exact pk_shrN hc.2 _ y (xs_l y hc.1)
    · cases h
  | 8, h =>
    simp only [xbin] at h
    split at h
    · next hc =>
      simp only [Bool.and_eq_true, Nat.blt_eq] at hc
      cases h
      exact pk_ushrN hc.2 _ y (xs_u y hc.1)
    · cases h
  | 9, h =>
    simp only [xbin] at h
    split at h
    · next hc =>
      simp only [Bool.and_eq_true, Nat.blt_eq] at hc
      cases h
      exact pk_div hc.2 hc.1.1 hc.1.2
    · cases h
  | 10, h =>
    simp only [xbin] at h
    split at h
    · next hc =>
      simp only [Bool.and_eq_true, Nat.blt_eq] at hc
      cases h
      exact pk_rem hc.2 hc.1.1 hc.1.2
    · cases h
/-- comparing: 0 =, 1 not =, 2 <, 3 >=, 4 >, 5 <= -/
def xcp (c : Nat) (x y : Int32) : Prop := match c with
  | 0 => x = y
  | 1 => ¬ x = y
  | 2 => x < y
  | 3 => y ≤ x
  | 4 => y < x
  | _ => x ≤ y
def xsg (n : Nat) : Nat := (n + 2147483648) % 4294967296
def xcb (c x y : Nat) : Bool := match c with
  | 0 => Nat.beq x y
  | 1 => !(Nat.beq x y)
  | 2 => Nat.blt (xsg x) (xsg y)
  | 3 => Nat.ble (xsg y) (xsg x)
  | 4 => Nat.blt (xsg y) (xsg x)
  | _ => Nat.ble (xsg x) (xsg y)
theorem xti {n : Nat} (h : n < 4294967296) : (nI n).toInt = (xsg n : Int) - 2147483648 := by
  show (BitVec.ofNat 32 n).toInt = _
  rw [BitVec.toInt_eq_toNat_cond]
  simp only [BitVec.toNat_ofNat, xsg]
  have e : n % 2 ^ 32 = n := Nat.mod_eq_of_lt h
  rw [e]
  split <;> omega
theorem xcb_ok {c x y : Nat} (hx : x < 4294967296) (hy : y < 4294967296) : xcb c x y = true ↔ xcp c (nI x) (nI y) := by
  have ex := xti hx
  have ey := xti hy
  have eq : nI x = nI y ↔ x = y := by
    refine ⟨fun h => ?_, fun h => by rw [h]⟩
    have h2 : (nI x).toInt = (nI y).toInt := by rw [h]
    rw [ex, ey] at h2
    simp only [xsg] at h2
    omega
  match c with
  | 0 =>
    show Nat.beq x y = true ↔ nI x = nI y
    rw [eq, Nat.beq_eq]
  | 1 =>
    show (!(Nat.beq x y)) = true ↔ ¬ nI x = nI y
    rw [eq, ← Nat.beq_eq]
    cases Nat.beq x y <;> simp
  | 2 =>
    show Nat.blt (xsg x) (xsg y) = true ↔ nI x < nI y
    rw [Nat.blt_eq, Int32.lt_iff_toInt_lt, ex, ey]; omega
  | 3 =>
    show Nat.ble (xsg y) (xsg x) = true ↔ nI y ≤ nI x
    rw [Nat.ble_eq, Int32.le_iff_toInt_le, ex, ey]; omega
  | 4 =>
    show Nat.blt (xsg y) (xsg x) = true ↔ nI y < nI x
    rw [Nat.blt_eq, Int32.lt_iff_toInt_lt, ex, ey]; omega
  | c + 5 =>
    show Nat.ble (xsg x) (xsg y) = true ↔ nI x ≤ nI y
    rw [Nat.ble_eq, Int32.le_iff_toInt_le, ex, ey]; omega
/-! what is known of the unknown ints -/
def sgI (x : Int32) : Nat := (x.toInt + 2147483648).toNat
theorem sgI_i (x : Int32) : (sgI x : Int) = x.toInt + 2147483648 := by
  have h := Int32.le_toInt x
  simp only [sgI]
  omega
theorem sgI_lt (x : Int32) : sgI x < 4294967296 := by
  have h := Int32.toInt_lt x
  have h2 := sgI_i x
  omega
theorem sgI_nI {n : Nat} (h : n < 4294967296) : sgI (nI n) = xsg n := by
  have h1 := sgI_i (nI n)
  rw [xti h] at h1
  omega
theorem xsg2 {n : Nat} (h : n < 4294967296) : xsg (xsg n) = n := by
  simp only [xsg]
  omega
theorem xsg_lt (n : Nat) : xsg n < 4294967296 := Nat.mod_lt _ (by decide)
theorem sgI_inj {x y : Int32} (h : sgI x = sgI y) : x = y := by
  apply Int32.toInt_inj.mp
  have h1 := sgI_i x
  have h2 := sgI_i y
  omega
theorem sgI_eq {x : Int32} {n : Nat} (hn : n < 4294967296) (h : sgI x = n) : x = nI (xsg n) := sgI_inj (by rw [sgI_nI (xsg_lt n), xsg2 hn]; exact h)
theorem sgI_ltI (x y : Int32) : x < y ↔ sgI x < sgI y := by
  have h1 := sgI_i x
  have h2 := sgI_i y
  rw [Int32.lt_iff_toInt_lt]
  omega
def xKok (ρ : Nat → Int32) (κ : xK) : Prop := (∀ q ∈ κ.1, ¬ xdi ρ q.1 = xdi ρ q.2) ∧ ∀ (k lo hi : Nat), κ.2[k]? = some (lo, hi) → lo ≤ sgI (ρ k) ∧ sgI (ρ k) ≤ hi
/-- an int -/
def xint (v : xV) : Bool := match v with
  | (0, n) => Nat.blt n 4294967296
  | (3, _) => true
  | _ => false
def xrng (iv : List (Nat × Nat)) (v : xV) : Nat × Nat := match v with
  | (0, n) => (xsg n, xsg n)
  | (3, k) => iv.getD k (0, 4294967295)
  | _ => (0, 4294967295)
theorem xrng_ok {ρ : Nat → Int32} {κ : xK} (h : xKok ρ κ) {v : xV} (hv : xint v = true) : (xrng κ.2 v).1 ≤ sgI (xdi ρ v) ∧ sgI (xdi ρ v) ≤ (xrng κ.2 v).2 := by
  match v, hv with
  | (0, n), hv =>
    have hn : n < 4294967296 := by simpa [xint, Nat.blt_eq] using hv
    simp only [xrng, xdi]
    rw [sgI_nI hn]
    exact ⟨Nat.le_refl _, Nat.le_refl _⟩
  | (3, k), _ =>
    simp only [xrng, xdi]
    rw [List.getD_eq_getElem?_getD]
    cases hk : κ.2[k]? with
    | none =>
      have := sgI_lt (ρ k)
      exact ⟨Nat.zero_le _, by simp; omega⟩
    | some q => exact h.2 k q.1 q.2 hk
/-- a known unknown -/
def xnm (iv : List (Nat × Nat)) (v : xV) : xV := match v with
  | (3, k) => match iv[k]? with
    | some (lo, hi) => if Nat.beq lo hi then (0, xsg lo) else (3, k)
    | none => (3, k)
  | v => v
theorem xnm_ok {ρ : Nat → Int32} {κ : xK} (h : xKok ρ κ) {b : Nat} {sa : Nat → Nat} (v : xV) : xdv b ρ sa (xnm κ.2 v) = xdv b ρ sa v ∧ xdi ρ (xnm κ.2 v) = xdi ρ v := by
  match v with
  | (0, _) | (1, _) | (2, _) | (4, _) | (5, _) | (6, _) => exact ⟨rfl, rfl⟩
  | (n + 7, _) => exact ⟨rfl, rfl⟩
  | (3, k) =>
    simp only [xnm]
    cases hk : κ.2[k]? with
    | none => exact ⟨rfl, rfl⟩
    | some q =>
      obtain ⟨lo, hi⟩ := q
      dsimp only
      split
      · next he =>
        have he : lo = hi := Nat.eq_of_beq_eq_true he
        subst he
        obtain ⟨h1, h2⟩ := h.2 k lo lo hk
        have e : sgI (ρ k) = lo := by omega
        have := sgI_eq (by have := sgI_lt (ρ k); omega) e
        simp only [xdv, xdi]
        rw [← this]
        exact ⟨rfl, rfl⟩
      · exact ⟨rfl, rfl⟩
def xsetr (iv : List (Nat × Nat)) (v : xV) (lo hi : Nat) : List (Nat × Nat) := match v with
  | (3, k) => match iv[k]? with
    | some (l, h) => iv.set k (Nat.max l lo, Nat.min h hi)
    | none => iv
  | _ => iv
theorem xsetr_ok {ρ : Nat → Int32} {cs : List (xV × xV)} {iv : List (Nat × Nat)} (h : xKok ρ (cs, iv)) {v : xV} {lo hi : Nat} (h1 : lo ≤ sgI (xdi ρ v)) (h2 : sgI (xdi ρ v) ≤ hi) : xKok ρ (cs, xsetr iv v lo hi) := by
  refine ⟨h.1, ?_⟩
  match v, h1, h2 with
  | (0, _), _, _ | (1, _), _, _ | (2, _), _, _ => exact h.2
  | (n + 4, _), _, _ => exact h.2
  | (3, k), h1, h2 =>
    simp only [xsetr]
    cases hk : iv[k]? with
    | none => exact h.2
    | some q =>
      obtain ⟨l, u⟩ := q
      intro j lo' hi' hj
      dsimp only at hj
      by_cases e : j = k
      · subst e
        have hl := (List.getElem?_eq_some_iff.mp hk).1
        rw [List.getElem?_set_self hl] at hj
        cases hj
        have h3 := h.2 j l u hk
        simp only [xdi] at h1 h2
        exact ⟨Nat.max_le.mpr ⟨h3.1, h1⟩, Nat.le_min.mpr ⟨h3.2, h2⟩⟩
      · rw [List.getElem?_set_ne (Ne.symm e)] at hj
        exact h.2 j lo' hi' hj
def xcons (iv : List (Nat × Nat)) : Bool := iv.all (fun q => Nat.ble q.1 q.2)
theorem xcons_ok {ρ : Nat → Int32} {κ : xK} (h : xKok ρ κ) : xcons κ.2 = true := by
  refine List.all_eq_true.mpr (fun q hq => ?_)
  obtain ⟨k, hk⟩ := List.getElem?_of_mem hq
  have := h.2 k q.1 q.2 hk
  exact Nat.ble_eq.mpr (by omega)
/-- the base compare: k 0 '=', 1 '<' -/
def xbp (k : Nat) (x y : Int32) : Prop := if k = 0 then x = y else x < y
def xdec (κ : xK) (k : Nat) (x y : xV) : Option Bool :=
  let a := xrng κ.2 x
  let b := xrng κ.2 y
  if Nat.beq k 0 then
    if Nat.beq a.1 a.2 && (Nat.beq b.1 b.2 && Nat.beq a.1 b.1) then some true
    else if Nat.blt a.2 b.1 || Nat.blt b.2 a.1 then some false
    else if κ.1.any (fun q => Nat.beq q.1.1 x.1 && Nat.beq q.1.2 x.2 && (Nat.beq q.2.1 y.1 && Nat.beq q.2.2 y.2)) then some false
    else none
  else if Nat.blt a.2 b.1 then some true
  else if Nat.ble b.2 a.1 then some false
  else none
theorem xdec_ok {ρ : Nat → Int32} {κ : xK} (h : xKok ρ κ) {k : Nat} {x y : xV} (hx : xint x = true) (hy : xint y = true) {r : Bool} (hd : xdec κ k x y = some r) : r = true ↔ xbp k (xdi ρ x) (xdi ρ y) := by
  have h1 := xrng_ok h hx
  have h2 := xrng_ok h hy
  simp only [xdec] at hd
  by_cases hk : k = 0
  · subst hk
    rw [if_pos (by rfl)] at hd
    simp only [xbp, if_pos]
    split at hd
    · next hc =>
      simp only [Bool.and_eq_true, Nat.beq_eq] at hc
      cases hd
      exact ⟨fun _ => sgI_inj (by omega), fun _ => rfl⟩
    · split at hd
      · next hc =>
        simp only [Bool.or_eq_true, Nat.blt_eq] at hc
        cases hd
        refine ⟨fun q => (by cases q), fun e => ?_⟩
        rw [e] at h1
        omega
      · split at hd
        · next hc =>
          cases hd
          refine ⟨fun q => (by cases q), fun e => ?_⟩
          obtain ⟨q, hq, hh⟩ := List.any_eq_true.mp hc
          simp only [Bool.and_eq_true, Nat.beq_eq] at hh
          obtain ⟨⟨e1, e2⟩, e3, e4⟩ := hh
          have ex : q.1 = x := Prod.ext e1 e2
          have ey : q.2 = y := Prod.ext e3 e4
          exact absurd (by rw [ex, ey]; exact e) (h.1 q hq)
        · cases hd
  · rw [if_neg (by rw [Nat.beq_eq]; exact hk)] at hd
    simp only [xbp, if_neg hk]
    rw [sgI_ltI]
    split at hd
    · next hc =>
      simp only [Nat.blt_eq] at hc
      cases hd
      exact ⟨fun _ => by omega, fun _ => rfl⟩
    · split at hd
      · next hc =>
        simp only [Nat.ble_eq] at hc
        cases hd
        exact ⟨fun q => (by cases q), fun _ => by omega⟩
      · cases hd
/-- what a branch teaches -/
def xlrn (κ : xK) (k : Nat) (x y : xV) (r : Bool) : xK :=
  let a := xrng κ.2 x
  let b := xrng κ.2 y
  if Nat.beq k 0 then (if r then (κ.1, xsetr (xsetr κ.2 x b.1 b.2) y a.1 a.2) else ((x, y) :: κ.1, κ.2))
  else if r then (κ.1, xsetr (xsetr κ.2 x 0 (b.2 - 1)) y (a.1 + 1) 4294967295)
  else (κ.1, xsetr (xsetr κ.2 x b.1 4294967295) y 0 a.2)
theorem xlrn_ok {ρ : Nat → Int32} {κ : xK} (h : xKok ρ κ) {k : Nat} {x y : xV} (hx : xint x = true) (hy : xint y = true) {r : Bool} (hb : r = true ↔ xbp k (xdi ρ x) (xdi ρ y)) : xKok ρ (xlrn κ k x y r) := by
  have h1 := xrng_ok h hx
  have h2 := xrng_ok h hy
  have l1 := sgI_lt (xdi ρ x)
  have l2 := sgI_lt (xdi ρ y)
  simp only [xlrn]
  by_cases hk : k = 0
  · subst hk
    simp only [xbp, if_pos] at hb
    rw [if_pos (by rfl)]
    cases r with
    | true =>
      have e := hb.mp rfl
      rw [if_pos rfl]
      exact xsetr_ok (xsetr_ok (cs := κ.1) (iv := κ.2) h (by rw [e]; exact h2.1) (by rw [e]; exact h2.2)) (by rw [← e]; exact h1.1) (by rw [← e]; exact h1.2)
    | false =>
      rw [if_neg (by decide)]
      refine ⟨fun q hq => ?_, h.2⟩
      rcases List.mem_cons.mp hq with e | hq
      · rw [e]
        exact fun z => by have := hb.mpr z; cases this
      · exact h.1 q hq
  · simp only [xbp, if_neg hk] at hb
    rw [if_neg (by rw [Nat.beq_eq]; exact hk)]
    rw [sgI_ltI] at hb
    cases r with
    | true =>
      have e := hb.mp rfl
      rw [if_pos rfl]
      exact xsetr_ok (xsetr_ok (cs := κ.1) (iv := κ.2) h (Nat.zero_le _) (by omega)) (by omega) (by omega)
    | false =>
      have e : ¬ sgI (xdi ρ x) < sgI (xdi ρ y) := fun z => by have := hb.mpr z; cases this
      rw [if_neg (by decide)]
      exact xsetr_ok (xsetr_ok (cs := κ.1) (iv := κ.2) h (by omega) (by omega)) (Nat.zero_le _) (by omega)
/-- the normal form of a compare: base, left, right, negated -/
def xnf (c : Nat) (x y : xV) : Nat × xV × xV × Bool := match c with
  | 0 => (0, x, y, false)
  | 1 => (0, x, y, true)
  | 2 => (1, x, y, false)
  | 3 => (1, x, y, true)
  | 4 => (1, y, x, false)
  | _ => (1, y, x, true)
theorem xnf_ok {ρ : Nat → Int32} (c : Nat) (x y : xV) : xcp c (xdi ρ x) (xdi ρ y) ↔ (xbp (xnf c x y).1 (xdi ρ (xnf c x y).2.1) (xdi ρ (xnf c x y).2.2.1) ↔ (xnf c x y).2.2.2 = false) := by
  match c with
  | 0 => simp [xcp, xnf, xbp]
  | 1 => simp [xcp, xnf, xbp]
  | 2 => simp [xcp, xnf, xbp]
  | 3 => simp [xcp, xnf, xbp, Int32.not_lt]
  | 4 => simp [xcp, xnf, xbp]
  | c + 5 => simp [xcp, xnf, xbp, Int32.not_lt]
def xadd (x y : Option (List xR)) : Option (List xR) := match x, y with
  | some a, some b => some (a ++ b)
  | _, _ => none
/-- a compare: one way where it is known, else both, each with what it teaches -/
def xfork (κ : xK) (c : Nat) (x y : xV) (kt kf : xK → Option (List xR)) : Option (List xR) :=
  let q := xnf c (xnm κ.2 x) (xnm κ.2 y)
  if xint q.2.1 && xint q.2.2.1 then
    match xdec κ q.1 q.2.1 q.2.2.1 with
    | some r => if Bool.xor r q.2.2.2 then kt κ else kf κ
    | none =>
      let k1 := xlrn κ q.1 q.2.1 q.2.2.1 true
      let k2 := xlrn κ q.1 q.2.1 q.2.2.1 false
      xadd (if xcons k1.2 then (if q.2.2.2 then kf k1 else kt k1) else some []) (if xcons k2.2 then (if q.2.2.2 then kt k2 else kf k2) else some [])
  else none
theorem xfork_ok {ρ : Nat → Int32} {κ : xK} (h : xKok ρ κ) {c : Nat} {x y : xV} {kt kf : xK → Option (List xR)} {Ls : List xR} (hf : xfork κ c x y kt kf = some Ls) :
    (xcp c (xdi ρ x) (xdi ρ y) → ∃ κ' L, kt κ' = some L ∧ xKok ρ κ' ∧ ∀ q ∈ L, q ∈ Ls) ∧ (¬ xcp c (xdi ρ x) (xdi ρ y) → ∃ κ' L, kf κ' = some L ∧ xKok ρ κ' ∧ ∀ q ∈ L, q ∈ Ls) := by
  simp only [xfork] at hf
  have hn := xnf_ok (ρ := ρ) c (xnm κ.2 x) (xnm κ.2 y)
  rw [(xnm_ok h (b := 0) (sa := fun _ => 0) x).2, (xnm_ok h (b := 0) (sa := fun _ => 0) y).2] at hn
  generalize xnf c (xnm κ.2 x) (xnm κ.2 y) = q at hf hn
  obtain ⟨k, u, w, ng⟩ := q
  dsimp only at hf hn
  split at hf
  · next hi =>
    simp only [Bool.and_eq_true] at hi
    cases hd : xdec κ k u w with
    | some r =>
      rw [hd] at hf
      dsimp only at hf
      have hr := xdec_ok h hi.1 hi.2 hd
      rw [← hr] at hn
      refine ⟨fun hc => ⟨κ, Ls, ?_, h, fun _ z => z⟩, fun hc => ⟨κ, Ls, ?_, h, fun _ z => z⟩⟩
      · have := hn.mp hc
        cases r <;> cases ng <;> simp_all
      · have := fun z => hc (hn.mpr z)
        cases r <;> cases ng <;> simp_all
    | none =>
      rw [hd] at hf
      dsimp only at hf
      generalize ha : (if xcons (xlrn κ k u w true).2 = true then (if ng = true then kf (xlrn κ k u w true) else kt (xlrn κ k u w true)) else some []) = a at hf
      generalize hb : (if xcons (xlrn κ k u w false).2 = true then (if ng = true then kt (xlrn κ k u w false) else kf (xlrn κ k u w false)) else some []) = b at hf
      cases a with
      | none => cases hf
      | some La =>
        cases b with
        | none => cases hf
        | some Lb =>
          cases hf
          by_cases hbp : xbp k (xdi ρ u) (xdi ρ w)
          · have hK := xlrn_ok h hi.1 hi.2 (r := true) (k := k) ⟨fun _ => hbp, fun _ => rfl⟩
            rw [if_pos (xcons_ok hK)] at ha
            refine ⟨fun hc => ⟨_, La, ?_, hK, fun q hq => List.mem_append_left _ hq⟩, fun hc => ⟨_, La, ?_, hK, fun q hq => List.mem_append_left _ hq⟩⟩
            · have := (hn.mp hc).mp hbp
              subst this
              simpa using ha
            · have : ng = true := by
                cases ng
                · exact absurd (hn.mpr ⟨fun _ => rfl, fun _ => hbp⟩) hc
                · rfl
              subst this
              simpa using ha
          · have hK := xlrn_ok h hi.1 hi.2 (r := false) (k := k) ⟨fun z => (by cases z), fun z => absurd z hbp⟩
            rw [if_pos (xcons_ok hK)] at hb
            refine ⟨fun hc => ⟨_, Lb, ?_, hK, fun q hq => List.mem_append_right _ hq⟩, fun hc => ⟨_, Lb, ?_, hK, fun q hq => List.mem_append_right _ hq⟩⟩
            · have : ng = true := by
                cases ng
                · exact absurd ((hn.mp hc).mpr rfl) hbp
                · rfl
              subst this
              simpa using hb
            · have : ng = false := by
                cases ng
                · rfl
                · exact absurd (hn.mpr ⟨fun z => absurd z hbp, fun z => by cases z⟩) hc
              subst this
              simpa using hb
  · cases hf
end
section
abbrev xCx (p : Program) (s : State) (m : MethodId) (args : Array Value) (c : Code) (cc : ByteArray) (own : String) : Prop := p.tables.exec = Jvm.exec ∧ c.code = cc ∧ s.vm.findClass own = some m.cls ∧ ∀ w ∈ xgt, w.before args s = true
/-- the words of a private method of a nest mate -/
def xnw : List Cond := [.methodLinkNest RX11 15 yX4_init RX11, .methodLinkNest RX11 39 yX10_init RX11, .methodLinkNest RX11 49 yX3_init RX11, .methodLinkNest RX4 65 yX2_init RX11]
/-- the constant texts of the class of tokens: their lengths, their bytes -/
def xlen : List Nat := [68, 48]
def xbyt : List (List Nat) := [[116, 97, 118, 101, 114, 110, 32, 118, 111, 105, 99, 101, 32, 118, 101, 114, 115, 101, 32, 98, 97, 107, 101, 114, 32, 112, 117, 114, 115, 101, 32, 115, 101, 101, 100, 32, 108, 97, 119, 32, 98, 111, 121, 32, 112, 97, 119, 110, 32, 111, 100, 100, 115, 32, 112, 97, 114, 116, 32, 100, 117, 101, 32, 99, 114, 97, 99, 107], [111, 114, 32, 97, 110, 100, 32, 110, 111, 116, 32, 100, 101, 98, 116, 32, 114, 97, 116, 101, 32, 110, 111, 116, 101, 115, 32, 114, 101, 115, 116, 115, 32, 104, 105, 103, 104, 32, 119, 101, 101, 107, 32, 112, 97, 114, 116, 115]]
/-- what holds beside the world: nest mates, arrays of arrays, constant texts (sa k the text, sa (k + 1000) its bytes), statics -/
def xFx (b : Nat) (sa : Nat → Nat) (s : State) : Prop := (∀ w ∈ xnw, va_Nw w s) ∧ va_Nw (.arrayOver (.array .int)) s ∧
  (∀ k, k < 2 → va_O "java/lang/String" (sa k) (fun q => b ≤ q) s s.heap ∧ va_OF "java/lang/String" "coder" "B" (.int 0) (sa k) (fun q => b ≤ q) s s.heap ∧ va_OF "java/lang/String" "value" "[B" (.ref (sa (k + 1000))) (sa k) (fun q => b ≤ q) s s.heap ∧ va_T .byte (sa (k + 1000)) (xlen.getD k 0) (fun j => .int (nI ((xbyt.getD k []).getD j 0))) (fun q => b ≤ q) s s.heap) ∧
  vk_R RX9 41 "tavern voice verse baker purse seed law boy pawn odds part due crack" (sa 0) s ∧ vk_R RX9 47 "or and not debt rate notes rests high week parts" (sa 1) s ∧
  va_Z "java/lang/String" "COMPACT_STRINGS" "Z" (.int 1) (fun q => b ≤ q) s s.heap ∧ va_Z "jdk/internal/util/Preconditions" "SIOOBE_FORMATTER" "Ljava/util/function/BiFunction;" (.ref (sa 99)) (fun q => b ≤ q) s s.heap
def xkd (k : Nat) (v : Value) : Prop := match k with
  | 0 => ∃ x, v = .int x
  | 1 => v = .null ∨ ∃ a, v = .ref a
  | _ => ∃ x, v = .long x
def xT (cc : ByteArray) (own : String) (pc nx : Nat) (st st' : List Value) : Prop := ∀ (p : Program) (l : Launch) (e : Env) (R : Room) (s : State) (m : MethodId) (args : Array Value) (below : List Frame) (meth : Method) (c : Code) (H : Heap) (locs : List Loc) (cells slots : Nat) (Q : State → Prop) (ls : Array Slot) (rest : List Value), xCx p s m args c cc own → W p l e R s m args below meth c H locs cells slots Q (F0 m nx ls (st' ++ rest)) → W p l e R s m args below meth c H locs cells slots Q (F0 m pc ls (st ++ rest))
def xB (cc : ByteArray) (own : String) (pc nx tgt k : Nat) : Prop := ∀ (p : Program) (l : Launch) (e : Env) (R : Room) (s : State) (m : MethodId) (args : Array Value) (below : List Frame) (meth : Method) (c : Code) (H : Heap) (locs : List Loc) (cells slots : Nat) (Q : State → Prop) (ls : Array Slot) (rest : List Value), xCx p s m args c cc own → ∀ x y : Int32, (xcp k x y → W p l e R s m args below meth c H locs cells slots Q (F0 m tgt ls rest)) → (¬ xcp k x y → W p l e R s m args below meth c H locs cells slots Q (F0 m nx ls rest)) → W p l e R s m args below meth c H locs cells slots Q (F0 m pc ls (.int y :: .int x :: rest))
def xB0 (cc : ByteArray) (own : String) (pc nx tgt k : Nat) : Prop := ∀ (p : Program) (l : Launch) (e : Env) (R : Room) (s : State) (m : MethodId) (args : Array Value) (below : List Frame) (meth : Method) (c : Code) (H : Heap) (locs : List Loc) (cells slots : Nat) (Q : State → Prop) (ls : Array Slot) (rest : List Value), xCx p s m args c cc own → ∀ x : Int32, (xcp k x (nI 0) → W p l e R s m args below meth c H locs cells slots Q (F0 m tgt ls rest)) → (¬ xcp k x (nI 0) → W p l e R s m args below meth c H locs cells slots Q (F0 m nx ls rest)) → W p l e R s m args below meth c H locs cells slots Q (F0 m pc ls (.int x :: rest))
def xLd (cc : ByteArray) (own : String) (pc nx k i : Nat) : Prop := ∀ (p : Program) (l : Launch) (e : Env) (R : Room) (s : State) (m : MethodId) (args : Array Value) (below : List Frame) (meth : Method) (c : Code) (H : Heap) (locs : List Loc) (cells slots : Nat) (Q : State → Prop) (ls : Array Slot) (rest : List Value), xCx p s m args c cc own → ∀ v : Value, xkd k v → ls[i]? = some (.val v) → W p l e R s m args below meth c H locs cells slots Q (F0 m nx ls (v :: rest)) → W p l e R s m args below meth c H locs cells slots Q (F0 m pc ls rest)
def xfl (k i : Nat) (q : Nat × Value) : Bool := match k with
  | 2 => !(q.1 == i) && (!(q.1 == i + 1) && !(q.1 + 1 == i && q.2.category == 2))
  | _ => !(q.1 == i) && !(q.1 + 1 == i && q.2.category == 2)
def xwd (k : Nat) : Nat := match k with
  | 2 => 1
  | _ => 0
def xSt (cc : ByteArray) (own : String) (pc nx k i : Nat) : Prop := ∀ (p : Program) (l : Launch) (e : Env) (R : Room) (s : State) (m : MethodId) (args : Array Value) (below : List Frame) (meth : Method) (c : Code) (H : Heap) (locs : List Loc) (cells slots : Nat) (Q : State → Prop) (ls : Array Slot) (rest : List Value), xCx p s m args c cc own → ∀ (nL : Nat) (lv : List (Nat × Value)) (v : Value), xkd k v → lv_has ls nL lv → i + xwd k < nL → (∀ ls' : Array Slot, lv_has ls' nL ((i, v) :: lv.filter (xfl k i)) → W p l e R s m args below meth c H locs cells slots Q (F0 m nx ls' rest)) → W p l e R s m args below meth c H locs cells slots Q (F0 m pc ls (v :: rest))
def xIn (cc : ByteArray) (own : String) (pc nx i n : Nat) : Prop := ∀ (p : Program) (l : Launch) (e : Env) (R : Room) (s : State) (m : MethodId) (args : Array Value) (below : List Frame) (meth : Method) (c : Code) (H : Heap) (locs : List Loc) (cells slots : Nat) (Q : State → Prop) (ls : Array Slot) (rest : List Value), xCx p s m args c cc own → ∀ (nL k : Nat) (lv : List (Nat × Value)) (x : Int32), lv_has ls nL lv → lv[k]? = some (i, .int x) → i < nL → (∀ ls' : Array Slot, lv_has ls' nL ((i, .int (x + nI n)) :: lv.filter (xfl 0 i)) → W p l e R s m args below meth c H locs cells slots Q (F0 m nx ls' rest)) → W p l e R s m args below meth c H locs cells slots Q (F0 m pc ls rest)
def xSw (cc : ByteArray) (own : String) (pc dflt : Nat) (cs : List (Nat × Nat)) : Prop := ∀ (p : Program) (l : Launch) (e : Env) (R : Room) (s : State) (m : MethodId) (args : Array Value) (below : List Frame) (meth : Method) (c : Code) (H : Heap) (locs : List Loc) (cells slots : Nat) (Q : State → Prop) (ls : Array Slot) (rest : List Value), xCx p s m args c cc own → ∀ x : Int32, ((∃ q ∈ cs, x = nI q.1 ∧ W p l e R s m args below meth c H locs cells slots Q (F0 m q.2 ls rest)) ∨ ((∀ q ∈ cs, ¬ x = nI q.1) ∧ W p l e R s m args below meth c H locs cells slots Q (F0 m dflt ls rest))) → W p l e R s m args below meth c H locs cells slots Q (F0 m pc ls (.int x :: rest))
def xGf (cc : ByteArray) (own : String) (pc nx ci k : Nat) : Prop := ∀ (p : Program) (l : Launch) (e : Env) (R : Room) (s : State) (m : MethodId) (args : Array Value) (below : List Frame) (meth : Method) (c : Code) (H : Heap) (locs : List Loc) (cells slots : Nat) (Q : State → Prop) (ls : Array Slot) (rest : List Value), xCx p s m args c cc own → ∀ (D : va_G) (tys : List (ClassId × FieldType)) (ws : va_W) (q0 a : Nat) (fs : List Value) (v : Value), va_K D vwCl tys s → va_P D vwCl ws H → ws[q0]? = some (a, .inr (ci, fs)) → fs[k]? = some v → W p l e R s m args below meth c H locs cells slots Q (F0 m nx ls (v :: rest)) → W p l e R s m args below meth c H locs cells slots Q (F0 m pc ls (.ref a :: rest))
def xPf (cc : ByteArray) (own : String) (pc nx ci k : Nat) (ty : FieldType) (fin : Bool) : Prop := ∀ (p : Program) (l : Launch) (e : Env) (R : Room) (s : State) (m : MethodId) (args : Array Value) (below : List Frame) (meth : Method) (c : Code) (H : Heap) (locs : List Loc) (cells slots : Nat) (Q : State → Prop) (ls : Array Slot) (rest : List Value), xCx p s m args c cc own → ∀ (D : va_G) (tys : List (ClassId × FieldType)) (ws : va_W) (q0 a : Nat) (A : Nat → Prop) (H0 : Heap) (fs : List Value) (v : Value), va_K D vwCl tys s → va_P D vwCl ws H → va_D A ws → va_S A H0 H locs → ws[q0]? = some (a, .inr (ci, fs)) → (fin = true → meth.name = "<init>") → narrow ty v = v → fits ty v = true → k < fs.length → (∀ (H1 : Heap) (locs1 : List Loc), va_P D vwCl (ws.set q0 (a, .inr (ci, fs.set k v))) H1 → va_D A (ws.set q0 (a, .inr (ci, fs.set k v))) → va_S A H0 H1 locs1 → H1.size = H.size → W p l e R s m args below meth c H1 locs1 cells slots Q (F0 m nx ls rest)) → W p l e R s m args below meth c H locs cells slots Q (F0 m pc ls (v :: .ref a :: rest))
def xAl (cc : ByteArray) (own : String) (pc nx : Nat) : Prop := ∀ (p : Program) (l : Launch) (e : Env) (R : Room) (s : State) (m : MethodId) (args : Array Value) (below : List Frame) (meth : Method) (c : Code) (H : Heap) (locs : List Loc) (cells slots : Nat) (Q : State → Prop) (ls : Array Slot) (rest : List Value), xCx p s m args c cc own → ∀ (D : va_G) (tys : List (ClassId × FieldType)) (ws : va_W) (q0 a : Nat) (t0 : Nat) (cA : ClassId) (x : vp_A) (ty : FieldType), va_K D vwCl tys s → va_P D vwCl ws H → ws[q0]? = some (a, .inl (cA, x)) → tys[t0]? = some (cA, ty) → W p l e R s m args below meth c H locs cells slots Q (F0 m nx ls (.int (nI x.1) :: rest)) → W p l e R s m args below meth c H locs cells slots Q (F0 m pc ls (.ref a :: rest))
def xRd (cc : ByteArray) (own : String) (pc nx : Nat) (ty : FieldType) : Prop := ∀ (p : Program) (l : Launch) (e : Env) (R : Room) (s : State) (m : MethodId) (args : Array Value) (below : List Frame) (meth : Method) (c : Code) (H : Heap) (locs : List Loc) (cells slots : Nat) (Q : State → Prop) (ls : Array Slot) (rest : List Value), xCx p s m args c cc own → ∀ (D : va_G) (tys : List (ClassId × FieldType)) (ws : va_W) (q0 a : Nat) (t0 : Nat) (cA : ClassId) (n : Nat) (f : Nat → Int32) (i : Int32), va_K D vwCl tys s → va_P D vwCl ws H → ws[q0]? = some (a, .inl (cA, n, .inl f)) → tys[t0]? = some (cA, ty) → vp_in i n → W p l e R s m args below meth c H locs cells slots Q (F0 m nx ls (.int (f i.toNatClampNeg) :: rest)) → W p l e R s m args below meth c H locs cells slots Q (F0 m pc ls (.int i :: .ref a :: rest))
def xRr (cc : ByteArray) (own : String) (pc nx : Nat) : Prop := ∀ (p : Program) (l : Launch) (e : Env) (R : Room) (s : State) (m : MethodId) (args : Array Value) (below : List Frame) (meth : Method) (c : Code) (H : Heap) (locs : List Loc) (cells slots : Nat) (Q : State → Prop) (ls : Array Slot) (rest : List Value), xCx p s m args c cc own → ∀ (D : va_G) (tys : List (ClassId × FieldType)) (ws : va_W) (q0 a : Nat) (t0 : Nat) (cA : ClassId) (n : Nat) (f : Nat → Option Nat) (i : Int32), va_K D vwCl tys s → va_P D vwCl ws H → ws[q0]? = some (a, .inl (cA, n, .inr (.inr (.inr (.inr f))))) → tys[t0]? = some (cA, .array .int) → vp_in i n → W p l e R s m args below meth c H locs cells slots Q (F0 m nx ls (va_rf (f i.toNatClampNeg) :: rest)) → W p l e R s m args below meth c H locs cells slots Q (F0 m pc ls (.int i :: .ref a :: rest))
def xWr (cc : ByteArray) (own : String) (pc nx : Nat) (ty : FieldType) : Prop := ∀ (p : Program) (l : Launch) (e : Env) (R : Room) (s : State) (m : MethodId) (args : Array Value) (below : List Frame) (meth : Method) (c : Code) (H : Heap) (locs : List Loc) (cells slots : Nat) (Q : State → Prop) (ls : Array Slot) (rest : List Value), xCx p s m args c cc own → ∀ (D : va_G) (tys : List (ClassId × FieldType)) (ws : va_W) (q0 a : Nat) (A : Nat → Prop) (H0 : Heap) (t0 : Nat) (cA : ClassId) (n : Nat) (f : Nat → Int32) (i x : Int32), va_K D vwCl tys s → va_P D vwCl ws H → va_D A ws → va_S A H0 H locs → ws[q0]? = some (a, .inl (cA, n, .inl f)) → tys[t0]? = some (cA, ty) → vp_in i n → (∀ (H1 : Heap) (locs1 : List Loc), va_P D vwCl (ws.set q0 (a, .inl (cA, n, .inl (upd f i.toNatClampNeg (vp_nar ty x))))) H1 → va_D A (ws.set q0 (a, .inl (cA, n, .inl (upd f i.toNatClampNeg (vp_nar ty x))))) → va_S A H0 H1 locs1 → H1.size = H.size → W p l e R s m args below meth c H1 locs1 cells slots Q (F0 m nx ls rest)) → W p l e R s m args below meth c H locs cells slots Q (F0 m pc ls (.int x :: .int i :: .ref a :: rest))
theorem xouter (c : ClassId) (N h0 : Nat) : ∀ i : Nat, Jvm.Free.Multi.outerC c N h0 i = arrV c N (fun j => va_rf (if j < i then some (h0 + 1 + j) else none))
  | 0 => by
    show ({ cls := c, slots := Array.replicate N .null, vm := .none } : Cell) = _
    rw [arrV_new]
    refine congrArg (arrV c N) (funext fun j => ?_)
    simp [va_rf]
  | i + 1 => by
    show (Jvm.Free.Multi.outerC c N h0 i).setSlot i (.ref (h0 + 1 + i)) = _
    rw [xouter c N h0 i, arrV_store]
    refine congrArg (arrV c N) (funext fun j => ?_)
    by_cases e : j = i
    · rw [e]
      simp [updV, va_rf]
    · by_cases h : j < i
      · simp [updV, e, h, Nat.lt_succ_of_lt h]
      · simp [updV, e, h, show ¬ j < i + 1 by omega]
def xXd (cc : ByteArray) (own : String) (pc nx : Nat) : Prop := ∀ (p : Program) (l : Launch) (e : Env) (R : Room) (s : State) (m : MethodId) (args : Array Value) (below : List Frame) (meth : Method) (c : Code) (H : Heap) (locs : List Loc) (cells slots : Nat) (Q : State → Prop) (ls : Array Slot) (rest : List Value), xCx p s m args c cc own → ∀ (q L : Nat) (xs : Nat → Int32) (A : Nat → Prop), va_X q L xs s s.heap → q < s.heap.size → ¬ A q → va_S A s.heap H locs → ∀ n, n < L → n < 2147483648 → L < 2147483648 → W p l e R s m args below meth c H locs cells slots Q (F0 m nx ls (.int (xs n) :: rest)) → W p l e R s m args below meth c H locs cells slots Q (F0 m pc ls (.int (nI n) :: .ref q :: rest))
def xXl (cc : ByteArray) (own : String) (pc nx : Nat) : Prop := ∀ (p : Program) (l : Launch) (e : Env) (R : Room) (s : State) (m : MethodId) (args : Array Value) (below : List Frame) (meth : Method) (c : Code) (H : Heap) (locs : List Loc) (cells slots : Nat) (Q : State → Prop) (ls : Array Slot) (rest : List Value), xCx p s m args c cc own → ∀ (q L : Nat) (xs : Nat → Int32) (A : Nat → Prop), va_X q L xs s s.heap → q < s.heap.size → ¬ A q → va_S A s.heap H locs → W p l e R s m args below meth c H locs cells slots Q (F0 m nx ls (.int (nI L) :: rest)) → W p l e R s m args below meth c H locs cells slots Q (F0 m pc ls (.ref q :: rest))
def xMa (cc : ByteArray) (own : String) (pc nx : Nat) : Prop := ∀ (p : Program) (l : Launch) (e : Env) (R : Room) (s : State) (m : MethodId) (args : Array Value) (below : List Frame) (meth : Method) (c : Code) (H : Heap) (locs : List Loc) (cells slots : Nat) (Q : State → Prop) (ls : Array Slot) (rest : List Value), xCx p s m args c cc own → ∀ (b : Nat) (sa : Nat → Nat) (D : va_G) (tys : List (ClassId × FieldType)) (ws : va_W) (A : Nat → Prop) (H0 : Heap) (n k : Int32) (N' K' : Nat) (cA cI : ClassId), xFx b sa s → va_P D vwCl ws H → va_S A H0 H locs → s.vm.findClass ("[" ++ (FieldType.array .int).toString) = some cA → s.vm.findClass (FieldType.array .int).toString = some cI → ¬ n < 0 → ¬ k < 0 → n.toNatClampNeg = N' → k.toNatClampNeg = K' → N' ≤ 1000 → K' ≤ 1000 → cells + (1 + N') ≤ R.cells → slots + (N' + N' * K') ≤ R.slots → (∀ H1 : Heap, va_P D vwCl (ws ++ (H.size, .inl (cA, N', .inr (.inr (.inr (.inr (fun i => if i < N' then some (H.size + 1 + i) else none)))))) :: (List.range N').map (fun i => (H.size + 1 + i, .inl (cI, K', .inl (fun _ => 0))))) H1 → va_S A H0 H1 locs → H1.size = H.size + 1 + N' → W p l e R s m args below meth c H1 locs (cells + 1 + N') (slots + N' + N' * K') Q (F0 m nx ls (.ref H.size :: rest))) → W p l e R s m args below meth c H locs cells slots Q (F0 m pc ls (.int k :: .int n :: rest))
def xMi (cc : ByteArray) (own : String) (pc nx : Nat) : Prop := ∀ (p : Program) (l : Launch) (e : Env) (R : Room) (s : State) (m : MethodId) (args : Array Value) (below : List Frame) (meth : Method) (c : Code) (H : Heap) (locs : List Loc) (cells slots : Nat) (Q : State → Prop) (ls : Array Slot) (rest : List Value), xCx p s m args c cc own → ∀ x y : Int32, c.maxLocals = ls.size → 1 ≤ R.frames → (rest.map fun v => v.category).sum + 13 ≤ R.locals → cells ≤ R.cells → slots ≤ R.slots → W p l e R s m args below meth c H locs cells slots Q (F0 m nx ls (.int (if y < x then y else x) :: rest)) → W p l e R s m args below meth c H locs cells slots Q (F0 m pc ls (.int y :: .int x :: rest))
def xSb (cc : ByteArray) (own : String) (pc nx : Nat) : Prop := ∀ (p : Program) (l : Launch) (e : Env) (R : Room) (s : State) (m : MethodId) (args : Array Value) (below : List Frame) (meth : Method) (c : Code) (H : Heap) (locs : List Loc) (cells slots : Nat) (Q : State → Prop) (ls : Array Slot) (rest : List Value), xCx p s m args c cc own → ∀ (b : Nat) (sa : Nat → Nat) (A : Nat → Prop), xFx b sa s → va_S A s.heap H locs → (∀ q, A q → b ≤ q) → ∀ k j, k < 2 → j < xlen.getD k 0 → j < 2147483648 → W p l e R s m args below meth c H locs cells slots Q (F0 m nx ls (.int (nI ((xbyt.getD k []).getD j 0)) :: rest)) → W p l e R s m args below meth c H locs cells slots Q (F0 m pc ls (.int (nI j) :: .ref (sa (k + 1000)) :: rest))
def xSl (cc : ByteArray) (own : String) (pc nx : Nat) : Prop := ∀ (p : Program) (l : Launch) (e : Env) (R : Room) (s : State) (m : MethodId) (args : Array Value) (below : List Frame) (meth : Method) (c : Code) (H : Heap) (locs : List Loc) (cells slots : Nat) (Q : State → Prop) (ls : Array Slot) (rest : List Value), xCx p s m args c cc own → ∀ (b : Nat) (sa : Nat → Nat) (A : Nat → Prop), xFx b sa s → va_S A s.heap H locs → (∀ q, A q → b ≤ q) → ∀ k, k < 2 → W p l e R s m args below meth c H locs cells slots Q (F0 m nx ls (.int (nI (xlen.getD k 0)) :: rest)) → W p l e R s m args below meth c H locs cells slots Q (F0 m pc ls (.ref (sa (k + 1000)) :: rest))
def xSf (cc : ByteArray) (own : String) (pc nx : Nat) (g : (Nat → Nat) → Nat → Value) : Prop := ∀ (p : Program) (l : Launch) (e : Env) (R : Room) (s : State) (m : MethodId) (args : Array Value) (below : List Frame) (meth : Method) (c : Code) (H : Heap) (locs : List Loc) (cells slots : Nat) (Q : State → Prop) (ls : Array Slot) (rest : List Value), xCx p s m args c cc own → ∀ (b : Nat) (sa : Nat → Nat) (A : Nat → Prop), xFx b sa s → va_S A s.heap H locs → (∀ q, A q → b ≤ q) → ∀ k, k < 2 → W p l e R s m args below meth c H locs cells slots Q (F0 m nx ls (g sa k :: rest)) → W p l e R s m args below meth c H locs cells slots Q (F0 m pc ls (.ref (sa k) :: rest))
def xGs (cc : ByteArray) (own : String) (pc nx : Nat) (g : (Nat → Nat) → Value) : Prop := ∀ (p : Program) (l : Launch) (e : Env) (R : Room) (s : State) (m : MethodId) (args : Array Value) (below : List Frame) (meth : Method) (c : Code) (H : Heap) (locs : List Loc) (cells slots : Nat) (Q : State → Prop) (ls : Array Slot) (rest : List Value), xCx p s m args c cc own → ∀ (b : Nat) (sa : Nat → Nat) (A : Nat → Prop), xFx b sa s → va_S A s.heap H locs → (∀ q, A q → b ≤ q) → W p l e R s m args below meth c H locs cells slots Q (F0 m nx ls (g sa :: rest)) → W p l e R s m args below meth c H locs cells slots Q (F0 m pc ls rest)
def xLs (cc : ByteArray) (own : String) (pc nx k : Nat) : Prop := ∀ (p : Program) (l : Launch) (e : Env) (R : Room) (s : State) (m : MethodId) (args : Array Value) (below : List Frame) (meth : Method) (c : Code) (H : Heap) (locs : List Loc) (cells slots : Nat) (Q : State → Prop) (ls : Array Slot) (rest : List Value), xCx p s m args c cc own → ∀ (b : Nat) (sa : Nat → Nat), xFx b sa s → W p l e R s m args below meth c H locs cells slots Q (F0 m nx ls (.ref (sa k) :: rest)) → W p l e R s m args below meth c H locs cells slots Q (F0 m pc ls rest)
def xCp (cc : ByteArray) (own : String) (pc nx : Nat) : Prop := ∀ (p : Program) (l : Launch) (e : Env) (R : Room) (s : State) (m : MethodId) (args : Array Value) (below : List Frame) (meth : Method) (c : Code) (H : Heap) (locs : List Loc) (cells slots : Nat) (Q : State → Prop) (ls : Array Slot) (rest : List Value), xCx p s m args c cc own → ∀ (D : va_G) (tys : List (ClassId × FieldType)) (ws : va_W) (A : Nat → Prop) (H0 : Heap) (q0 q1 a0 a t0 : Nat) (cA : ClassId) (n0 n1 : Nat) (f g : Nat → Int32) (sp dp n : Int32), c.maxLocals = ls.size → va_K D vwCl tys s → va_P D vwCl ws H → va_D A ws → va_S A H0 H locs → ws[q0]? = some (a0, .inl (cA, n0, .inl f)) → ws[q1]? = some (a, .inl (cA, n1, .inl g)) → tys[t0]? = some (cA, .int) → ¬ sp < 0 → ¬ dp < 0 → ¬ n < 0 → sp.toNatClampNeg + n.toNatClampNeg ≤ n0 → dp.toNatClampNeg + n.toNatClampNeg ≤ n1 → 1 ≤ R.frames → (rest.map fun v => v.category).sum + (nativeFrameWords "java/lang/System" "arraycopy" 5 + 11) ≤ R.locals → (∀ (H1 : Heap) (locs1 : List Loc), va_P D vwCl (ws.set q1 (a, .inl (cA, n1, .inl (va_cpy f g sp.toNatClampNeg dp.toNatClampNeg n.toNatClampNeg)))) H1 → va_S A H0 H1 locs1 → H1.size = H.size → W p l e R s m args below meth c H1 locs1 cells slots Q (F0 m nx ls rest)) → W p l e R s m args below meth c H locs cells slots Q (F0 m pc ls (.int n :: .int dp :: .ref a :: .int sp :: .ref a0 :: rest))
def xOi (cc : ByteArray) (own : String) (pc nx : Nat) : Prop := ∀ (p : Program) (l : Launch) (e : Env) (R : Room) (s : State) (m : MethodId) (args : Array Value) (below : List Frame) (meth : Method) (c : Code) (H : Heap) (locs : List Loc) (cells slots : Nat) (Q : State → Prop) (ls : Array Slot) (rest : List Value), xCx p s m args c cc own → ∀ a : Nat, c.maxLocals = ls.size → 1 ≤ R.frames → (rest.map fun v => v.category).sum + 12 ≤ R.locals → W p l e R s m args below meth c H locs cells slots Q (F0 m nx ls rest) → W p l e R s m args below meth c H locs cells slots Q (F0 m pc ls (.ref a :: rest))
def xNa (cc : ByteArray) (own : String) (pc nx : Nat) (ty : FieldType) : Prop := ∀ (p : Program) (l : Launch) (e : Env) (R : Room) (s : State) (m : MethodId) (args : Array Value) (below : List Frame) (meth : Method) (c : Code) (H : Heap) (locs : List Loc) (cells slots : Nat) (Q : State → Prop) (ls : Array Slot) (rest : List Value), xCx p s m args c cc own → ∀ (D : va_G) (tys : List (ClassId × FieldType)) (ws : va_W) (A : Nat → Prop) (H0 : Heap) (n : Int32) (N' : Nat) (a0 : vp_A) (cA : ClassId), va_K D vwCl tys s → va_P D vwCl ws H → va_S A H0 H locs → s.vm.findClass ("[" ++ ty.toString) = some cA → vp_cell cA a0 = arrV cA N' (fun _ => defaultValue ty) → ¬ n < 0 → n.toNatClampNeg = N' → N' * componentBytes ty ≤ 536870912 → cells + 1 ≤ R.cells → slots + N' ≤ R.slots → (∀ H1 : Heap, va_P D vwCl (ws ++ [(H.size, .inl (cA, a0))]) H1 → va_S A H0 H1 locs → H1.size = H.size + 1 → W p l e R s m args below meth c H1 locs (cells + 1) (slots + N') Q (F0 m nx ls (.ref H.size :: rest))) → W p l e R s m args below meth c H locs cells slots Q (F0 m pc ls (.int n :: rest))
def xNw (cc : ByteArray) (own : String) (pc nx ci N : Nat) (fs : List Value) : Prop := ∀ (p : Program) (l : Launch) (e : Env) (R : Room) (s : State) (m : MethodId) (args : Array Value) (below : List Frame) (meth : Method) (c : Code) (H : Heap) (locs : List Loc) (cells slots : Nat) (Q : State → Prop) (ls : Array Slot) (rest : List Value), xCx p s m args c cc own → ∀ (D : va_G) (tys : List (ClassId × FieldType)) (ws : va_W) (A : Nat → Prop) (H0 : Heap), va_K D vwCl tys s → va_P D vwCl ws H → va_S A H0 H locs → cells + 1 ≤ R.cells → slots + N ≤ R.slots → (∀ H1 : Heap, va_P D vwCl (ws ++ [(H.size, .inr (ci, fs))]) H1 → va_S A H0 H1 locs → H1.size = H.size + 1 → W p l e R s m args below meth c H1 locs (cells + 1) (slots + N) Q (F0 m nx ls (.ref H.size :: rest))) → W p l e R s m args below meth c H locs cells slots Q (F0 m pc ls rest)
section XR
variable {cc : ByteArray} {own : String} {pc : Nat}
theorem xr_iconst {n : Int} {a : Nat} (d : decode cc pc = .ok (.iconst n, 1)) (h : Int32.ofInt n = nI a) : xT cc own pc (pc + 1) [] [.int (nI a)] := fun p l e R s m args below meth c H locs cells slots Q ls rest C k => lv_iconst C.1 C.2.1 d h k
theorem xr_bipush {n : Int} {a : Nat} (d : decode cc pc = .ok (.bipush n, 2)) (h : (Int8.ofInt n).toInt32 = nI a) : xT cc own pc (pc + 2) [] [.int (nI a)] := fun p l e R s m args below meth c H locs cells slots Q ls rest C k => lv_bipush C.1 C.2.1 d h k
theorem xr_sipush {n : Int} {a : Nat} (d : decode cc pc = .ok (.sipush n, 3)) (h : (Int16.ofInt n).toInt32 = nI a) : xT cc own pc (pc + 3) [] [.int (nI a)] := fun p l e R s m args below meth c H locs cells slots Q ls rest C k => lv_sipush C.1 C.2.1 d h k
theorem xr_lconst {n : Fin 2} {a : Nat} (d : decode cc pc = .ok (.lconst n, 1)) (h : Int64.ofNat (n : Nat) = lN a) : xT cc own pc (pc + 1) [] [.long (lN a)] := fun p l e R s m args below meth c H locs cells slots Q ls rest C k => lv_lconst C.1 C.2.1 d h k
theorem xr_ldc {ix a : Nat} (d : decode cc pc = .ok (.ldc ix, 2)) (h : Cond.constant own ix (nI a) ∈ xgt) : xT cc own pc (pc + 2) [] [.int (nI a)] := fun p l e R s m args below meth c H locs cells slots Q ls rest C k => lv_ldc C.1 C.2.1 C.2.2.1 (C.2.2.2 _ h) d k
theorem xr_ldcw {ix a : Nat} (d : decode cc pc = .ok (.ldc_w ix, 3)) (h : Cond.constant own ix (nI a) ∈ xgt) : xT cc own pc (pc + 3) [] [.int (nI a)] := fun p l e R s m args below meth c H locs cells slots Q ls rest C k => lv_ldcw C.1 C.2.1 C.2.2.1 (C.2.2.2 _ h) d k
theorem xr_ldc2 {ix a : Nat} (d : decode cc pc = .ok (.ldc2_w ix, 3)) (h : Cond.constantLong own ix (lN a) ∈ xgt) : xT cc own pc (pc + 3) [] [.long (lN a)] := fun p l e R s m args below meth c H locs cells slots Q ls rest C k => lv_ldc2 C.1 C.2.1 C.2.2.1 (C.2.2.2 _ h) d k
theorem xr_iadd  (d : decode cc pc = .ok (.iadd, 1)) (x y : Int32) : xT cc own pc (pc + 1) [.int y, .int x] [.int (fbin 0 x y)] := fun p l e R s m args below meth c H locs cells slots Q ls rest C k => lv_iadd C.1 C.2.1 d k
theorem xr_isub  (d : decode cc pc = .ok (.isub, 1)) (x y : Int32) : xT cc own pc (pc + 1) [.int y, .int x] [.int (fbin 1 x y)] := fun p l e R s m args below meth c H locs cells slots Q ls rest C k => lv_isub C.1 C.2.1 d k
theorem xr_imul  (d : decode cc pc = .ok (.imul, 1)) (x y : Int32) : xT cc own pc (pc + 1) [.int y, .int x] [.int (fbin 2 x y)] := fun p l e R s m args below meth c H locs cells slots Q ls rest C k => lv_imul C.1 C.2.1 d k
theorem xr_iand  (d : decode cc pc = .ok (.iand, 1)) (x y : Int32) : xT cc own pc (pc + 1) [.int y, .int x] [.int (fbin 3 x y)] := fun p l e R s m args below meth c H locs cells slots Q ls rest C k => lv_iand C.1 C.2.1 d k
theorem xr_ior  (d : decode cc pc = .ok (.ior, 1)) (x y : Int32) : xT cc own pc (pc + 1) [.int y, .int x] [.int (fbin 4 x y)] := fun p l e R s m args below meth c H locs cells slots Q ls rest C k => lv_ior C.1 C.2.1 d k
theorem xr_ixor  (d : decode cc pc = .ok (.ixor, 1)) (x y : Int32) : xT cc own pc (pc + 1) [.int y, .int x] [.int (fbin 5 x y)] := fun p l e R s m args below meth c H locs cells slots Q ls rest C k => lv_ixor C.1 C.2.1 d k
theorem xr_ishl  (d : decode cc pc = .ok (.ishl, 1)) (x y : Int32) : xT cc own pc (pc + 1) [.int y, .int x] [.int (fbin 6 x y)] := fun p l e R s m args below meth c H locs cells slots Q ls rest C k => lv_ishl C.1 C.2.1 d k
theorem xr_ishr  (d : decode cc pc = .ok (.ishr, 1)) (x y : Int32) : xT cc own pc (pc + 1) [.int y, .int x] [.int (fbin 7 x y)] := fun p l e R s m args below meth c H locs cells slots Q ls rest C k => lv_ishr C.1 C.2.1 d k
theorem xr_iushr  (d : decode cc pc = .ok (.iushr, 1)) (x y : Int32) : xT cc own pc (pc + 1) [.int y, .int x] [.int (fbin 8 x y)] := fun p l e R s m args below meth c H locs cells slots Q ls rest C k => lv_iushr C.1 C.2.1 d rfl k
theorem xr_idiv  (d : decode cc pc = .ok (.idiv, 1)) (x y : Int32) (h : ¬ y = 0) : xT cc own pc (pc + 1) [.int y, .int x] [.int (fbin 9 x y)] := fun p l e R s m args below meth c H locs cells slots Q ls rest C k => lv_idiv C.1 C.2.1 d h k
theorem xr_irem  (d : decode cc pc = .ok (.irem, 1)) (x y : Int32) (h : ¬ y = 0) : xT cc own pc (pc + 1) [.int y, .int x] [.int (fbin 10 x y)] := fun p l e R s m args below meth c H locs cells slots Q ls rest C k => lv_irem C.1 C.2.1 d h k
theorem xr_i2b  (d : decode cc pc = .ok (.i2b, 1)) (x : Int32) : xT cc own pc (pc + 1) [.int x] [.int x.toInt8.toInt32] := fun p l e R s m args below meth c H locs cells slots Q ls rest C k => lv_i2b C.1 C.2.1 d rfl k
theorem xr_land  (d : decode cc pc = .ok (.land, 1)) (x y : Int64) : xT cc own pc (pc + 1) [.long y, .long x] [.long (x &&& y)] := fun p l e R s m args below meth c H locs cells slots Q ls rest C k => lv_land C.1 C.2.1 d k
theorem xr_lxor  (d : decode cc pc = .ok (.lxor, 1)) (x y : Int64) : xT cc own pc (pc + 1) [.long y, .long x] [.long (x ^^^ y)] := fun p l e R s m args below meth c H locs cells slots Q ls rest C k => lv_lxor C.1 C.2.1 d k
theorem xr_lcmp  (d : decode cc pc = .ok (.lcmp, 1)) (x y : Int64) : xT cc own pc (pc + 1) [.long y, .long x] [.int (lg_cmp x y)] := fun p l e R s m args below meth c H locs cells slots Q ls rest C k => W.lcmp C.1 C.2.1 d k
theorem xr_dup  (d : decode cc pc = .ok (.dup, 1)) (v : Value) (h : v.category = 1) : xT cc own pc (pc + 1) [v] [v, v] := fun p l e R s m args below meth c H locs cells slots Q ls rest C k => lv_dup C.1 C.2.1 d h k
theorem xr_pop  (d : decode cc pc = .ok (.pop, 1)) (v : Value) (h : v.category = 1) : xT cc own pc (pc + 1) [v] [] := fun p l e R s m args below meth c H locs cells slots Q ls rest C k => lv_pop C.1 C.2.1 d h k
theorem xr_dup2  (d : decode cc pc = .ok (.dup2, 1)) (v w : Value) (h : v.category = 1) (h2 : w.category = 1) : xT cc own pc (pc + 1) [v, w] [v, w, v, w] := fun p l e R s m args below meth c H locs cells slots Q ls rest C k => lv_dup2_11 C.1 C.2.1 d h h2 k
theorem xr_goto {off : Int} {tgt : Nat} (d : decode cc pc = .ok (.goto off, 3)) (h : (pc : Int) + off = (tgt : Int)) : xT cc own pc tgt [] [] := fun p l e R s m args below meth c H locs cells slots Q ls rest C k => lv_goto C.1 C.2.1 d h k
theorem xr_icmpeq {off : Int} {tgt : Nat} (d : decode cc pc = .ok (.if_icmp .eq off, 3)) (h : (pc : Int) + off = (tgt : Int)) : xB cc own pc (pc + 3) tgt 0 := fun p l e R s m args below meth c H locs cells slots Q ls rest C x y kt kf => lv_icmp_eq C.1 C.2.1 d h kt kf
theorem xr_ifeq {off : Int} {tgt : Nat} (d : decode cc pc = .ok (.ifCond .eq off, 3)) (h : (pc : Int) + off = (tgt : Int)) : xB0 cc own pc (pc + 3) tgt 0 := fun p l e R s m args below meth c H locs cells slots Q ls rest C x kt kf => lv_if_eq C.1 C.2.1 d h kt kf
theorem xr_icmpne {off : Int} {tgt : Nat} (d : decode cc pc = .ok (.if_icmp .ne off, 3)) (h : (pc : Int) + off = (tgt : Int)) : xB cc own pc (pc + 3) tgt 1 := fun p l e R s m args below meth c H locs cells slots Q ls rest C x y kt kf => lv_icmp_ne C.1 C.2.1 d h kt (fun z => kf (fun w => w z))
theorem xr_ifne {off : Int} {tgt : Nat} (d : decode cc pc = .ok (.ifCond .ne off, 3)) (h : (pc : Int) + off = (tgt : Int)) : xB0 cc own pc (pc + 3) tgt 1 := fun p l e R s m args below meth c H locs cells slots Q ls rest C x kt kf => lv_if_ne C.1 C.2.1 d h kt (fun z => kf (fun w => w z))
theorem xr_icmplt {off : Int} {tgt : Nat} (d : decode cc pc = .ok (.if_icmp .lt off, 3)) (h : (pc : Int) + off = (tgt : Int)) : xB cc own pc (pc + 3) tgt 2 := fun p l e R s m args below meth c H locs cells slots Q ls rest C x y kt kf => lv_icmp_lt C.1 C.2.1 d h kt kf
theorem xr_iflt {off : Int} {tgt : Nat} (d : decode cc pc = .ok (.ifCond .lt off, 3)) (h : (pc : Int) + off = (tgt : Int)) : xB0 cc own pc (pc + 3) tgt 2 := fun p l e R s m args below meth c H locs cells slots Q ls rest C x kt kf => lv_if_lt C.1 C.2.1 d h kt kf
theorem xr_icmpge {off : Int} {tgt : Nat} (d : decode cc pc = .ok (.if_icmp .ge off, 3)) (h : (pc : Int) + off = (tgt : Int)) : xB cc own pc (pc + 3) tgt 3 := fun p l e R s m args below meth c H locs cells slots Q ls rest C x y kt kf => lv_icmp_ge C.1 C.2.1 d h kt kf
theorem xr_ifge {off : Int} {tgt : Nat} (d : decode cc pc = .ok (.ifCond .ge off, 3)) (h : (pc : Int) + off = (tgt : Int)) : xB0 cc own pc (pc + 3) tgt 3 := fun p l e R s m args below meth c H locs cells slots Q ls rest C x kt kf => lv_if_ge C.1 C.2.1 d h kt kf
theorem xr_icmpgt {off : Int} {tgt : Nat} (d : decode cc pc = .ok (.if_icmp .gt off, 3)) (h : (pc : Int) + off = (tgt : Int)) : xB cc own pc (pc + 3) tgt 4 := fun p l e R s m args below meth c H locs cells slots Q ls rest C x y kt kf => lv_icmp_gt C.1 C.2.1 d h kt kf
theorem xr_ifgt {off : Int} {tgt : Nat} (d : decode cc pc = .ok (.ifCond .gt off, 3)) (h : (pc : Int) + off = (tgt : Int)) : xB0 cc own pc (pc + 3) tgt 4 := fun p l e R s m args below meth c H locs cells slots Q ls rest C x kt kf => lv_if_gt C.1 C.2.1 d h kt kf
theorem xr_icmple {off : Int} {tgt : Nat} (d : decode cc pc = .ok (.if_icmp .le off, 3)) (h : (pc : Int) + off = (tgt : Int)) : xB cc own pc (pc + 3) tgt 5 := fun p l e R s m args below meth c H locs cells slots Q ls rest C x y kt kf => lv_icmp_le C.1 C.2.1 d h kt kf
theorem xr_ifle {off : Int} {tgt : Nat} (d : decode cc pc = .ok (.ifCond .le off, 3)) (h : (pc : Int) + off = (tgt : Int)) : xB0 cc own pc (pc + 3) tgt 5 := fun p l e R s m args below meth c H locs cells slots Q ls rest C x kt kf => lv_if_le C.1 C.2.1 d h kt kf
theorem xr_iloadn {i : Nat} {j : Fin 4} (d : decode cc pc = .ok (.iload_n j, 1)) (h : (j : Nat) = i) : xLd cc own pc (pc + 1) 0 i := by
  intro p l e R s m args below meth c H locs cells slots Q ls rest C v hv hl k
  obtain ⟨x, rfl⟩ := hv
  exact lv_iload_n C.1 C.2.1 d h hl k
theorem xr_iload {i : Nat} (d : decode cc pc = .ok (.iload i, 2)) : xLd cc own pc (pc + 2) 0 i := by
  intro p l e R s m args below meth c H locs cells slots Q ls rest C v hv hl k
  obtain ⟨x, rfl⟩ := hv
  exact lv_iload C.1 C.2.1 d hl k
theorem xr_lloadn {i : Nat} {j : Fin 4} (d : decode cc pc = .ok (.lload_n j, 1)) (h : (j : Nat) = i) : xLd cc own pc (pc + 1) 2 i := by
  intro p l e R s m args below meth c H locs cells slots Q ls rest C v hv hl k
  obtain ⟨x, rfl⟩ := hv
  exact lv_lload_n C.1 C.2.1 d h hl k
theorem xr_lload {i : Nat} (d : decode cc pc = .ok (.lload i, 2)) : xLd cc own pc (pc + 2) 2 i := by
  intro p l e R s m args below meth c H locs cells slots Q ls rest C v hv hl k
  obtain ⟨x, rfl⟩ := hv
  exact lv_lload C.1 C.2.1 d hl k
theorem xr_aloadn {i : Nat} {j : Fin 4} (d : decode cc pc = .ok (.aload_n j, 1)) (h : (j : Nat) = i) : xLd cc own pc (pc + 1) 1 i := by
  intro p l e R s m args below meth c H locs cells slots Q ls rest C v hv hl k
  rcases hv with rfl | ⟨x, rfl⟩
  · exact lv_aload_nN C.1 C.2.1 d h hl k
  · exact lv_aload_n C.1 C.2.1 d h hl k
theorem xr_aload {i : Nat} (d : decode cc pc = .ok (.aload i, 2)) : xLd cc own pc (pc + 2) 1 i := by
  intro p l e R s m args below meth c H locs cells slots Q ls rest C v hv hl k
  rcases hv with rfl | ⟨x, rfl⟩
  · exact lv_aloadN C.1 C.2.1 d hl k
  · exact lv_aload C.1 C.2.1 d hl k
theorem xr_istoren {i : Nat} {j : Fin 4} (d : decode cc pc = .ok (.istore_n j, 1)) (h : (j : Nat) = i) : xSt cc own pc (pc + 1) 0 i := by
  intro p l e R s m args below meth c H locs cells slots Q ls rest C nL lv v hv hh hn k
  obtain ⟨x, rfl⟩ := hv
  exact lv_istore_n C.1 C.2.1 d h hh hn rfl k
theorem xr_istore {i : Nat} (d : decode cc pc = .ok (.istore i, 2)) : xSt cc own pc (pc + 2) 0 i := by
  intro p l e R s m args below meth c H locs cells slots Q ls rest C nL lv v hv hh hn k
  obtain ⟨x, rfl⟩ := hv
  exact lv_istore C.1 C.2.1 d hh hn rfl k
theorem xr_lstoren {i : Nat} {j : Fin 4} (d : decode cc pc = .ok (.lstore_n j, 1)) (h : (j : Nat) = i) : xSt cc own pc (pc + 1) 2 i := by
  intro p l e R s m args below meth c H locs cells slots Q ls rest C nL lv v hv hh hn k
  obtain ⟨x, rfl⟩ := hv
  exact lv_lstore_n C.1 C.2.1 d h hh hn rfl k
theorem xr_lstore {i : Nat} (d : decode cc pc = .ok (.lstore i, 2)) : xSt cc own pc (pc + 2) 2 i := by
  intro p l e R s m args below meth c H locs cells slots Q ls rest C nL lv v hv hh hn k
  obtain ⟨x, rfl⟩ := hv
  exact lv_lstore C.1 C.2.1 d hh hn rfl k
theorem xr_astoren {i : Nat} {j : Fin 4} (d : decode cc pc = .ok (.astore_n j, 1)) (h : (j : Nat) = i) : xSt cc own pc (pc + 1) 1 i := by
  intro p l e R s m args below meth c H locs cells slots Q ls rest C nL lv v hv hh hn k
  rcases hv with rfl | ⟨x, rfl⟩
  · exact lv_astore_nN C.1 C.2.1 d h hh hn rfl k
  · exact lv_astore_n C.1 C.2.1 d h hh hn rfl k
theorem xr_astore {i : Nat} (d : decode cc pc = .ok (.astore i, 2)) : xSt cc own pc (pc + 2) 1 i := by
  intro p l e R s m args below meth c H locs cells slots Q ls rest C nL lv v hv hh hn k
  rcases hv with rfl | ⟨x, rfl⟩
  · exact lv_astoreN C.1 C.2.1 d hh hn rfl k
  · exact lv_astore C.1 C.2.1 d hh hn rfl k
theorem xr_iinc {i a : Nat} {n : Int} (d : decode cc pc = .ok (.iinc i n, 3)) (h : Int32.ofInt n = nI a) : xIn cc own pc (pc + 3) i a := fun p l e R s m args below meth c H locs cells slots Q ls rest C nL k lv x hh hk hn kk => lv_iinc C.1 C.2.1 d hh hk (by rw [h]) hn rfl kk
theorem xr_getf {ci k ix N : Nat} {K : String} {T : u_T} (d : decode cc pc = .ok (.getfield ix, 3)) (hc : vwCl[ci]? = some (K, T, N)) (hk : k < N) (hin : ∀ w ∈ u_ws K T N, w ∈ xgt) (hl : Cond.fieldLink own ix (T k).1 (T k).2.1 (T k).2.2.1 ∈ xgt) : xGf cc own pc (pc + 3) ci k := fun p l e R s m args below meth c H locs cells slots Q ls rest C D tys ws q0 a fs v hK hP he hv kk => va_get C.1 C.2.1 C.2.2.2 hin C.2.2.1 hK hP q0 he hc k hk (C.2.2.2 _ hl) (fun _ h => h) hv d kk
/-- a field's cell behind a store: the world -/
theorem xw_obj {D : va_G} {tys : List (ClassId × FieldType)} {ws : va_W} {A : Nat → Prop} {s : State} {args : Array Value} {H H1 : Heap} {ci k N q0 a : Nat} {K : String} {T : u_T} {ty0 : Nat → FieldType} {own : String} (hts : ∀ w ∈ xgt, w.before args s = true) (hc : vwCl[ci]? = some (K, T, N)) (hk : k < N) (hin : ∀ w ∈ u_ws K T N, w ∈ xgt) (hty : ∀ k, k < N → parseFieldDescriptor (T k).2.2.1 = some (ty0 k)) (hnm : ∀ a, a < N → ∀ b, b < N → a ≠ b → (T a).2.1 ≠ (T b).2.1)
    (hK : va_K D vwCl tys s) (hP : va_P D vwCl ws H) (hD : va_D A ws) {fs : List Value} (he : ws[q0]? = some (a, .inr (ci, fs))) {v : Value} (hlen : k < fs.length) {cell : Cell} (c1 : cell.cls = D.1 ci) (c2 : cell.vm = .none) (c3 : ∀ j, j < N → cell.slots[D.2 ci j]? = some (vp_V fs j)) (h1 : H1[a]? = some (cell.setSlot (D.2 ci k) v)) (h2 : ∀ q, q ≠ a → H1[q]? = H[q]?) : va_P D vwCl (ws.set q0 (a, .inr (ci, fs.set k v))) H1 :=
  hP.set hD he ⟨_, hc, t_OB.to (V := updV (vp_V fs) k v) ⟨_, h1, c1, c2, t_set c3 (va_apart (own := own) hts hin ty0 hty hnm hK hc) hk v⟩ (fun j _ => vp_updV_set hlen v j)⟩ h2
theorem xr_putf {ci k ix N : Nat} {K : String} {T : u_T} {ty0 : Nat → FieldType} (d : decode cc pc = .ok (.putfield ix, 3)) (hc : vwCl[ci]? = some (K, T, N)) (hk : k < N) (hin : ∀ w ∈ u_ws K T N, w ∈ xgt) (hty : ∀ k, k < N → parseFieldDescriptor (T k).2.2.1 = some (ty0 k)) (hnm : ∀ a, a < N → ∀ b, b < N → a ≠ b → (T a).2.1 ≠ (T b).2.1) (hl : Cond.fieldLink own ix (T k).1 (T k).2.1 (T k).2.2.1 ∈ xgt) (hf : (T k).2.2.2 = false) {ty : FieldType} (et : ty0 k = ty) : xPf cc own pc (pc + 3) ci k ty false := by
  intro p l e R s m args below meth c H locs cells slots Q ls rest C D tys ws q0 a A H0 fs v hK hP hD hS he _ hn hft hlen kk
  obtain ⟨r, g1, cell, q1, q2, q3, q4⟩ := hP q0 _ he
  cases g1.symm.trans hc
  obtain ⟨hSl, hfc, kC, hkC, hkind⟩ := hK.1 ci _ hc
  obtain ⟨cf, kf, fi, f, hi, hsl⟩ := hSl k hk
  have hlay := C.2.2.2 _ (hin _ (u_in_lay hk))
  rw [u_lay, if_neg (by rw [hf]; decide)] at hlay
  refine W.putK C.1 C.2.1 (f := f) ⟨C.2.2.1, C.2.2.2 _ hl, ⟨_, _, _, hi⟩, (u_facts hfc hkC (u_lays C.2.2.2 hin hk) hi).1⟩ (by rw [q2]; exact u_store hfc hkC hkind hlay hi (by rw [← et]; exact hty k hk) hn hft) q1 q3 (by rw [hsl]; exact k2_hasslot (q4 k hk)) rfl rfl d fun H' e1 e2 e3 => ?_
  rw [hsl] at e1 ⊢
  exact kk H' _ (xw_obj (own := own) C.2.2.2 hc hk hin hty hnm hK hP hD he hlen q2 q3 q4 e1 e3) (hD.set he) (hS.put e2 e3 (hD.2 q0 _ he)) e2
theorem xr_putF {ci k ix N : Nat} {K : String} {T : u_T} {ty0 : Nat → FieldType} (d : decode cc pc = .ok (.putfield ix, 3)) (hc : vwCl[ci]? = some (K, T, N)) (hk : k < N) (hin : ∀ w ∈ u_ws K T N, w ∈ xgt) (hty : ∀ k, k < N → parseFieldDescriptor (T k).2.2.1 = some (ty0 k)) (hnm : ∀ a, a < N → ∀ b, b < N → a ≠ b → (T a).2.1 ≠ (T b).2.1) (hl : Cond.fieldLink own ix (T k).1 (T k).2.1 (T k).2.2.1 ∈ xgt) (hf : (T k).2.2.2 = true) {ty : FieldType} (et : ty0 k = ty) (ho : (T k).1 = own) : xPf cc own pc (pc + 3) ci k ty true := by
  intro p l e R s m args below meth c H locs cells slots Q ls rest C D tys ws q0 a A H0 fs v hK hP hD hS he hni hn hft hlen kk
  obtain ⟨r, g1, cell, q1, q2, q3, q4⟩ := hP q0 _ he
  cases g1.symm.trans hc
  obtain ⟨hSl, hfc, kC, hkC, hkind⟩ := hK.1 ci _ hc
  obtain ⟨cf, kf, fi, f, hi, hsl⟩ := hSl k hk
  have hlay := C.2.2.2 _ (hin _ (u_in_lay hk))
  rw [u_lay, if_pos hf] at hlay
  have hcf : m.cls = cf := by
    obtain ⟨_, _, c', _, _, _, -, -, hf', -, -, -, hown2, -⟩ := Cond.laysFinal_spec hlay
    have e1 : c' = cf := by have := hi.symm.trans hf'; simp at this; exact this.1.symm
    rw [ho] at hown2
    rw [← e1]
    exact Option.some.inj (C.2.2.1.symm.trans hown2)
  refine W.putFinK C.1 C.2.1 C.2.2.1 (C.2.2.2 _ hl) hi (u_facts hfc hkC (u_lays C.2.2.2 hin hk) hi).1 hcf (hni rfl) (by rw [q2]; exact u_fits hfc hkC hkind (Or.inr hlay) hi (by rw [← et]; exact hty k hk) hn hft) q1 q3 (by rw [hsl]; exact k2_hasslot (q4 k hk)) rfl rfl d fun H' e1 e2 e3 => ?_
  rw [hsl] at e1 ⊢
  exact kk H' _ (xw_obj (own := own) C.2.2.2 hc hk hin hty hnm hK hP hD he hlen q2 q3 q4 e1 e3) (hD.set he) (hS.put e2 e3 (hD.2 q0 _ he)) e2
/-- a table switch from 0 on: its targets in order -/
theorem xr_table {dflt hi : Int} {offs : Array Int} {len df : Nat} {cs : List (Nat × Nat)} (d : decode cc pc = .ok (.tableswitch dflt 0 hi offs, len)) (h1 : hi + 1 = cs.length ∧ offs.size = cs.length ∧ cs.length < 1000) (h2 : (pc : Int) + dflt = (df : Int)) (h3 : ∀ i, i < cs.length → ((cs.getD i (0, 0)).1 = i ∧ (pc : Int) + offs.getD i 0 = ((cs.getD i (0, 0)).2 : Int))) : xSw cc own pc df cs := by
  intro p l e R s m args below meth c H locs cells slots Q ls rest C x h
  have key : ∀ i, i < cs.length → cs[i]? = some (i, (cs.getD i (0, 0)).2) := fun i hi => by
    have e1 := (h3 i hi).1
    rw [List.getD_eq_getElem?_getD, List.getElem?_eq_getElem hi] at e1 ⊢
    simp only [Option.getD_some] at e1 ⊢
    exact congrArg some (Prod.ext e1 rfl)
  rcases h with ⟨q, hq, rfl, hW⟩ | ⟨hn, hW⟩
  · obtain ⟨i, hi⟩ := List.getElem?_of_mem hq
    have hl : i < cs.length := (List.getElem?_eq_some_iff.mp hi).1
    have hk := key i hl
    rw [hi] at hk
    cases hk
    have ht := (h3 i hl).2
    have e2 : (nI i).toInt = (i : Int) := nI_toInt (by omega)
    refine lv_tableIn C.1 C.2.1 d (off := offs.getD i 0) (by rw [e2]; omega) (by rw [e2]; omega) ?_ ht hW
    rw [e2, show ((i : Int) - 0).toNat = i by omega, Array.getD_eq_getD_getElem?, Array.getElem?_eq_getElem (by omega)]
    rfl
  · refine lv_tableOut C.1 C.2.1 d ?_ h2 hW
    by_cases a : x.toInt < 0
    · exact Or.inl a
    · refine Or.inr ?_
      by_cases b : hi < x.toInt
      · exact b
      · exfalso
        have hlt : x.toInt.toNat < cs.length := by omega
        refine hn _ (List.mem_of_getElem? (key _ hlt)) ?_
        apply Int32.toInt_inj.mp
        rw [nI_toInt (by omega)]
        omega
/-- a lookup switch of two cases -/
theorem xr_look2 {dflt k0 o0 k1 o1 : Int} {len df a0 t0 a1 t1 : Nat} (d : decode cc pc = .ok (.lookupswitch dflt #[(k0, o0), (k1, o1)], len)) (h0 : k0 < k1 ∧ k0 = a0 ∧ k1 = a1 ∧ a1 < 1000) (h1 : (pc : Int) + dflt = (df : Int)) (h2 : (pc : Int) + o0 = (t0 : Int)) (h3 : (pc : Int) + o1 = (t1 : Int)) : xSw cc own pc df [(a0, t0), (a1, t1)] := by
  intro p l e R s m args below meth c H locs cells slots Q ls rest C x h
  obtain ⟨g0, g1, g2, g3⟩ := h0
  have srt : ((#[(k0, o0), (k1, o1)] : Array (Int × Int)).toList.zip ((#[(k0, o0), (k1, o1)] : Array (Int × Int)).toList.drop 1)).all (fun (a, next) => a.1 < next.1) = true := by
    simp [g0]
  have t0' : (nI a0).toInt = (a0 : Int) := nI_toInt (by omega)
  have t1' : (nI a1).toInt = (a1 : Int) := nI_toInt (by omega)
  rcases h with ⟨q, hq, rfl, hW⟩ | ⟨hn, hW⟩
  · rcases List.mem_cons.mp hq with rfl | hq
    · refine lv_lookup C.1 C.2.1 d srt (off := o0) ?_ h2 hW
      simp [Op.lookupswitch.offset, t0', g1]
    · rcases List.mem_cons.mp hq with rfl | hq
      · refine lv_lookup C.1 C.2.1 d srt (off := o1) ?_ h3 hW
        simp [Op.lookupswitch.offset, t1', g2, show ¬ k0 = (a1 : Int) by omega]
      · cases hq
  · have n0 : ¬ x.toInt = k0 := fun z => hn (a0, t0) List.mem_cons_self (Int32.toInt_inj.mp (by rw [t0']; omega))
    have n1 : ¬ x.toInt = k1 := fun z => hn (a1, t1) (List.mem_cons_of_mem _ List.mem_cons_self) (Int32.toInt_inj.mp (by rw [t1']; omega))
    refine lv_lookup C.1 C.2.1 d srt (off := dflt) ?_ h1 hW
    simp [Op.lookupswitch.offset, Ne.symm n0, Ne.symm n1]
    first | done | exact ⟨n0, n1⟩ | omega
theorem xr_alen (d : decode cc pc = .ok (.arraylength, 1)) : xAl cc own pc (pc + 1) := fun p l e R s m args below meth c H locs cells slots Q ls rest C D tys ws q0 a t0 cA x ty hK hP he ht kk => va_alen C.1 C.2.1 hK hP q0 t0 he ht rfl d kk
theorem xr_iald (d : decode cc pc = .ok (.iaload, 1)) : xRd cc own pc (pc + 1) .int := fun p l e R s m args below meth c H locs cells slots Q ls rest C D tys ws q0 a t0 cA n f i hK hP he ht hi kk => va_iald C.1 C.2.1 hK hP q0 t0 he ht hi d kk
theorem xr_bald (d : decode cc pc = .ok (.baload, 1)) : xRd cc own pc (pc + 1) .byte := fun p l e R s m args below meth c H locs cells slots Q ls rest C D tys ws q0 a t0 cA n f i hK hP he ht hi kk => va_bald C.1 C.2.1 hK hP q0 t0 he ht hi d kk
theorem xr_zald (d : decode cc pc = .ok (.baload, 1)) : xRd cc own pc (pc + 1) .boolean := fun p l e R s m args below meth c H locs cells slots Q ls rest C D tys ws q0 a t0 cA n f i hK hP he ht hi kk => va_zald C.1 C.2.1 hK hP q0 t0 he ht hi d kk
theorem xw_arr {f : Nat → Int32} {i x y : Int32} {cA : ClassId} {n : Nat} (h : x = y) : (vp_cell cA (n, .inl f)).setSlot i.toNatClampNeg (.int x) = vp_cell cA (n, .inl (upd f i.toNatClampNeg y)) := by
  rw [vp_cell_i, vp_cell_i, arrV_store, h]
  congr 1
  funext q
  by_cases hq : q = i.toNatClampNeg
  · rw [hq]
    simp [updV, upd]
  · simp [updV, upd, hq]
theorem xr_iast (d : decode cc pc = .ok (.iastore, 1)) : xWr cc own pc (pc + 1) .int := by
  intro p l e R s m args below meth c H locs cells slots Q ls rest C D tys ws q0 a A H0 t0 cA n f i x hK hP hD hS he ht hi kk
  refine W.iast C.1 C.2.1 (hP q0 _ he) ((hK.2 t0 _ ht).1 n (fun j => .int (f j))) (fun q => by cases q) (by show ¬ (i < 0 ∨ (arrV _ _ _).slots.size ≤ _); rw [arrV_size]; exact hi) rfl rfl d fun H1 e1 z oq => ?_
  refine kk H1 _ (hP.set hD he ?_ oq) (hD.set he) (hS.put z oq (hD.2 q0 _ he)) z
  show H1[a]? = some (vp_cell _ _)
  rw [e1]
  exact congrArg some (xw_arr rfl)
theorem xr_bast (d : decode cc pc = .ok (.bastore, 1)) : xWr cc own pc (pc + 1) .byte := by
  intro p l e R s m args below meth c H locs cells slots Q ls rest C D tys ws q0 a A H0 t0 cA n f i x hK hP hD hS he ht hi kk
  refine W.bast C.1 C.2.1 (hP q0 _ he) ((hK.2 t0 _ ht).1 n (fun j => .int (f j))) (fun q => by cases q) (by show ¬ (i < 0 ∨ (arrV _ _ _).slots.size ≤ _); rw [arrV_size]; exact hi) rfl rfl d fun H1 e1 z oq => ?_
  refine kk H1 _ (hP.set hD he ?_ oq) (hD.set he) (hS.put z oq (hD.2 q0 _ he)) z
  show H1[a]? = some (vp_cell _ _)
  rw [e1]
  exact congrArg some (xw_arr rfl)
theorem xr_zast (d : decode cc pc = .ok (.bastore, 1)) : xWr cc own pc (pc + 1) .boolean := by
  intro p l e R s m args below meth c H locs cells slots Q ls rest C D tys ws q0 a A H0 t0 cA n f i x hK hP hD hS he ht hi kk
  refine W.zast C.1 C.2.1 (hP q0 _ he) ((hK.2 t0 _ ht).1 n (fun j => .int (f j))) (fun q => by cases q) (by show ¬ (i < 0 ∨ (arrV _ _ _).slots.size ≤ _); rw [arrV_size]; exact hi) rfl rfl d fun H1 e1 z oq => ?_
  refine kk H1 _ (hP.set hD he ?_ oq) (hD.set he) (hS.put z oq (hD.2 q0 _ he)) z
  show H1[a]? = some (vp_cell _ _)
  rw [e1]
  exact congrArg some (xw_arr rfl)
theorem xr_aald (d : decode cc pc = .ok (.aaload, 1)) : xRr cc own pc (pc + 1) := by
  intro p l e R s m args below meth c H locs cells slots Q ls rest C D tys ws q0 a t0 cA n f i hK hP he ht hi kk
  have hc : H[a]? = some (vp_cell cA (n, .inr (.inr (.inr (.inr f))))) := hP q0 _ he
  exact W.aald C.1 C.2.1 hc ((hK.2 t0 _ ht).1 n (fun j => va_rf (f j))) rfl (by rw [vp_cell_q]; exact fun h => by cases h) (by rw [vp_cell_q, arrV_size]; exact hi) (by
    rw [vp_cell_q]
    exact arrV_read _ _ (by
      have h2 : ¬ n ≤ i.toNatClampNeg := fun z => hi (Or.inr z)
      omega)) rfl rfl d kk
theorem xr_slen (d : decode cc pc = .ok (.arraylength, 1)) : xXl cc own pc (pc + 1) := fun p l e R s m args below meth c H locs cells slots Q ls rest C q L xs A hX hq hA hS k => va_slen C.1 C.2.1 hX hq hA hS d k
theorem xr_sld (d : decode cc pc = .ok (.iaload, 1)) : xXd cc own pc (pc + 1) := fun p l e R s m args below meth c H locs cells slots Q ls rest C q L xs A hX hq hA hS n hn h1 h2 k => va_sld C.1 C.2.1 hX hq hA hS (vp_in_nI hn h2) d (by rw [nI_clamp h1]; exact k)
theorem xr_ldcs0 (d : decode cc pc = .ok (.ldc 41, 2)) : xLs cc RX9 pc (pc + 2) 0 := fun p l e R s m args below meth c H locs cells slots Q ls rest C b sa hF k => va_ldcS C.1 C.2.1 C.2.2.1 hF.2.2.2.1 d k
theorem xr_ldcs1 (d : decode cc pc = .ok (.ldc 47, 2)) : xLs cc RX9 pc (pc + 2) 1 := fun p l e R s m args below meth c H locs cells slots Q ls rest C b sa hF k => va_ldcS C.1 C.2.1 C.2.2.1 hF.2.2.2.2.1 d k
theorem xr_compact {ix : Nat} (d : decode cc pc = .ok (.getstatic ix, 3)) (h : Cond.fieldLink own ix "java/lang/String" "COMPACT_STRINGS" "Z" ∈ xgt) : xGs cc own pc (pc + 3) (fun _ => .int (nI 1)) := fun p l e R s m args below meth c H locs cells slots Q ls rest C b sa A hF hS hA k => va_gets C.1 C.2.1 (hF.2.2.2.2.2.1.narrow hA) hS C.2.2.1 (C.2.2.2 _ h) (fun _ q => q) d k
theorem xr_sioobe {ix : Nat} (d : decode cc pc = .ok (.getstatic ix, 3)) (h : Cond.fieldLink own ix "jdk/internal/util/Preconditions" "SIOOBE_FORMATTER" "Ljava/util/function/BiFunction;" ∈ xgt) : xGs cc own pc (pc + 3) (fun sa => .ref (sa 99)) := fun p l e R s m args below meth c H locs cells slots Q ls rest C b sa A hF hS hA k => va_gets C.1 C.2.1 (hF.2.2.2.2.2.2.narrow hA) hS C.2.2.1 (C.2.2.2 _ h) (fun _ q => q) d k
theorem xr_strf_coder {ix : Nat} (d : decode cc pc = .ok (.getfield ix, 3)) (h : Cond.fieldLink own ix "java/lang/String" "coder" "B" ∈ xgt) : xSf cc own pc (pc + 3) (fun _ _ => .int (nI 0)) := fun p l e R s m args below meth c H locs cells slots Q ls rest C b sa A hF hS hA k hk kk => vk_getf C.1 C.2.1 ((hF.2.2.1 k hk).2.1.narrow hA) hS C.2.2.1 (C.2.2.2 _ h) (fun _ q => q) d kk
theorem xr_strf_value {ix : Nat} (d : decode cc pc = .ok (.getfield ix, 3)) (h : Cond.fieldLink own ix "java/lang/String" "value" "[B" ∈ xgt) : xSf cc own pc (pc + 3) (fun sa k => .ref (sa (k + 1000))) := fun p l e R s m args below meth c H locs cells slots Q ls rest C b sa A hF hS hA k hk kk => vk_getf C.1 C.2.1 ((hF.2.2.1 k hk).2.2.1.narrow hA) hS C.2.2.1 (C.2.2.2 _ h) (fun _ q => q) d kk
theorem xr_strl (d : decode cc pc = .ok (.arraylength, 1)) : xSl cc own pc (pc + 1) := fun p l e R s m args below meth c H locs cells slots Q ls rest C b sa A hF hS hA k hk kk => va_tlen C.1 C.2.1 ((hF.2.2.1 k hk).2.2.2.narrow hA) hS rfl d kk
theorem xr_strb (d : decode cc pc = .ok (.baload, 1)) : xSb cc own pc (pc + 1) := fun p l e R s m args below meth c H locs cells slots Q ls rest C b sa A hF hS hA k j hk hj hj2 kk => va_tb C.1 C.2.1 ((hF.2.2.1 k hk).2.2.2.narrow hA) hS (vp_in_nI hj (by have : xlen.getD k 0 < 100 := (by rcases (show k = 0 ∨ k = 1 by omega) with rfl | rfl <;> decide); omega)) (by rw [nI_clamp hj2]) d kk
theorem xr_i2c  (d : decode cc pc = .ok (.i2c, 1)) (x : Int32) : xT cc own pc (pc + 1) [.int x] [.int (x.toUInt32 % 65536).toInt32] := fun p l e R s m args below meth c H locs cells slots Q ls rest C k => lv_i2c C.1 C.2.1 d rfl k
theorem xr_min {ix : Nat} (d : decode cc pc = .ok (.invokestatic ix, 3)) (h1 : Cond.methodLink own ix Lib.Math.min.name ∈ xgt) (h2 : Cond.static Lib.Math.min.name ∈ xgt) (h3 : Cond.initialized "java/lang/Math" ∈ xgt) (h4 : Cond.code Lib.Math.min.name Lib.Math.min.code 2 (some .int) ∈ xgt) : xMi cc own pc (pc + 3) := fun p l e R s m args below meth c H locs cells slots Q ls rest C x y hml hf hlo hc hs kk => va_mmin C.1 C.2.1 hml C.2.2.1 (C.2.2.2 _ h1) (C.2.2.2 _ h2) (C.2.2.2 _ h3) (C.2.2.2 _ h4) hf hlo hc hs d kk
theorem xr_mna {ix : Nat} (d : decode cc pc = .ok (.multianewarray ix 2, 4)) (h1 : Cond.classLink own ix "[[I" ∈ xgt) (h2 : Cond.arrayClass .int ∈ xgt) : xMa cc own pc (pc + 4) := by
  intro p l e R s m args below meth c H locs cells slots Q ls rest C b sa D tys ws A H0 n k N' K' cA cI hF hP hS fA fI hn hk hN hM b1 b2 hce hsl kk
  subst hN
  subst hM
  intro T hT X
  obtain ⟨vm₁, cB, comp, -, fB, fC, -, -, X', step⟩ := X.multianewarray2F C.1 C.2.2.1 (show (Cond.classLink own ix ("[" ++ (FieldType.array FieldType.int).toString)).before args s = true from C.2.2.2 _ h1) (show (Cond.arrayOver (.array FieldType.int)).before args s = true from hF.2.1) (C.2.2.2 _ h2) (g := F0 m pc ls (.int k :: .int n :: rest)) rfl (by rw [C.2.1]; exact d) rfl hn hk (by omega) (by show _ * 4 ≤ _; omega) (by omega) rfl rfl hce hsl
  cases fA.symm.trans fB
  cases fI.symm.trans fC
  generalize hG : Jvm.Free.Multi.fill (T.setVm vm₁) cA cI n.toNatClampNeg k.toNatClampNeg (defaultValue .int) n.toNatClampNeg = G at X' step
  have hTh : (T.setVm vm₁).heap = H := hT
  obtain ⟨f1, f2, -, -⟩ := Jvm.Free.Multi.fill_facts (T.setVm vm₁) cA cI n.toNatClampNeg k.toNatClampNeg (defaultValue .int) n.toNatClampNeg
  rw [hG, hTh] at f1 f2
  have hold : ∀ x : Nat, x < H.size → G.heap[x]? = H[x]? := fun x hx => by
    have := Jvm.Free.Multi.fill_old (T.setVm vm₁) cA cI n.toNatClampNeg k.toNatClampNeg (defaultValue .int) (a := x) (by rw [hTh]; exact hx) n.toNatClampNeg
    rwa [hG, hTh] at this
  have hrow : ∀ j : Nat, j < n.toNatClampNeg → G.heap[H.size + 1 + j]? = some (vp_cell cI (k.toNatClampNeg, .inl (fun _ => 0))) := fun j hj => by
    have := Jvm.Free.Multi.fill_inner (T.setVm vm₁) cA cI n.toNatClampNeg k.toNatClampNeg (defaultValue .int) n.toNatClampNeg j hj
    rw [hG, hTh] at this
    rw [this, vp_cell_i]
    exact congrArg some (arrV_new cI k.toNatClampNeg (.int 0))
  have hout : G.heap[H.size]? = some (vp_cell cA (n.toNatClampNeg, .inr (.inr (.inr (.inr (fun i => if i < n.toNatClampNeg then some (H.size + 1 + i) else none)))))) := by
    rw [f2, vp_cell_q]
    exact congrArg some (xouter cA n.toNatClampNeg H.size n.toNatClampNeg)
  obtain ⟨t, a1, b1'⟩ := kk G.heap ((hP.kept (fun k9 x hx => hold x.1 ((hP k9 x hx).lt))).app (fun k9 x hx => by
      match k9, hx with
      | 0, hx =>
        cases hx
        exact hout
      | k9 + 1, hx =>
        rw [List.getElem?_cons_succ] at hx
        obtain ⟨i, hi, rfl⟩ := List.mem_map.mp (List.mem_of_getElem? hx)
        exact hrow i (List.mem_range.mp hi))) ⟨by rw [f1]; have := hS.1; omega, fun x h1 h2 => (hold x (Nat.lt_of_lt_of_le h1 hS.1)).trans (hS.2.1 x h1 h2), hS.2.2⟩ (by rw [f1]) G rfl X'
  refine ⟨t, step t ?_, b1'⟩
  rw [show T.heap.size = H.size by rw [hT]]
  exact a1
theorem xr_new {ci ix N : Nat} {K : String} {T : u_T} {ty0 : Nat → FieldType} (d : decode cc pc = .ok (.new ix, 3)) (hc : vwCl[ci]? = some (K, T, N)) (hin : ∀ w ∈ u_ws K T N, w ∈ xgt) (hty : ∀ k, k < N → parseFieldDescriptor (T k).2.2.1 = some (ty0 k)) (h1 : Cond.classLink own ix K ∈ xgt) (h2 : Cond.instantiable K N ∈ xgt) (h3 : Cond.initialized K ∈ xgt) (fs : List Value) (hfs : ∀ j, j < N → defaultValue (ty0 j) = vp_V fs j) : xNw cc own pc (pc + 3) ci N fs := by
  intro p l e R s m args below meth c H locs cells slots Q ls rest C D tys ws A H0 hK hP hS hce hsl kk
  have hKn := hK.1 ci _ hc
  refine W.newcK C.1 C.2.1 C.2.2.1 (C.2.2.2 _ h1) (C.2.2.2 _ h2) (C.2.2.2 _ h3) rfl d hce hsl hKn.2.1 rfl fun H1 kC hkC e1 z1 o1 => ?_
  have hk : ∀ (k : Nat) (x : Nat × va_E), ws[k]? = some x → H1[x.1]? = H[x.1]? := fun k x hx => o1 x.1 ((hP k x hx).lt)
  refine kk H1 ((hP.kept hk).app (fun k x hx => ?_)) ⟨Nat.le_trans hS.1 (by omega), fun x h1 h2 => (o1 x (Nat.lt_of_lt_of_le h1 hS.1)).trans (hS.2.1 x h1 h2), hS.2.2⟩ z1
  have hz : k < 1 := (List.getElem?_eq_some_iff.mp hx).1
  rw [show k = 0 by omega] at hx
  cases hx
  exact ⟨_, hc, (u_born ty0 C.2.2.2 hin hKn hkC e1 hty).to hfs⟩
theorem xr_newa {atype : ArrayType} {ty : FieldType} (d : decode cc pc = .ok (.newarray atype, 2)) (hty : newarray.typeOf atype = ty) (h1 : Cond.arrayClass ty ∈ xgt) : xNa cc own pc (pc + 2) ty := by
  intro p l e R s m args below meth c H locs cells slots Q ls rest C D tys ws A H0 n N' a0 cA hK hP hS hcA ha hn hN hby hce hsl kk
  subst hty
  refine va_newaK C.1 C.2.1 (C.2.2.2 _ h1) rfl d rfl hn hN hby hce hsl rfl fun H1 cB e1 z1 o1 hAr hNm => ?_
  cases hcA.symm.trans hNm
  have hk : ∀ (k : Nat) (x : Nat × va_E), ws[k]? = some x → H1[x.1]? = H[x.1]? := fun k x hx => o1 x.1 ((hP k x hx).lt)
  refine kk H1 ((hP.kept hk).app (fun k x hx => ?_)) ⟨Nat.le_trans hS.1 (by omega), fun x h1 h2 => (o1 x (Nat.lt_of_lt_of_le h1 hS.1)).trans (hS.2.1 x h1 h2), hS.2.2⟩ z1
  have hz : k < 1 := (List.getElem?_eq_some_iff.mp hx).1
  rw [show k = 0 by omega] at hx
  cases hx
  show H1[H.size]? = some (vp_cell _ _)
  rw [ha]
  exact e1
theorem xr_oinit {ix : Nat} (d : decode cc pc = .ok (.invokespecial ix, 3)) (h1 : Cond.methodLink own ix Lib.objectInit ∈ xgt) (h2 : Cond.instanceMethod Lib.objectInit ∈ xgt) (h3 : Cond.code Lib.objectInit ⟨#[0xb1]⟩ 1 none ∈ xgt) : xOi cc own pc (pc + 3) := by
  intro p l e R s m args below meth c H locs cells slots Q ls rest C a hml hfr hlo kk
  exact W.objInit C.1 C.2.1 C.2.2.1 (C.2.2.2 _ h1) (C.2.2.2 _ h2) (C.2.2.2 _ h3) rfl hml.symm rfl d hfr (by show 2 * 0 + _ + 12 ≤ _; omega) kk
theorem xr_copy {ix : Nat} (d : decode cc pc = .ok (.invokestatic ix, 3)) (h1 : Cond.methodLink own ix arraycopyName ∈ xgt) (h2 : Cond.native arraycopyName ∈ xgt) (h3 : Cond.static arraycopyName ∈ xgt) (h4 : Cond.initialized "java/lang/System" ∈ xgt) : xCp cc own pc (pc + 3) := by
  intro p l e R s m args below meth c H locs cells slots Q ls rest C D tys ws A H0 q0 q1 a0 a t0 cA n0 n1 f g sp dp n hml hK hP hD hS e0 e1 ht b1 b2 b3 b4 b5 hfr hlo kk
  have nn : ∀ z : Int32, ¬ z < 0 → z.toInt = (z.toNatClampNeg : Int) := by
    intro z hz
    have hz0 : (0 : Int) ≤ z.toInt := by simpa using Int32.le_iff_toInt_le.mp (Int32.not_lt.mp hz)
    show z.toInt = ((z.toInt.toNat : Nat) : Int)
    omega
  intro T hT X
  have c0 : H[a0]? = some (vp_cell cA (n0, .inl f)) := hP q0 _ e0
  have c1 : H[a]? = some (vp_cell cA (n1, .inl g)) := hP q1 _ e1
  have hl : a < H.size := (Array.getElem?_eq_some_iff.mp c1).1
  obtain ⟨-, k0, hk0, cm0, hkk0⟩ := (hK.2 t0 _ ht).1 n0 (fun j => .int (f j))
  obtain ⟨-, k1, hk1, cm1, hkk1⟩ := (hK.2 t0 _ ht).1 n1 (fun j => .int (g j))
  obtain ⟨vm', X', step⟩ := X.arraycopy C.1 C.2.2.1 (C.2.2.2 _ h1) (C.2.2.2 _ h2) (C.2.2.2 _ h3) (C.2.2.2 _ h4) (src := a0) (dst := a) (cs := vp_cell cA (n0, .inl f)) (cd := vp_cell cA (n1, .inl g)) (srcPos := sp) (destPos := dp) (n := n) (by rw [hT]; exact c0) (by rw [hT]; exact c1)
    (fun _ h => by cases h) (fun _ h => by cases h) (fun h => by cases h) (fun h => by cases h) hk0 hk1 hkk0 hkk1 (by simp [refKind]) b1 b2 b3
    (by rw [nn sp b1, nn n b3]; show ¬ _ > ((arrV cA n0 (fun j => .int (f j))).slots.size : Int); rw [arrV_size]; omega)
    (by rw [nn dp b2, nn n b3]; show ¬ _ > ((arrV cA n1 (fun j => .int (g j))).slots.size : Int); rw [arrV_size]; omega)
    (fun vm₁ _ i hi => by
      have e2 : (vp_cell cA (n0, .inl f)).slots.getD (sp.toNatClampNeg + i) .null = .int (f (sp.toNatClampNeg + i)) := by
        show (arrV cA n0 (fun j => .int (f j))).slots.getD _ _ = _
        rw [Array.getD_eq_getD_getElem?, arrV_read _ _ (by omega)]
        rfl
      rw [e2]
      exact ⟨rfl, trivial⟩)
    (g := F0 m pc ls (.int n :: .int dp :: .ref a :: .int sp :: .ref a0 :: rest)) rfl (by rw [hml]) (rest := rest) rfl (by rw [C.2.1]; exact d) hfr (by show 2 * 0 + _ + _ ≤ _; omega)
  have ecp : copied (vp_cell cA (n0, .inl f)) (vp_cell cA (n1, .inl g)) sp dp n = vp_cell cA (n1, .inl (va_cpy f g sp.toNatClampNeg dp.toNatClampNeg n.toNatClampNeg)) := va_copied (fun z => .int z) cA cA f g b4
  rw [ecp] at X' step
  have oq : ∀ q : Nat, q ≠ a → (H.setIfInBounds a (vp_cell cA (n1, .inl (va_cpy f g sp.toNatClampNeg dp.toNatClampNeg n.toNatClampNeg))))[q]? = H[q]? := fun q hq => by simp [Array.getElem?_setIfInBounds, Ne.symm hq]
  obtain ⟨t, s1, s2⟩ := kk (H.setIfInBounds a (vp_cell cA (n1, .inl (va_cpy f g sp.toNatClampNeg dp.toNatClampNeg n.toNatClampNeg)))) _ (hP.set hD e1 (show (H.setIfInBounds a _)[a]? = some _ by simp [Array.getElem?_setIfInBounds, hl]) oq) ⟨by simp; exact hS.1, fun q g1 g2 => by
      rw [oq q (fun z => g2 (by rw [z]; exact hD.2 q1 _ e1))]
      exact hS.2.1 q g1 g2, fun q hq => by
      rcases List.mem_append.mp hq with h | h
      · exact hS.2.2 q h
      · obtain ⟨z, -, hz⟩ := List.mem_map.mp h
        rw [← hz]
        exact hD.2 q1 _ e1⟩ (by simp) _ (by rw [← hT]; rfl) X'
  exact ⟨t, step t s1, s2⟩
end XR
end
section
/-! THE RUN of a method over abstract things -/
abbrev xMy (M : xM) : MethodName := M.1
abbrev xMc (M : xM) : ByteArray := M.2.1
abbrev xMl (M : xM) : Nat := M.2.2.1
abbrev xMr (M : xM) : Option FieldType := M.2.2.2.1
abbrev xMn (M : xM) : Nat := M.2.2.2.2.1
abbrev xMo (M : xM) : String := M.2.2.2.2.2.1
abbrev xMm (M : xM) : Room := M.2.2.2.2.2.2.1
abbrev xMk (M : xM) : List (Nat × xOp) := M.2.2.2.2.2.2.2
def xfind : List (Nat × xOp) → Nat → Option xOp
  | [], _ => none
  | q :: r, pc => if Nat.beq q.1 pc then some q.2 else xfind r pc
theorem xfind_mem : ∀ {l : List (Nat × xOp)} {pc : Nat} {o : xOp}, xfind l pc = some o → (pc, o) ∈ l
  | q :: r, pc, o, h => by
    simp only [xfind] at h
    split at h
    · next he =>
      cases h
      rw [Nat.beq_eq] at he
      subst he
      exact List.mem_cons_self
    · exact List.mem_cons_of_mem _ (xfind_mem h)
def xlk : xL → Nat → Option xV
  | [], _ => none
  | q :: r, i => if Nat.beq q.1 i then some q.2 else xlk r i
theorem xlk_mem : ∀ {l : xL} {i : Nat} {v : xV}, xlk l i = some v → (i, v) ∈ l
  | q :: r, i, o, h => by
    simp only [xlk] at h
    split at h
    · next he =>
      cases h
      rw [Nat.beq_eq] at he
      subst he
      exact List.mem_cons_self
    · exact List.mem_cons_of_mem _ (xlk_mem h)
def xkdb (k : Nat) (v : xV) : Bool := match k with
  | 0 => Nat.beq v.1 0 || Nat.beq v.1 3
  | 1 => Nat.beq v.1 1 || (Nat.beq v.1 2 || (Nat.beq v.1 5 || Nat.beq v.1 6))
  | _ => Nat.beq v.1 4
def xcat (v : xV) : Nat := match v with
  | (0, _) => 1
  | (1, _) => 1
  | (2, _) => 1
  | (3, _) => 1
  | (5, _) => 1
  | (6, _) => 1
  | _ => 2
theorem xcat_ok {b : Nat} {ρ : Nat → Int32} {sa : Nat → Nat} (v : xV) : (xdv b ρ sa v).category = xcat v := by
  match v with
  | (0, _) | (1, _) | (2, _) | (3, _) | (4, _) | (5, _) | (6, _) => rfl
  | (n + 7, _) => rfl
theorem xk0 {v : xV} (h : xkdb 0 v = true) {b : Nat} {ρ : Nat → Int32} {sa : Nat → Nat} : xdv b ρ sa v = .int (xdi ρ v) := by
  match v, h with
  | (0, _), _ => rfl
  | (3, _), _ => rfl
  | (1, _), h | (2, _), h => cases h
  | (n + 4, _), h => cases h
theorem xk1 {v : xV} (h : xkdb 1 v = true) {b : Nat} {ρ : Nat → Int32} {sa : Nat → Nat} : xkd 1 (xdv b ρ sa v) := by
  match v, h with
  | (1, _), _ => exact Or.inr ⟨_, rfl⟩
  | (2, _), _ => exact Or.inl rfl
  | (5, _), _ => exact Or.inr ⟨_, rfl⟩
  | (6, _), _ => exact Or.inr ⟨_, rfl⟩
  | (0, _), h | (3, _), h | (4, _), h => cases h
  | (n + 7, _), h => cases h
theorem xk2 {v : xV} (h : xkdb 2 v = true) {b : Nat} {ρ : Nat → Int32} {sa : Nat → Nat} : xdv b ρ sa v = .long (lN v.2) := by
  match v, h with
  | (4, _), _ => rfl
  | (0, _), h | (1, _), h | (2, _), h | (3, _), h => cases h
  | (n + 5, _), h => cases h
theorem xkk {k : Nat} (hk : k < 3) {v : xV} (h : xkdb k v = true) {b : Nat} {ρ : Nat → Int32} {sa : Nat → Nat} : xkd k (xdv b ρ sa v) := by
  match k, hk, h with
  | 0, _, h => exact ⟨_, xk0 h⟩
  | 1, _, h => exact xk1 h
  | 2, _, h => exact ⟨_, xk2 h⟩
def xflb (k i : Nat) (q : Nat × xV) : Bool := match k with
  | 2 => !(Nat.beq q.1 i) && (!(Nat.beq q.1 (i + 1)) && !(Nat.beq (q.1 + 1) i && Nat.beq (xcat q.2) 2))
  | _ => !(Nat.beq q.1 i) && !(Nat.beq (q.1 + 1) i && Nat.beq (xcat q.2) 2)
theorem xbeq (a b : Nat) : (a == b) = Nat.beq a b := by
  rw [Bool.eq_iff_iff]
  simp
def xdL (b : Nat) (ρ : Nat → Int32) (sa : Nat → Nat) (lv : xL) : List (Nat × Value) := lv.map (fun q => (q.1, xdv b ρ sa q.2))
theorem xflb_ok {b : Nat} {ρ : Nat → Int32} {sa : Nat → Nat} (k i : Nat) (lv : xL) : (xdL b ρ sa lv).filter (xfl k i) = xdL b ρ sa (lv.filter (xflb k i)) := by
  unfold xdL
  rw [List.filter_map]
  congr 1
  apply List.filter_congr
  intro q _
  show xfl k i (q.1, xdv b ρ sa q.2) = xflb k i q
  match k with
  | 0 | 1 => simp only [xfl, xflb, xbeq, xcat_ok]
  | 2 => simp only [xfl, xflb, xbeq, xcat_ok]
  | n + 3 => simp only [xfl, xflb, xbeq, xcat_ok]
def xeqd (d t : Nat × xV × xV) : Bool := Nat.beq d.1 t.1 && (Nat.beq d.2.1.1 t.2.1.1 && (Nat.beq d.2.1.2 t.2.1.2 && (Nat.beq d.2.2.1 t.2.2.1 && Nat.beq d.2.2.2 t.2.2.2)))
def xidx : xD → Nat × xV × xV → Nat → Option Nat
  | [], _, _ => none
  | d :: r, t, k => if xeqd d t then some k else xidx r t (k + 1)
def xfd (ρ : Nat → Int32) (o : Nat) (x y : xV) : Int32 := if o = 11 then (xdi ρ x).toInt8.toInt32 else fbin o (xdi ρ x) (xdi ρ y)
def xdok (ρ : Nat → Int32) (ds : xD) : Prop := ∀ (k o : Nat) (x y : xV), ds[k]? = some (o, x, y) → o < 90 → ρ k = xfd ρ o x y
theorem xidx_ok : ∀ {ds : xD} {t : Nat × xV × xV} {j k : Nat}, xidx ds t j = some k → ∃ i, k = j + i ∧ ds[i]? = some t
  | d :: r, t, j, k, h => by
    simp only [xidx] at h
    split at h
    · next he =>
      cases h
      simp only [xeqd, Bool.and_eq_true, Nat.beq_eq] at he
      refine ⟨0, rfl, ?_⟩
      obtain ⟨a, ⟨b1, b2⟩, c1, c2⟩ := d
      obtain ⟨a', ⟨b1', b2'⟩, c1', c2'⟩ := t
      simp only at he
      obtain ⟨rfl, rfl, rfl, rfl, rfl⟩ := he
      rfl
    · obtain ⟨i, h1, h2⟩ := xidx_ok h
      exact ⟨i + 1, by omega, by simpa using h2⟩
def xall {α : Type} : List α → (α → Option (List xR)) → Option (List xR)
  | [], _ => some []
  | a :: r, f => xadd (f a) (xall r f)
theorem xall_ok {α : Type} {f : α → Option (List xR)} : ∀ {l : List α} {L : List xR}, xall l f = some L → ∀ a ∈ l, ∃ x, f a = some x ∧ ∀ q ∈ x, q ∈ L
  | a0 :: r, L, h, a, ha => by
    simp only [xall] at h
    cases h1 : f a0 with
    | none => rw [h1] at h; cases h
    | some x1 =>
      cases h2 : xall r f with
      | none => rw [h1, h2] at h; cases h
      | some x2 =>
        rw [h1, h2] at h
        cases h
        rcases List.mem_cons.mp ha with rfl | ha
        · exact ⟨x1, h1, fun q hq => List.mem_append_left _ hq⟩
        · obtain ⟨x, hx, hq⟩ := xall_ok h2 a ha
          exact ⟨x, hx, fun q h => List.mem_append_right _ (hq q h)⟩
abbrev xRec : Type := Nat → xL → List xV → xH → Nat → Nat → xK → Option (List xR)
abbrev xCal : Type := xM → List xV → xH → xK → Option (List xR)
/-- a switch, case by case -/
def xsw (x : xV) (kd : xK → Option (List xR)) (kc : Nat → xK → Option (List xR)) : List (Nat × Nat) → xK → Option (List xR)
  | [], κ => kd κ
  | q :: r, κ => xfork κ 0 x (0, q.1) (kc q.2) (xsw x kd kc r)
theorem xsw_ok {ρ : Nat → Int32} {x : xV} {kd : xK → Option (List xR)} {kc : Nat → xK → Option (List xR)} : ∀ {cs : List (Nat × Nat)} {κ : xK} {Ls : List xR}, xKok ρ κ → xsw x kd kc cs κ = some Ls →
    (∃ q ∈ cs, xdi ρ x = nI q.1 ∧ ∃ κ' L, kc q.2 κ' = some L ∧ xKok ρ κ' ∧ ∀ z ∈ L, z ∈ Ls) ∨ ((∀ q ∈ cs, ¬ xdi ρ x = nI q.1) ∧ ∃ κ' L, kd κ' = some L ∧ xKok ρ κ' ∧ ∀ z ∈ L, z ∈ Ls)
  | [], κ, Ls, hκ, h => Or.inr ⟨fun q hq => (by cases hq), κ, Ls, h, hκ, fun _ z => z⟩
  | q :: r, κ, Ls, hκ, h => by
    simp only [xsw] at h
    obtain ⟨h1, h2⟩ := xfork_ok hκ h
    by_cases hc : xdi ρ x = nI q.1
    · exact Or.inl ⟨q, List.mem_cons_self, hc, h1 hc⟩
    · obtain ⟨κ', L, h3, h4, h5⟩ := h2 hc
      rcases xsw_ok h4 h3 with ⟨q', hq, e, κ2, L2, g1, g2, g3⟩ | ⟨hn, κ2, L2, g1, g2, g3⟩
      · exact Or.inl ⟨q', List.mem_cons_of_mem _ hq, e, κ2, L2, g1, g2, fun z hz => h5 z (g3 z hz)⟩
      · refine Or.inr ⟨fun q' hq => ?_, κ2, L2, g1, g2, fun z hz => h5 z (g3 z hz)⟩
        rcases List.mem_cons.mp hq with rfl | hq
        · exact hc
        · exact hn q' hq
/-- may a field of this type hold it: 0 int, 2 long, 3 boolean, 4 a reference -/
def xfit (t : Nat) (v : xV) : Bool := match t with
  | 0 => xkdb 0 v
  | 2 => xkdb 2 v
  | 3 => Nat.beq v.1 0 && Nat.ble v.2 1
  | 4 => xkdb 1 v
  | _ => false
def xtc (ty : FieldType) : Nat := match ty with
  | .int => 0
  | .long => 2
  | .boolean => 3
  | .object _ => 4
  | .array _ => 4
  | _ => 9
theorem xfit_ok {ty : FieldType} {v : xV} (h : xfit (xtc ty) v = true) {b : Nat} {ρ : Nat → Int32} {sa : Nat → Nat} : narrow ty (xdv b ρ sa v) = xdv b ρ sa v ∧ fits ty (xdv b ρ sa v) = true := by
  cases ty with
  | int => rw [xk0 h]; exact ⟨rfl, rfl⟩
  | long => rw [xk2 h]; exact ⟨rfl, rfl⟩
  | boolean =>
    simp only [xtc, xfit, Bool.and_eq_true, Nat.beq_eq, Nat.ble_eq] at h
    obtain ⟨t, n⟩ := v
    obtain ⟨rfl, h2⟩ := h
    dsimp only at h2
    rcases (show n = 0 ∨ n = 1 by omega) with rfl | rfl
    · show narrow .boolean (.int (nI 0)) = .int (nI 0) ∧ fits .boolean (.int (nI 0)) = true
      decide +kernel
    · show narrow .boolean (.int (nI 1)) = .int (nI 1) ∧ fits .boolean (.int (nI 1)) = true
      decide +kernel
  | object C =>
    rcases xk1 h (b := b) (ρ := ρ) (sa := sa) with e | ⟨a, e⟩ <;> rw [e] <;> exact ⟨rfl, rfl⟩
  | array t =>
    rcases xk1 h (b := b) (ρ := ρ) (sa := sa) with e | ⟨a, e⟩ <;> rw [e] <;> exact ⟨rfl, rfl⟩
  | _ => cases h
/-- may an array of this type take it -/
def xwok (ds : xD) (t : Nat) (v : xV) : Bool := match t with
  | 0 => xkdb 0 v
  | 1 => match v with
    | (3, k) => match ds[k]? with
      | some d => Nat.beq d.1 11
      | none => false
    | _ => false
  | 3 => Nat.beq v.1 0 && Nat.ble v.2 1
  | _ => false
theorem xnarb {n : Nat} (h : n ≤ 1) : vp_nar .boolean (nI n) = nI n := by
  rcases (show n = 0 ∨ n = 1 by omega) with rfl | rfl <;> decide +kernel
theorem xwok_ok {ρ : Nat → Int32} {ds : xD} (hds : xdok ρ ds) {t : Nat} {v : xV} (h : xwok ds t v = true) : (t = 0 ∨ t = 1 ∨ t = 3) ∧ xkdb 0 v = true ∧ vp_nar (xty t) (xdi ρ v) = xdi ρ v := by
  match t, h with
  | 0, h => exact ⟨Or.inl rfl, h, rfl⟩
  | 1, h =>
    match v, h with
    | (3, k), h =>
      simp only [xwok] at h
      cases hk : ds[k]? with
      | none => rw [hk] at h; cases h
      | some q =>
        obtain ⟨o, x, y⟩ := q
        rw [hk] at h
        have ho : o = 11 := Nat.eq_of_beq_eq_true h
        subst ho
        have hd := hds _ _ _ _ hk (by omega)
        rw [xfd, if_pos rfl] at hd
        refine ⟨Or.inr (Or.inl rfl), rfl, ?_⟩
        show vp_nar .byte (ρ k) = ρ k
        rw [hd]
        exact pk_vb _
    | (0, _), h | (1, _), h | (2, _), h => cases h
    | (n + 4, _), h => cases h
  | 3, h =>
    simp only [xwok, Bool.and_eq_true, Nat.beq_eq, Nat.ble_eq] at h
    obtain ⟨v1, v2⟩ := v
    obtain ⟨hv1, hv2⟩ := h
    dsimp only at hv1 hv2
    subst hv1
    exact ⟨Or.inr (Or.inr rfl), rfl, xnarb hv2⟩
  | 2, h => cases h
  | n + 4, h => cases h
def xlb (o x y : Nat) : Option Nat := match o with
  | 3 => some (Nat.land x y)
  | 5 => some (Nat.xor x y)
  | _ => none
def flb (o : Nat) (x y : Int64) : Int64 := match o with
  | 3 => x &&& y
  | 5 => x ^^^ y
  | _ => 0
theorem xlb_ok {o x y z : Nat} (h : xlb o x y = some z) : flb o (lN x) (lN y) = lN z := by
  match o, h with
  | 3, h =>
    cases h
    apply Int64.toBitVec_inj.mp
    show BitVec.ofNat 64 x &&& BitVec.ofNat 64 y = BitVec.ofNat 64 (x &&& y)
    apply BitVec.eq_of_toNat_eq
    simp [Nat.and_mod_two_pow]
  | 5, h =>
    cases h
    apply Int64.toBitVec_inj.mp
    show BitVec.ofNat 64 x ^^^ BitVec.ofNat 64 y = BitVec.ofNat 64 (x ^^^ y)
    apply BitVec.eq_of_toNat_eq
    simp [Nat.xor_mod_two_pow]
def xsum : List xV → Nat
  | [] => 0
  | v :: r => xcat v + xsum r
theorem xsum_ok {b : Nat} {ρ : Nat → Int32} {sa : Nat → Nat} : ∀ st : List xV, ((st.map (xdv b ρ sa)).map fun v => v.category).sum = xsum st
  | [] => rfl
  | v :: r => by
    simp only [List.map_cons, List.sum_cons, xsum, xcat_ok]
    rw [xsum_ok r]
def xargs : Nat → List xV → xL
  | _, [] => []
  | i, v :: r => (i, v) :: xargs (i + xcat v) r
theorem xargs_ok {b : Nat} {ρ : Nat → Int32} {sa : Nat → Nat} : ∀ (vs : List xV) (i : Nat), lv_args i (vs.map (xdv b ρ sa)) = xdL b ρ sa (xargs i vs)
  | [], _ => rfl
  | v :: r, i => by
    simp only [List.map_cons, lv_args, xargs, xdL]
    rw [xcat_ok]
    congr 1
    have e : (if xcat v = 2 then i + 2 else i + 1) = i + xcat v := by
      match v with
      | (0, _) | (1, _) | (2, _) | (3, _) | (4, _) | (5, _) | (6, _) => rfl
      | (n + 7, _) => rfl
    rw [e]
    exact xargs_ok r (i + xcat v)
theorem xlen_ok {b : Nat} {ρ : Nat → Int32} {sa : Nat → Nat} : ∀ vs : List xV, (lg_sl (vs.map (xdv b ρ sa))).length = xsum vs
  | [] => rfl
  | v :: r => by
    have ih := xlen_ok (b := b) (ρ := ρ) (sa := sa) r
    simp only [lg_sl, List.map_cons, List.flatMap_cons, List.length_append, xsum] at ih ⊢
    rw [ih, xcat_ok]
    match v with
    | (0, _) | (1, _) | (2, _) | (3, _) | (4, _) | (5, _) | (6, _) => rfl
    | (n + 7, _) => rfl
/-- a room that holds what a callee asks -/
def xroom (R : Room) (M' : xM) (ce sl : Nat) : Bool := Nat.ble ((xMm M').frames + 1) R.frames && (Nat.ble (8 + (xMl M' + 11) + (xMm M').locals) R.locals && (Nat.ble (ce + (xMm M').cells) R.cells && Nat.ble (sl + (xMm M').slots) R.slots))
def xput (st : List xV) (r : Option xV) : List xV := match r with
  | some v => v :: st
  | none => st
def xh_call (mt : List xM) (M : xM) (rec : xRec) (call : xCal) (n0 nx mi : Nat) (lv : xL) (st : List xV) (K : xH) (ce sl : Nat) (κ : xK) : Option (List xR) := match mt[mi]? with
  | none => none
  | some M' =>
    if Nat.ble (xMn M' + n0) st.length && (xroom (xMm M) M' ce sl && (Nat.ble (xsum (st.drop (xMn M' + n0))) 8 && Nat.ble (xsum (st.take (xMn M' + n0))) (xMl M'))) then
      match call M' (st.take (xMn M' + n0)).reverse K κ with
      | none => none
      | some L => xall L (fun lf => rec nx lv (xput (st.drop (xMn M' + n0)) lf.2.1) lf.2.2 (ce + (xMm M').cells) (sl + (xMm M').slots) lf.1)
    else none
/-- the script's length, where it is told -/
def xSc (ds : xD) : Option Nat := match ds with
  | (98, (0, L), _) :: _ => some L
  | _ => none
def xob (K : xH) (i ci : Nat) : Option (List xV) := match K[i]? with
  | some (.inr (c, fs)) => if Nat.beq c ci then some fs else none
  | _ => none
def xfr (fs : List xV) (k : Nat) : Option Nat := match fs[k]? with
  | some (1, h) => some h
  | _ => none
/-- the object at i has no voices -/
def xlkb (K : xH) (i : Nat) : Bool := match xob K i 11 with
  | some fs => match xfr fs 1 with
    | some h => match xob K h 4 with
      | some gs => match xfr gs 1 with
        | some v => match xob K v 6 with
          | some rs => match rs[1]? with
            | some (0, 0) => true
            | _ => false
          | none => false
        | none => false
      | none => false
    | none => false
  | none => false
def xstep (mt : List xM) (ds : xD) (al : Bool) (M : xM) (rec : xRec) (call : xCal) (op : xOp) (lv : xL) (st : List xV) (K : xH) (ce sl : Nat) (κ : xK) : Option (List xR) := match op.1 with
  | 0 => rec op.2.1 lv ((0, op.2.2.1) :: st) K ce sl κ
  | 1 => rec op.2.1 lv ((4, op.2.2.1) :: st) K ce sl κ
  | 2 => match xlk lv op.2.2.2.1 with
    | none => none
    | some v => if xkdb op.2.2.1 v then rec op.2.1 lv (xnm κ.2 v :: st) K ce sl κ else none
  | 3 => match st with
    | [] => none
    | v :: st' => if xkdb op.2.2.1 v && Nat.blt (op.2.2.2.1 + xwd op.2.2.1) (xMl M) then rec op.2.1 ((op.2.2.2.1, v) :: lv.filter (xflb op.2.2.1 op.2.2.2.1)) st' K ce sl κ else none
  | 4 => match xlk lv op.2.2.1 with
    | some (0, x) => if Nat.blt op.2.2.1 (xMl M) then rec op.2.1 ((op.2.2.1, (0, (x + op.2.2.2.1) % 4294967296)) :: lv.filter (xflb 0 op.2.2.1)) st K ce sl κ else none
    | _ => none
  | 5 => match st with
    | y :: x :: st' => match xnm κ.2 y, xnm κ.2 x with
      | (0, y'), (0, x') => match xbin op.2.2.1 x' y' with
        | none => none
        | some z => rec op.2.1 lv ((0, z) :: st') K ce sl κ
      | y', x' => if xkdb 0 y' && (xkdb 0 x' && Nat.blt op.2.2.1 9) then
          match xidx ds (op.2.2.1, x', y') 0 with
          | none => none
          | some k => rec op.2.1 lv ((3, k) :: st') K ce sl κ
        else none
    | _ => none
  | 6 => match st with
    | x :: st' => if xkdb 0 x then
        match xidx ds (11, x, (0, 0)) 0 with
        | none => none
        | some k => rec op.2.1 lv ((3, k) :: st') K ce sl κ
      else none
    | _ => none
  | 7 => match st with
    | (4, y) :: (4, x) :: st' => match xlb op.2.2.1 x y with
      | none => none
      | some z => rec op.2.1 lv ((4, z) :: st') K ce sl κ
    | _ => none
  | 8 => match st with
    | (4, y) :: (4, x) :: st' => if Nat.blt x 9223372036854775808 && Nat.blt y 9223372036854775808 then
        rec op.2.1 lv ((0, if Nat.blt y x then 1 else if Nat.beq x y then 0 else 4294967295) :: st') K ce sl κ
      else none
    | _ => none
  | 9 => match st with
    | v :: st' => if Nat.beq (xcat v) 1 then rec op.2.1 lv (v :: v :: st') K ce sl κ else none
    | _ => none
  | 10 => match st with
    | v :: st' => if Nat.beq (xcat v) 1 then rec op.2.1 lv st' K ce sl κ else none
    | _ => none
  | 11 => match st with
    | v :: w :: st' => if Nat.beq (xcat v) 1 && Nat.beq (xcat w) 1 then rec op.2.1 lv (v :: w :: v :: w :: st') K ce sl κ else none
    | _ => none
  | 12 => match st with
    | x :: st' => if xkdb 0 x then xfork κ op.2.2.2.1 x (0, 0) (fun κ' => rec op.2.2.1 lv st' K ce sl κ') (fun κ' => rec op.2.1 lv st' K ce sl κ') else none
    | _ => none
  | 13 => match st with
    | y :: x :: st' => if xkdb 0 x && xkdb 0 y then xfork κ op.2.2.2.1 x y (fun κ' => rec op.2.2.1 lv st' K ce sl κ') (fun κ' => rec op.2.1 lv st' K ce sl κ') else none
    | _ => none
  | 14 => rec op.2.1 lv st K ce sl κ
  | 15 => match st with
    | x :: st' => if xkdb 0 x then xsw x (fun κ' => rec op.2.2.1 lv st' K ce sl κ') (fun t κ' => rec t lv st' K ce sl κ') op.2.2.2.2 κ else none
    | _ => none
  | 16 => match st with
    | (1, i) :: st' => match K[i]? with
      | some (.inr (ci, fs)) => if Nat.beq ci op.2.2.1 then
          match fs[op.2.2.2.1]? with
          | none => none
          | some v => rec op.2.1 lv (v :: st') K ce sl κ
        else none
      | _ => none
    | _ => none
  | 17 => match st with
    | v :: (1, i) :: st' => match K[i]? with
      | some (.inr (ci, fs)) => match op.2.2.2.2 with
        | [q] => if Nat.beq ci op.2.2.1 && (xfit q.1 v && Nat.blt op.2.2.2.1 fs.length) then rec op.2.1 lv st' (K.set i (.inr (ci, fs.set op.2.2.2.1 v))) ce sl κ else none
        | _ => none
      | _ => none
    | _ => none
  | 18 => match st with
    | (1, i) :: st' => match K[i]? with
      | some (.inl (t, vs)) => if Nat.blt t 5 then rec op.2.1 lv ((0, vs.length) :: st') K ce sl κ else none
      | _ => none
    | (6, k) :: st' => if Nat.blt k 2 then rec op.2.1 lv ((0, xlen.getD k 0) :: st') K ce sl κ else none
    | _ => none
  | 19 => match st with
    | j :: (1, i) :: st' => match K[i]?, xnm κ.2 j with
      | some (.inl (t, vs)), (0, n) => if Nat.beq t op.2.2.1 && Nat.blt n 2147483648 then
          match vs[n]? with
          | none => none
          | some v => if xkdb 0 v then rec op.2.1 lv (v :: st') K ce sl κ else none
        else none
      | _, _ => none
    | _ => none
  | 20 => match st with
    | j :: (1, i) :: st' => match K[i]?, xnm κ.2 j with
      | some (.inl (4, vs)), (0, n) => if Nat.blt n 2147483648 then
          match vs[n]? with
          | some (1, q) => rec op.2.1 lv ((1, q) :: st') K ce sl κ
          | _ => none
        else none
      | _, _ => none
    | _ => none
  | 21 => match st with
    | v :: j :: (1, i) :: st' => match K[i]?, xnm κ.2 j with
      | some (.inl (t, vs)), (0, n) =>
        if Nat.beq t op.2.2.1 && (Nat.blt n 2147483648 && (Nat.blt n vs.length && xwok ds t v)) then rec op.2.1 lv st' (K.set i (.inl (t, vs.set n v))) ce sl κ else none
      | _, _ => none
    | _ => none
  | 22 => if al && (Nat.blt ce (xMm M).cells && (Nat.ble (sl + op.2.2.2.1) (xMm M).slots && op.2.2.2.2.all (fun q => Nat.beq q.1 0 || (Nat.beq q.1 2 || Nat.beq q.1 4)))) then rec op.2.1 lv ((1, K.length) :: st) (K ++ [.inr (op.2.2.1, op.2.2.2.2)]) (ce + 1) (sl + op.2.2.2.1) κ else none
  | 23 => match st with
    | (0, n) :: st' => if al && (Nat.blt ce (xMm M).cells && (Nat.ble (sl + n) (xMm M).slots && Nat.blt n 67108864)) then rec op.2.1 lv ((1, K.length) :: st') (K ++ [.inl (op.2.2.1, List.replicate n (xzero op.2.2.1))]) (ce + 1) (sl + n) κ else none
    | _ => none
  | 24 => match st with
    | (0, k) :: (0, n) :: st' => if al && (Nat.ble (ce + (1 + n)) (xMm M).cells && (Nat.ble (sl + (n + n * k)) (xMm M).slots && (Nat.ble n 1000 && Nat.ble k 1000))) then
        rec op.2.1 lv ((1, K.length) :: st') (K ++ (.inl (4, (List.range n).map (fun i => (1, K.length + 1 + i))) :: List.replicate n (.inl (0, List.replicate k (0, 0))))) (ce + 1 + n) (sl + n + n * k) κ
      else none
    | _ => none
  | 25 => match st with
    | (1, _) :: st' => if Nat.ble 1 (xMm M).frames && Nat.ble (xsum st' + 12) (xMm M).locals then rec op.2.1 lv st' K ce sl κ else none
    | _ => none
  | 26 => match st with
    | (0, n) :: (0, dp) :: (1, d) :: (0, sp) :: (1, s) :: st' => match K[s]?, K[d]? with
      | some (.inl (0, vs)), some (.inl (0, ws)) => if Nat.ble (sp + n) vs.length && (Nat.ble (dp + n) ws.length && (Nat.blt (sp + n) 2147483648 && (Nat.blt (dp + n) 2147483648 && (Nat.ble 1 (xMm M).frames && Nat.ble (xsum st' + (nativeFrameWords "java/lang/System" "arraycopy" 5 + 11)) (xMm M).locals)))) then
          rec op.2.1 lv st' (K.set d (.inl (0, ws.take dp ++ ((vs.drop sp).take n ++ ws.drop (dp + n))))) ce sl κ
        else none
      | _, _ => none
    | _ => none
  | 27 => xh_call mt M rec call 0 op.2.1 op.2.2.1 lv st K ce sl κ
  | 28 => match mt[op.2.2.1]? with
    | none => none
    | some M' => match st.drop (xMn M') with
      | (1, i) :: _ => match K[i]? with
        | some (.inr (ci, _)) => if Nat.beq ci op.2.2.2.1 then xh_call mt M rec call 1 op.2.1 op.2.2.1 lv st K ce sl κ else none
        | _ => none
      | _ => none
  | 29 => match mt[op.2.2.1]? with
    | none => none
    | some M' => match st.drop (xMn M') with
      | (1, _) :: _ => xh_call mt M rec call 1 op.2.1 op.2.2.1 lv st K ce sl κ
      | _ => none
  | 30 => match st with
    | [v] => if xfit op.2.2.2.1 v && (Nat.ble ce (xMm M).cells && Nat.ble sl (xMm M).slots) then some [(κ, some (xnm κ.2 v), K)] else none
    | _ => none
  | 31 => match st with
    | [v] => if xkdb 2 v && (Nat.ble ce (xMm M).cells && Nat.ble sl (xMm M).slots) then some [(κ, some v, K)] else none
    | _ => none
  | 32 => match st with
    | [] => if Nat.ble ce (xMm M).cells && Nat.ble sl (xMm M).slots then some [(κ, none, K)] else none
    | _ => none
  | 33 => rec op.2.1 lv ((5, op.2.2.1) :: st) K ce sl κ
  | 34 => rec op.2.1 lv ((0, 1) :: st) K ce sl κ
  | 35 => match st with
    | (5, k) :: st' => if Nat.blt k 2 then rec op.2.1 lv ((if Nat.beq op.2.2.1 0 then (6, k) else (0, 0)) :: st') K ce sl κ else none
    | _ => none
  | 36 => match st with
    | y :: x :: st' => match xnm κ.2 y, xnm κ.2 x with
      | (0, y'), (0, x') => if Nat.blt y' 4294967296 && (Nat.blt x' 4294967296 && (Nat.ble 1 (xMm M).frames && (Nat.ble (xsum st' + 13) (xMm M).locals && (Nat.ble ce (xMm M).cells && Nat.ble sl (xMm M).slots)))) then
          rec op.2.1 lv ((0, if xcb 2 y' x' then y' else x') :: st') K ce sl κ
        else none
      | _, _ => none
    | _ => none
  | 37 => match st with
    | j :: (6, k) :: st' => match xnm κ.2 j with
      | (0, n) => if Nat.blt k 2 && (Nat.blt n (xlen.getD k 0) && Nat.blt n 2147483648) then rec op.2.1 lv ((0, (xbyt.getD k []).getD n 0) :: st') K ce sl κ else none
      | _ => none
    | _ => none
  | 38 => match st with
    | (0, n) :: st' => if Nat.blt n 65536 then rec op.2.1 lv ((0, n) :: st') K ce sl κ else none
    | _ => none
  | 39 => match mt[op.2.2.1]? with
    | none => none
    | some M' => match st.drop (xMn M') with
      | (5, k) :: _ => if Nat.blt k 2 then xh_call mt M rec call 1 op.2.1 op.2.2.1 lv st K ce sl κ else none
      | _ => none
  | 40 => match st with
    | [(0, n)] => if Nat.blt n (if Nat.beq op.2.2.2.1 5 then 65536 else 128) && (Nat.ble ce (xMm M).cells && Nat.ble sl (xMm M).slots) then some [(κ, some (0, n), K)] else none
    | _ => none
  | 41 => rec op.2.1 lv ((5, 99) :: st) K ce sl κ
  | 42 => match st with
    | (5, 50) :: st' => match xSc ds with
      | some L => rec op.2.1 lv ((0, L) :: st') K ce sl κ
      | none => none
    | _ => none
  | 43 => match st with
    | j :: (5, 50) :: st' => match xSc ds, xnm κ.2 j with
      | some L, (0, n) => if Nat.blt n L && Nat.blt L 2147483648 then rec op.2.1 lv (xnm κ.2 (3, n + 1) :: st') K ce sl κ else none
      | _, _ => none
    | _ => none
  | 50 => match st with
    | (1, o) :: y :: x :: (1, i) :: st' => if xkdb 0 x && (xkdb 0 y && (xlkb K i && (Nat.ble (xsum st') 8 && (Nat.ble (ce + 1) (xMm M).cells && (Nat.ble (sl + 20) (xMm M).slots && (Nat.ble 40 (xMm M).frames && Nat.ble 800 (xMm M).locals)))))) && !al then rec op.2.1 lv ((0, 1) :: st') K (ce + 1) (sl + 20) κ else none
    | _ => none
  | _ => none
def xgo (mt : List xM) (ds : xD) (al : Bool) (ih : xM → xRec) (M : xM) : xRec := fun pc lv st K ce sl κ => match xfind (xMk M) pc with
  | none => none
  | some op => xstep mt ds al M (ih M) (fun M' avs K' κ' => ih M' 0 (xargs 0 avs) [] K' 0 0 κ') op lv st K ce sl κ
noncomputable def xe (mt : List xM) (ds : xD) (al : Bool) (n : Nat) : xM → xRec := Nat.rec (fun _ _ _ _ _ _ _ _ => none) (fun _ ih M => xgo mt ds al ih M) n
theorem xe_succ (mt : List xM) (ds : xD) (al : Bool) (n : Nat) (M : xM) : xe mt ds al (n + 1) M = xgo mt ds al (xe mt ds al n) M := rfl
end
section
/-! SOUNDNESS: what the run says, the machine does -/
def xtys (dA : Nat → ClassId) : List (ClassId × FieldType) := [(dA 0, .int), (dA 1, .byte), (dA 2, .long), (dA 3, .boolean), (dA 4, .array .int)]
theorem xtys_get {dA : Nat → ClassId} : ∀ {t : Nat}, t < 5 → (xtys dA)[t]? = some (dA t, xty t)
  | 0, _ | 1, _ | 2, _ | 3, _ | 4, _ => rfl
  | n + 5, h => absurd h (by omega)
def xcS (M : xM) (pc : Nat) (M' : xM) : Prop := ∃ ix, decode (xMc M) pc = .ok (.invokestatic ix, 3) ∧ Cond.methodLink (xMo M) ix (xMy M') ∈ xgt ∧ Cond.static (xMy M') ∈ xgt
def xcV (M : xM) (pc : Nat) (M' : xM) : Prop := ∃ ix, decode (xMc M) pc = .ok (.invokevirtual ix, 3) ∧ Cond.methodLink (xMo M) ix (xMy M') ∈ xgt ∧ Cond.instanceMethod (xMy M') ∈ xgt ∧ Cond.selects (xMy M').cls (xMy M') (xMy M') ∈ xgt
def xcI (M : xM) (pc : Nat) (M' : xM) : Prop := ∃ ix, decode (xMc M) pc = .ok (.invokespecial ix, 3) ∧ (xMy M').name = "<init>" ∧ xMr M' = none ∧ Cond.instanceMethod (xMy M') ∈ xgt ∧ (Cond.methodLink (xMo M) ix (xMy M') ∈ xgt ∨ ∃ host, Cond.methodLinkNest (xMo M) ix (xMy M') host ∈ xnw)
/-- the law's look(x, p0, p1, out) at a world whose object has no voices: it answers 1; a thing comes (what was thrown) -/
def xLk (cc : ByteArray) (own : String) (pc nx : Nat) : Prop := ∀ (p : Program) (l : Launch) (e : Env) (R : Room) (s : State) (m : MethodId) (args : Array Value) (below : List Frame) (meth : Method) (c : Code) (H : Heap) (locs : List Loc) (cells slots : Nat) (Q : State → Prop) (ls : Array Slot) (rest : List Value), xCx p s m args c cc own → ∀ (b : Nat) (ρ : Nat → Int32) (sa : Nat → Nat) (dA : Nat → ClassId) (D : va_G) (K : xH) (A : Nat → Prop) (i o : Nat) (x y : Int32), va_K D vwCl (xtys dA) s → xFx b sa s → c.maxLocals = ls.size → va_P D vwCl (xcx b ρ sa dA 0 K) H → va_S A s.heap H locs → (∀ q, A q → b ≤ q) → (∀ q, s.heap.size ≤ q → A q) → (∀ j, j < K.length → A (b + j)) → xlkb K i = true → (rest.map fun v => v.category).sum ≤ 8 → cells + 1 ≤ R.cells → slots + 20 ≤ R.slots → 40 ≤ R.frames → 800 ≤ R.locals →
  (∀ (H1 : Heap) (locs1 : List Loc), va_P D vwCl (xcx b ρ sa dA 0 K) H1 → va_S A s.heap H1 locs1 → W p l e R s m args below meth c H1 locs1 (cells + 1) (slots + 20) Q (F0 m nx ls (.int (nI 1) :: rest))) → W p l e R s m args below meth c H locs cells slots Q (F0 m pc ls (.ref (b + o) :: .int y :: .int x :: .ref (b + i) :: rest))
def xok (mt : List xM) (M : xM) (pc : Nat) (op : xOp) : Prop := match op.1 with
  | 0 => xT (xMc M) (xMo M) pc op.2.1 [] [.int (nI op.2.2.1)]
  | 1 => xT (xMc M) (xMo M) pc op.2.1 [] [.long (lN op.2.2.1)]
  | 2 => op.2.2.1 < 3 ∧ xLd (xMc M) (xMo M) pc op.2.1 op.2.2.1 op.2.2.2.1
  | 3 => op.2.2.1 < 3 ∧ xSt (xMc M) (xMo M) pc op.2.1 op.2.2.1 op.2.2.2.1
  | 4 => xIn (xMc M) (xMo M) pc op.2.1 op.2.2.1 op.2.2.2.1
  | 5 => ∀ x y : Int32, ((op.2.2.1 = 9 ∨ op.2.2.1 = 10) → ¬ y = 0) → xT (xMc M) (xMo M) pc op.2.1 [.int y, .int x] [.int (fbin op.2.2.1 x y)]
  | 6 => ∀ x : Int32, xT (xMc M) (xMo M) pc op.2.1 [.int x] [.int x.toInt8.toInt32]
  | 7 => ∀ x y : Int64, xT (xMc M) (xMo M) pc op.2.1 [.long y, .long x] [.long (flb op.2.2.1 x y)]
  | 8 => ∀ x y : Int64, xT (xMc M) (xMo M) pc op.2.1 [.long y, .long x] [.int (lg_cmp x y)]
  | 9 => ∀ v : Value, v.category = 1 → xT (xMc M) (xMo M) pc op.2.1 [v] [v, v]
  | 10 => ∀ v : Value, v.category = 1 → xT (xMc M) (xMo M) pc op.2.1 [v] []
  | 11 => ∀ v w : Value, v.category = 1 → w.category = 1 → xT (xMc M) (xMo M) pc op.2.1 [v, w] [v, w, v, w]
  | 12 => xB0 (xMc M) (xMo M) pc op.2.1 op.2.2.1 op.2.2.2.1
  | 13 => xB (xMc M) (xMo M) pc op.2.1 op.2.2.1 op.2.2.2.1
  | 14 => xT (xMc M) (xMo M) pc op.2.1 [] []
  | 15 => xSw (xMc M) (xMo M) pc op.2.2.1 op.2.2.2.2
  | 16 => xGf (xMc M) (xMo M) pc op.2.1 op.2.2.1 op.2.2.2.1
  | 17 => ∃ (ty : FieldType) (fin : Bool) (z : Nat), op.2.2.2.2 = [(xtc ty, z)] ∧ xPf (xMc M) (xMo M) pc op.2.1 op.2.2.1 op.2.2.2.1 ty fin ∧ (fin = true → (xMy M).name = "<init>")
  | 18 => xAl (xMc M) (xMo M) pc op.2.1 ∧ xSl (xMc M) (xMo M) pc op.2.1
  | 19 => (op.2.2.1 = 0 ∨ op.2.2.1 = 1 ∨ op.2.2.1 = 3) ∧ xRd (xMc M) (xMo M) pc op.2.1 (xty op.2.2.1)
  | 20 => xRr (xMc M) (xMo M) pc op.2.1
  | 21 => xWr (xMc M) (xMo M) pc op.2.1 (xty op.2.2.1)
  | 22 => xNw (xMc M) (xMo M) pc op.2.1 op.2.2.1 op.2.2.2.1 (op.2.2.2.2.map (xdv 0 (fun _ => 0) (fun _ => 0)))
  | 23 => op.2.2.1 < 4 ∧ xNa (xMc M) (xMo M) pc op.2.1 (xty op.2.2.1)
  | 25 => xOi (xMc M) (xMo M) pc op.2.1
  | 26 => xCp (xMc M) (xMo M) pc op.2.1
  | 27 => op.2.1 = pc + 3 ∧ ∃ M', mt[op.2.2.1]? = some M' ∧ xcS M pc M'
  | 28 => op.2.1 = pc + 3 ∧ ∃ M', mt[op.2.2.1]? = some M' ∧ xcV M pc M' ∧ ∃ q, vwCl[op.2.2.2.1]? = some q ∧ q.1 = (xMy M').cls
  | 29 => op.2.1 = pc + 3 ∧ ∃ M', mt[op.2.2.1]? = some M' ∧ xcI M pc M'
  | 30 => decode (xMc M) pc = .ok (.ireturn, 1) ∧ ∃ ty, xMr M = some ty ∧ xtc ty = op.2.2.2.1 ∧ (ty = .int ∨ ty = .boolean)
  | 31 => decode (xMc M) pc = .ok (.lreturn, 1) ∧ xMr M = some .long
  | 32 => decode (xMc M) pc = .ok (.return_, 1) ∧ xMr M = none
  | 24 => xMa (xMc M) (xMo M) pc op.2.1
  | 33 => xLs (xMc M) (xMo M) pc op.2.1 op.2.2.1
  | 34 => xGs (xMc M) (xMo M) pc op.2.1 (fun _ => .int (nI 1))
  | 35 => xSf (xMc M) (xMo M) pc op.2.1 (fun sa k => if op.2.2.1 = 0 then .ref (sa (k + 1000)) else .int (nI 0))
  | 36 => xMi (xMc M) (xMo M) pc op.2.1
  | 37 => xSb (xMc M) (xMo M) pc op.2.1
  | 38 => ∀ x : Int32, xT (xMc M) (xMo M) pc op.2.1 [.int x] [.int (x.toUInt32 % 65536).toInt32]
  | 39 => op.2.1 = pc + 3 ∧ ∃ M', mt[op.2.2.1]? = some M' ∧ xcV M pc M' ∧ (xMy M').cls = "java/lang/String"
  | 40 => decode (xMc M) pc = .ok (.ireturn, 1) ∧ ∃ ty, xMr M = some ty ∧ ((op.2.2.2.1 = 5 ∧ ty = .char) ∨ (op.2.2.2.1 = 1 ∧ ty = .byte))
  | 41 => xGs (xMc M) (xMo M) pc op.2.1 (fun sa => .ref (sa 99))
  | 42 => xXl (xMc M) (xMo M) pc op.2.1
  | 43 => xXd (xMc M) (xMo M) pc op.2.1
  | 50 => xLk (xMc M) (xMo M) pc op.2.1
  | _ => True
/-- a method's own facts -/
def xMok (mt : List xM) (M : xM) : Prop := Cond.code (xMy M) (xMc M) (xMl M) (xMr M) ∈ xgt ∧ Cond.initialized (xMy M).cls ∈ xgt ∧ ((xMy M).cls ≠ "java/lang/invoke/MethodHandle" ∧ (xMy M).cls ≠ "java/lang/invoke/VarHandle" ∧ (parseMethodDescriptor (xMy M).desc).map (fun d => d.parameters.length) = some (xMn M)) ∧ plainName (xMy M).cls = true ∧ xMo M = (xMy M).cls ∧ ∀ q ∈ xMk M, xok mt M q.1 q.2
def xA (b n sz : Nat) : Nat → Prop := fun q => (b ≤ q ∧ q < b + n) ∨ sz ≤ q
section XS
variable {al : Bool} {b : Nat} {ρ : Nat → Int32} {sa : Nat → Nat} {dA : Nat → ClassId} {D : va_G} {M : xM} {p : Program} {l : Launch} {e : Env} {s : State} {m : MethodId} {args : Array Value} {below : List Frame} {meth : Method} {c : Code} {A : Nat → Prop} {Qc : Array Value → State → Outcome → State → Prop} {EX : State → Prop}
variable {mt : List xM} {ds : xD}
def xEnd (al : Bool) (b : Nat) (ρ : Nat → Int32) (sa : Nat → Nat) (dA : Nat → ClassId) (D : va_G) (s : State) (args : Array Value) (A : Nat → Prop) (Qc : Array Value → State → Outcome → State → Prop) (Ls : List xR) : Prop :=
  ∀ lf ∈ Ls, xKok ρ lf.1 → ∀ t : State, va_P D vwCl (xcx b ρ sa dA 0 lf.2.2) t.heap → (al = true → t.heap.size = b + lf.2.2.length) → (∀ i, i < lf.2.2.length → A (b + i)) → va_F A s t → Qc args s (.returned (lf.2.1.map (xdv b ρ sa))) t
def xGood (al : Bool) (b : Nat) (ρ : Nat → Int32) (sa : Nat → Nat) (dA : Nat → ClassId) (D : va_G) (M : xM) (p : Program) (l : Launch) (e : Env) (s : State) (m : MethodId) (args : Array Value) (below : List Frame) (meth : Method) (c : Code) (A : Nat → Prop) (Qc : Array Value → State → Outcome → State → Prop) (pc : Nat) (lv : xL) (st : List xV) (K : xH) (ce sl : Nat) (κ : xK) (Ls : List xR) : Prop :=
  ∀ (H : Heap) (locs : List Loc) (ls : Array Slot), lv_has ls (xMl M) (xdL b ρ sa lv) → va_P D vwCl (xcx b ρ sa dA 0 K) H → va_S A s.heap H locs → (al = true → H.size = b + K.length) → (∀ i, i < K.length → A (b + i)) → xKok ρ κ → xEnd al b ρ sa dA D s args A Qc Ls →
    W p l e (xMm M) s m args below meth c H locs ce sl (MQ below Qc args s (xMm M).cells (xMm M).slots A) (F0 m pc ls (st.map (xdv b ρ sa)))
/-- what holds all through a method's frame -/
def xCtx (b : Nat) (dA : Nat → ClassId) (D : va_G) (M : xM) (p : Program) (s : State) (m : MethodId) (args : Array Value) (meth : Method) (c : Code) (A : Nat → Prop) (EX : State → Prop) : Prop :=
  xCx p s m args c (xMc M) (xMo M) ∧ c.maxLocals = xMl M ∧ va_K D vwCl (xtys dA) s ∧ (∀ q, s.heap.size ≤ q → A q) ∧ (∀ q, A q → b ≤ q) ∧ meth.sig.returnType = xMr M ∧ meth.locks = false ∧ meth.name = (xMy M).name ∧ EX s ∧ b ≤ s.heap.size
abbrev xSnd (al : Bool) (b : Nat) (ρ : Nat → Int32) (sa : Nat → Nat) (dA : Nat → ClassId) (D : va_G) (M : xM) (p : Program) (l : Launch) (e : Env) (s : State) (m : MethodId) (args : Array Value) (below : List Frame) (meth : Method) (c : Code) (A : Nat → Prop) (Qc : Array Value → State → Outcome → State → Prop) (rec : xRec) : Prop :=
  ∀ pc lv st K ce sl κ Ls, rec pc lv st K ce sl κ = some Ls → xGood al b ρ sa dA D M p l e s m args below meth c A Qc pc lv st K ce sl κ Ls
theorem xEnd.sub {Ls L : List xR} (h : xEnd al b ρ sa dA D s args A Qc Ls) (hs : ∀ q ∈ L, q ∈ Ls) : xEnd al b ρ sa dA D s args A Qc L := fun lf hl => h lf (hs lf hl)
/-- the pure steps -/
theorem xp_T {rec : xRec} (hC : xCtx b dA D M p s m args meth c A EX) (hr : xSnd al b ρ sa dA D M p l e s m args below meth c A Qc rec) {pc nx : Nat} {lv : xL} {st st0 st1 : List xV} {K : xH} {ce sl : Nat} {κ : xK} {Ls : List xR}
    (hT : xT (xMc M) (xMo M) pc nx (st0.map (xdv b ρ sa)) (st1.map (xdv b ρ sa))) (h : rec nx lv (st1 ++ st) K ce sl κ = some Ls) : xGood al b ρ sa dA D M p l e s m args below meth c A Qc pc lv (st0 ++ st) K ce sl κ Ls := by
  intro H locs ls hl hP hS hz hA0 hκ hQ
  have := hr _ _ _ _ _ _ _ _ h H locs ls hl hP hS hz hA0 hκ hQ
  rw [List.map_append] at this ⊢
  exact hT p l e _ s m args below meth c H locs ce sl _ ls _ hC.1 this
end XS
end
section
section XC
variable {al : Bool} {b : Nat} {ρ : Nat → Int32} {sa : Nat → Nat} {dA : Nat → ClassId} {D : va_G} {M : xM} {p : Program} {l : Launch} {e : Env} {s : State} {m : MethodId} {args : Array Value} {below : List Frame} {meth : Method} {c : Code} {A : Nat → Prop} {Qc : Array Value → State → Outcome → State → Prop} {EX : State → Prop}
variable {mt : List xM} {ds : xD} {rec : xRec} {pc nx : Nat} {lv : xL} {st : List xV} {K : xH} {ce sl : Nat} {κ : xK} {Ls : List xR}
theorem xp_load (hC : xCtx b dA D M p s m args meth c A EX) (hr : xSnd al b ρ sa dA D M p l e s m args below meth c A Qc rec) {k i : Nat} {v : xV} (hk3 : k < 3) (hT : xLd (xMc M) (xMo M) pc nx k i) (hv : xlk lv i = some v) (hk : xkdb k v = true) (h : rec nx lv (xnm κ.2 v :: st) K ce sl κ = some Ls) : xGood al b ρ sa dA D M p l e s m args below meth c A Qc pc lv st K ce sl κ Ls := by
  intro H locs ls hl hP hS hz hA0 hκ hQ
  have := hr _ _ _ _ _ _ _ _ h H locs ls hl hP hS hz hA0 hκ hQ
  rw [List.map_cons, (xnm_ok hκ v).1] at this
  exact hT p l e _ s m args below meth c H locs ce sl _ ls _ hC.1 _ (xkk hk3 hk) (hl.2.2 _ (List.mem_map.mpr ⟨(i, v), xlk_mem hv, rfl⟩)) this
theorem xp_store (hC : xCtx b dA D M p s m args meth c A EX) (hr : xSnd al b ρ sa dA D M p l e s m args below meth c A Qc rec) {k i : Nat} {v : xV} (hk3 : k < 3) (hT : xSt (xMc M) (xMo M) pc nx k i) (hk : xkdb k v = true) (hi : i + xwd k < xMl M) (h : rec nx ((i, v) :: lv.filter (xflb k i)) st K ce sl κ = some Ls) : xGood al b ρ sa dA D M p l e s m args below meth c A Qc pc lv (v :: st) K ce sl κ Ls := by
  intro H locs ls hl hP hS hz hA0 hκ hQ
  rw [List.map_cons]
  refine hT p l e _ s m args below meth c H locs ce sl _ ls _ hC.1 _ _ _ (xkk hk3 hk) hl hi (fun ls' hl' => ?_)
  rw [xflb_ok] at hl'
  exact hr _ _ _ _ _ _ _ _ h H locs ls' hl' hP hS hz hA0 hκ hQ
theorem xp_iinc (hC : xCtx b dA D M p s m args meth c A EX) (hr : xSnd al b ρ sa dA D M p l e s m args below meth c A Qc rec) {i n x : Nat} (hT : xIn (xMc M) (xMo M) pc nx i n) (hv : xlk lv i = some (0, x)) (hi : i < xMl M) (h : rec nx ((i, (0, (x + n) % 4294967296)) :: lv.filter (xflb 0 i)) st K ce sl κ = some Ls) : xGood al b ρ sa dA D M p l e s m args below meth c A Qc pc lv st K ce sl κ Ls := by
  intro H locs ls hl hP hS hz hA0 hκ hQ
  have hm : (i, xdv b ρ sa (0, x)) ∈ xdL b ρ sa lv := List.mem_map.mpr ⟨(i, (0, x)), xlk_mem hv, rfl⟩
  obtain ⟨k, hk⟩ := List.getElem?_of_mem hm
  refine hT p l e _ s m args below meth c H locs ce sl _ ls _ hC.1 _ k _ (nI x) hl hk hi (fun ls' hl' => ?_)
  rw [xflb_ok, nI_add, ← nI_m] at hl'
  exact hr _ _ _ _ _ _ _ _ h H locs ls' hl' hP hS hz hA0 hκ hQ
theorem xp_bin (hC : xCtx b dA D M p s m args meth c A EX) (hr : xSnd al b ρ sa dA D M p l e s m args below meth c A Qc rec) {o : Nat} {x y w : xV} (hT : ∀ x y : Int32, ((o = 9 ∨ o = 10) → ¬ y = 0) → xT (xMc M) (xMo M) pc nx [.int y, .int x] [.int (fbin o x y)]) (hκ0 : xKok ρ κ → xdv b ρ sa x = .int (xdi ρ x) ∧ xdv b ρ sa y = .int (xdi ρ y) ∧ xdv b ρ sa w = .int (fbin o (xdi ρ x) (xdi ρ y)) ∧ ((o = 9 ∨ o = 10) → ¬ xdi ρ y = 0)) (h : rec nx lv (w :: st) K ce sl κ = some Ls) : xGood al b ρ sa dA D M p l e s m args below meth c A Qc pc lv (y :: x :: st) K ce sl κ Ls := by
  intro H locs ls hl hP hS hz hA0 hκ hQ
  have := hr _ _ _ _ _ _ _ _ h H locs ls hl hP hS hz hA0 hκ hQ
  obtain ⟨e1, e2, e3, e4⟩ := hκ0 hκ
  rw [List.map_cons, e3] at this
  rw [List.map_cons, List.map_cons, e1, e2]
  exact hT _ _ e4 p l e _ s m args below meth c H locs ce sl _ ls _ hC.1 this
theorem xp_fork (hC : xCtx b dA D M p s m args meth c A EX) (hr : xSnd al b ρ sa dA D M p l e s m args below meth c A Qc rec) {k tgt : Nat} {x y : xV} (hT : xB (xMc M) (xMo M) pc nx tgt k) (hx : xkdb 0 x = true) (hy : xkdb 0 y = true) (h : xfork κ k x y (fun κ' => rec tgt lv st K ce sl κ') (fun κ' => rec nx lv st K ce sl κ') = some Ls) : xGood al b ρ sa dA D M p l e s m args below meth c A Qc pc lv (y :: x :: st) K ce sl κ Ls := by
  intro H locs ls hl hP hS hz hA0 hκ hQ
  obtain ⟨h1, h2⟩ := xfork_ok hκ h
  rw [List.map_cons, List.map_cons, xk0 hx, xk0 hy]
  refine hT p l e _ s m args below meth c H locs ce sl _ ls _ hC.1 _ _ (fun hc => ?_) (fun hc => ?_)
  · obtain ⟨κ', L, g1, g2, g3⟩ := h1 hc
    exact hr _ _ _ _ _ _ _ _ g1 H locs ls hl hP hS hz hA0 g2 (hQ.sub g3)
  · obtain ⟨κ', L, g1, g2, g3⟩ := h2 hc
    exact hr _ _ _ _ _ _ _ _ g1 H locs ls hl hP hS hz hA0 g2 (hQ.sub g3)
theorem xp_fork0 (hC : xCtx b dA D M p s m args meth c A EX) (hr : xSnd al b ρ sa dA D M p l e s m args below meth c A Qc rec) {k tgt : Nat} {x : xV} (hT : xB0 (xMc M) (xMo M) pc nx tgt k) (hx : xkdb 0 x = true) (h : xfork κ k x (0, 0) (fun κ' => rec tgt lv st K ce sl κ') (fun κ' => rec nx lv st K ce sl κ') = some Ls) : xGood al b ρ sa dA D M p l e s m args below meth c A Qc pc lv (x :: st) K ce sl κ Ls := by
  intro H locs ls hl hP hS hz hA0 hκ hQ
  obtain ⟨h1, h2⟩ := xfork_ok hκ h
  rw [List.map_cons, xk0 hx]
  refine hT p l e _ s m args below meth c H locs ce sl _ ls _ hC.1 _ (fun hc => ?_) (fun hc => ?_)
  · obtain ⟨κ', L, g1, g2, g3⟩ := h1 hc
    exact hr _ _ _ _ _ _ _ _ g1 H locs ls hl hP hS hz hA0 g2 (hQ.sub g3)
  · obtain ⟨κ', L, g1, g2, g3⟩ := h2 hc
    exact hr _ _ _ _ _ _ _ _ g1 H locs ls hl hP hS hz hA0 g2 (hQ.sub g3)
theorem xp_sw (hC : xCtx b dA D M p s m args meth c A EX) (hr : xSnd al b ρ sa dA D M p l e s m args below meth c A Qc rec) {dflt : Nat} {cs : List (Nat × Nat)} {x : xV} (hT : xSw (xMc M) (xMo M) pc dflt cs) (hx : xkdb 0 x = true) (h : xsw x (fun κ' => rec dflt lv st K ce sl κ') (fun t κ' => rec t lv st K ce sl κ') cs κ = some Ls) : xGood al b ρ sa dA D M p l e s m args below meth c A Qc pc lv (x :: st) K ce sl κ Ls := by
  intro H locs ls hl hP hS hz hA0 hκ hQ
  rw [List.map_cons, xk0 hx]
  refine hT p l e _ s m args below meth c H locs ce sl _ ls _ hC.1 _ ?_
  rcases xsw_ok hκ h with ⟨q, hq, e, κ', L, g1, g2, g3⟩ | ⟨hn, κ', L, g1, g2, g3⟩
  · exact Or.inl ⟨q, hq, e, hr _ _ _ _ _ _ _ _ g1 H locs ls hl hP hS hz hA0 g2 (hQ.sub g3)⟩
  · exact Or.inr ⟨hn, hr _ _ _ _ _ _ _ _ g1 H locs ls hl hP hS hz hA0 g2 (hQ.sub g3)⟩
theorem xcx_at {i : Nat} {x : xC} (h : K[i]? = some x) : (xcx b ρ sa dA 0 K)[i]? = some (b + i, xce b ρ sa dA x) := by
  rw [xcx_get, h, show 0 + i = i by omega]
  rfl
theorem xcx_put (i : Nat) (x : xC) : (xcx b ρ sa dA 0 K).set i (b + i, xce b ρ sa dA x) = xcx b ρ sa dA 0 (K.set i x) := by
  rw [← xcx_set, show 0 + i = i by omega]
theorem xp_getf (hC : xCtx b dA D M p s m args meth c A EX) (hr : xSnd al b ρ sa dA D M p l e s m args below meth c A Qc rec) {ci k i : Nat} {fs : List xV} {v : xV} (hT : xGf (xMc M) (xMo M) pc nx ci k) (hK : K[i]? = some (.inr (ci, fs))) (hv : fs[k]? = some v) (h : rec nx lv (v :: st) K ce sl κ = some Ls) : xGood al b ρ sa dA D M p l e s m args below meth c A Qc pc lv ((1, i) :: st) K ce sl κ Ls := by
  intro H locs ls hl hP hS hz hA0 hκ hQ
  have := hr _ _ _ _ _ _ _ _ h H locs ls hl hP hS hz hA0 hκ hQ
  rw [List.map_cons] at this ⊢
  exact hT p l e _ s m args below meth c H locs ce sl _ ls _ hC.1 D (xtys dA) _ i (b + i) (fs.map (xdv b ρ sa)) _ hC.2.2.1 hP (xcx_at hK) (by rw [List.getElem?_map, hv]; rfl) this
theorem xp_putf (hC : xCtx b dA D M p s m args meth c A EX) (hr : xSnd al b ρ sa dA D M p l e s m args below meth c A Qc rec) {ci k i : Nat} {fs : List xV} {v : xV} {ty : FieldType} {fin : Bool} (hT : xPf (xMc M) (xMo M) pc nx ci k ty fin) (hf : fin = true → (xMy M).name = "<init>") (hft : xfit (xtc ty) v = true) (hk : k < fs.length) (hK : K[i]? = some (.inr (ci, fs))) (h : rec nx lv st (K.set i (.inr (ci, fs.set k v))) ce sl κ = some Ls) : xGood al b ρ sa dA D M p l e s m args below meth c A Qc pc lv (v :: (1, i) :: st) K ce sl κ Ls := by
  intro H locs ls hl hP hS hz hA0 hκ hQ
  rw [List.map_cons, List.map_cons]
  obtain ⟨f1, f2⟩ := xfit_ok hft (b := b) (ρ := ρ) (sa := sa)
  refine hT p l e _ s m args below meth c H locs ce sl _ ls _ hC.1 D (xtys dA) _ i (b + i) A s.heap (fs.map (xdv b ρ sa)) _ hC.2.2.1 hP (xcx_D hA0) hS (xcx_at hK) (fun q => by rw [hC.2.2.2.2.2.2.2.1]; exact hf q) f1 f2 (by rw [List.length_map]; exact hk) (fun H1 locs1 hP1 _ hS1 z1 => ?_)
  have e1 : (Sum.inr (ci, (fs.map (xdv b ρ sa)).set k (xdv b ρ sa v)) : va_E) = xce b ρ sa dA (.inr (ci, fs.set k v)) := by
    show Sum.inr (ci, _) = Sum.inr (ci, (fs.set k v).map (xdv b ρ sa))
    rw [List.map_set]
  rw [e1, xcx_put] at hP1
  exact hr _ _ _ _ _ _ _ _ h H1 locs1 ls hl hP1 hS1 (fun q => by rw [List.length_set, ← hz q]; exact z1) (fun j hj => hA0 j (by rw [List.length_set] at hj; exact hj)) hκ hQ
theorem xce_arr {t : Nat} (ht : t = 0 ∨ t = 1 ∨ t = 3) (vs : List xV) : xce b ρ sa dA (.inl (t, vs)) = .inl (dA t, vs.length, .inl (fun j => xdi ρ (vs.getD j (0, 0)))) := by
  rcases ht with rfl | rfl | rfl <;> rfl
theorem xce_any {t : Nat} (vs : List xV) : ∃ z, xce b ρ sa dA (.inl (t, vs)) = .inl (dA t, vs.length, z) := by
  match t with
  | 0 | 1 | 2 | 3 | 4 => exact ⟨_, rfl⟩
  | n + 5 => exact ⟨_, rfl⟩
theorem xp_alen (hC : xCtx b dA D M p s m args meth c A EX) (hr : xSnd al b ρ sa dA D M p l e s m args below meth c A Qc rec) {t i : Nat} {vs : List xV} (hT : xAl (xMc M) (xMo M) pc nx) (ht : t < 5) (hK : K[i]? = some (.inl (t, vs))) (h : rec nx lv ((0, vs.length) :: st) K ce sl κ = some Ls) : xGood al b ρ sa dA D M p l e s m args below meth c A Qc pc lv ((1, i) :: st) K ce sl κ Ls := by
  intro H locs ls hl hP hS hz hA0 hκ hQ
  have := hr _ _ _ _ _ _ _ _ h H locs ls hl hP hS hz hA0 hκ hQ
  rw [List.map_cons] at this ⊢
  obtain ⟨z, hz2⟩ := xce_any (b := b) (ρ := ρ) (sa := sa) (dA := dA) (t := t) vs
  have hg := xcx_at (b := b) (ρ := ρ) (sa := sa) (dA := dA) hK
  rw [hz2] at hg
  exact hT p l e _ s m args below meth c H locs ce sl _ ls _ hC.1 D (xtys dA) _ i (b + i) t (dA t) (vs.length, z) (xty t) hC.2.2.1 hP hg (xtys_get ht) this
theorem xin {n N : Nat} (hn : n < 2147483648) (h : n < N) : vp_in (nI n) N := by
  rintro (h1 | h1)
  · exact nI_pos hn h1
  · rw [nI_clamp hn] at h1
    omega
theorem xp_read (hC : xCtx b dA D M p s m args meth c A EX) (hr : xSnd al b ρ sa dA D M p l e s m args below meth c A Qc rec) {t i n : Nat} {vs : List xV} {j v : xV} (ht : t = 0 ∨ t = 1 ∨ t = 3) (hT : xRd (xMc M) (xMo M) pc nx (xty t)) (hj : xnm κ.2 j = (0, n)) (hn : n < 2147483648) (hK : K[i]? = some (.inl (t, vs))) (hv : vs[n]? = some v) (hk : xkdb 0 v = true) (h : rec nx lv (v :: st) K ce sl κ = some Ls) : xGood al b ρ sa dA D M p l e s m args below meth c A Qc pc lv (j :: (1, i) :: st) K ce sl κ Ls := by
  intro H locs ls hl hP hS hz hA0 hκ hQ
  have := hr _ _ _ _ _ _ _ _ h H locs ls hl hP hS hz hA0 hκ hQ
  rw [List.map_cons, xk0 hk] at this
  rw [List.map_cons, List.map_cons]
  have ej := (xnm_ok hκ (b := b) (sa := sa) j).1
  rw [hj] at ej
  rw [← ej]
  have hg := xcx_at (b := b) (ρ := ρ) (sa := sa) (dA := dA) hK
  rw [xce_arr ht] at hg
  refine hT p l e _ s m args below meth c H locs ce sl _ ls _ hC.1 D (xtys dA) _ i (b + i) t (dA t) vs.length _ (nI n) hC.2.2.1 hP hg (xtys_get (by omega)) (xin hn (List.getElem?_eq_some_iff.mp hv).1) ?_
  rw [nI_clamp hn, List.getD_eq_getElem?_getD, hv]
  exact this
theorem xp_readr (hC : xCtx b dA D M p s m args meth c A EX) (hr : xSnd al b ρ sa dA D M p l e s m args below meth c A Qc rec) {i n q : Nat} {vs : List xV} {j : xV} (hT : xRr (xMc M) (xMo M) pc nx) (hj : xnm κ.2 j = (0, n)) (hn : n < 2147483648) (hK : K[i]? = some (.inl (4, vs))) (hv : vs[n]? = some (1, q)) (h : rec nx lv ((1, q) :: st) K ce sl κ = some Ls) : xGood al b ρ sa dA D M p l e s m args below meth c A Qc pc lv (j :: (1, i) :: st) K ce sl κ Ls := by
  intro H locs ls hl hP hS hz hA0 hκ hQ
  have := hr _ _ _ _ _ _ _ _ h H locs ls hl hP hS hz hA0 hκ hQ
  rw [List.map_cons] at this
  rw [List.map_cons, List.map_cons]
  have ej := (xnm_ok hκ (b := b) (sa := sa) j).1
  rw [hj] at ej
  rw [← ej]
  have hg := xcx_at (b := b) (ρ := ρ) (sa := sa) (dA := dA) hK
  refine hT p l e _ s m args below meth c H locs ce sl _ ls _ hC.1 D (xtys dA) _ i (b + i) 4 (dA 4) vs.length _ (nI n) hC.2.2.1 hP hg rfl (xin hn (List.getElem?_eq_some_iff.mp hv).1) ?_
  rw [nI_clamp hn, List.getD_eq_getElem?_getD, hv]
  exact this
theorem xupd {ρ : Nat → Int32} {vs : List xV} {n : Nat} (h : n < vs.length) (v : xV) : upd (fun j => xdi ρ (vs.getD j (0, 0))) n (xdi ρ v) = fun j => xdi ρ ((vs.set n v).getD j (0, 0)) := by
  funext j
  simp only [upd]
  by_cases e : j = n
  · subst e
    rw [if_pos rfl, List.getD_eq_getElem?_getD, List.getElem?_set_self h]
    rfl
  · rw [if_neg e, List.getD_eq_getElem?_getD, List.getD_eq_getElem?_getD, List.getElem?_set_ne (Ne.symm e)]
theorem xp_write (hC : xCtx b dA D M p s m args meth c A EX) (hr : xSnd al b ρ sa dA D M p l e s m args below meth c A Qc rec) {t i n : Nat} {vs : List xV} {j v : xV} (ht : t = 0 ∨ t = 1 ∨ t = 3) (hT : xWr (xMc M) (xMo M) pc nx (xty t)) (hj : xnm κ.2 j = (0, n)) (hn : n < 2147483648) (hK : K[i]? = some (.inl (t, vs))) (hl2 : n < vs.length) (hk : xkdb 0 v = true) (hnar : vp_nar (xty t) (xdi ρ v) = xdi ρ v) (h : rec nx lv st (K.set i (.inl (t, vs.set n v))) ce sl κ = some Ls) : xGood al b ρ sa dA D M p l e s m args below meth c A Qc pc lv (v :: j :: (1, i) :: st) K ce sl κ Ls := by
  intro H locs ls hl hP hS hz hA0 hκ hQ
  rw [List.map_cons, List.map_cons, List.map_cons, xk0 hk]
  have ej := (xnm_ok hκ (b := b) (sa := sa) j).1
  rw [hj] at ej
  rw [← ej]
  have hg := xcx_at (b := b) (ρ := ρ) (sa := sa) (dA := dA) hK
  rw [xce_arr ht] at hg
  refine hT p l e _ s m args below meth c H locs ce sl _ ls _ hC.1 D (xtys dA) _ i (b + i) A s.heap t (dA t) vs.length _ (nI n) _ hC.2.2.1 hP (xcx_D hA0) hS hg (xtys_get (by omega)) (xin hn hl2) (fun H1 locs1 hP1 _ hS1 z1 => ?_)
  rw [hnar, nI_clamp hn, xupd hl2] at hP1
  have e1 : (Sum.inl (dA t, vs.length, .inl (fun j => xdi ρ ((vs.set n v).getD j (0, 0)))) : va_E) = xce b ρ sa dA (.inl (t, vs.set n v)) := by
    rw [xce_arr ht, List.length_set]
  rw [e1, xcx_put] at hP1
  exact hr _ _ _ _ _ _ _ _ h H1 locs1 ls hl hP1 hS1 (fun q => by rw [List.length_set, ← hz q]; exact z1) (fun j hj => hA0 j (by rw [List.length_set] at hj; exact hj)) hκ hQ
theorem xdz {v : xV} (h : (Nat.beq v.1 0 || (Nat.beq v.1 2 || Nat.beq v.1 4)) = true) : xdv 0 (fun _ => 0) (fun _ => 0) v = xdv b ρ sa v := by
  match v, h with
  | (0, _), _ | (2, _), _ | (4, _), _ => rfl
  | (1, _), h | (3, _), h | (5, _), h | (6, _), h => cases h
  | (n + 7, _), h => cases h
theorem xp_new (hC : xCtx b dA D M p s m args meth c A EX) (hr : xSnd al b ρ sa dA D M p l e s m args below meth c A Qc rec) {ci N : Nat} {fs : List xV} (hT : xNw (xMc M) (xMo M) pc nx ci N (fs.map (xdv 0 (fun _ => 0) (fun _ => 0)))) (hal : al = true) (hce : ce < (xMm M).cells) (hsl : sl + N ≤ (xMm M).slots) (hfs : fs.all (fun q => Nat.beq q.1 0 || (Nat.beq q.1 2 || Nat.beq q.1 4)) = true) (h : rec nx lv ((1, K.length) :: st) (K ++ [.inr (ci, fs)]) (ce + 1) (sl + N) κ = some Ls) : xGood al b ρ sa dA D M p l e s m args below meth c A Qc pc lv st K ce sl κ Ls := by
  intro H locs ls hl hP hS hz hA0 hκ hQ
  refine hT p l e _ s m args below meth c H locs ce sl _ ls _ hC.1 D (xtys dA) _ A s.heap hC.2.2.1 hP hS hce hsl (fun H1 hP1 hS1 z1 => ?_)
  have e0 : fs.map (xdv 0 (fun _ => 0) (fun _ => 0)) = fs.map (xdv b ρ sa) := List.map_congr_left (fun v hv => xdz (List.all_eq_true.mp hfs v hv))
  rw [e0, hz hal, show b + K.length = b + (0 + K.length) by omega] at hP1
  have e1 : (Sum.inr (ci, fs.map (xdv b ρ sa)) : va_E) = xce b ρ sa dA (.inr (ci, fs)) := rfl
  rw [e1, ← xcx_push] at hP1
  have := hr _ _ _ _ _ _ _ _ h H1 locs ls hl hP1 hS1 (fun q => by rw [List.length_append, z1, hz q]; rfl) (fun j hj => by
    rw [List.length_append] at hj
    by_cases hj2 : j < K.length
    · exact hA0 j hj2
    · refine hC.2.2.2.1 _ ?_
      have e2 : j = K.length := by simp at hj; omega
      rw [e2, ← hz hal]
      exact hS.1) hκ hQ
  rw [List.map_cons] at this
  rw [hz hal]
  exact this
theorem xp_newa (hC : xCtx b dA D M p s m args meth c A EX) (hr : xSnd al b ρ sa dA D M p l e s m args below meth c A Qc rec) {t n : Nat} (ht : t < 4) (hT : xNa (xMc M) (xMo M) pc nx (xty t)) (hal : al = true) (hce : ce < (xMm M).cells) (hsl : sl + n ≤ (xMm M).slots) (hn : n < 67108864) (h : rec nx lv ((1, K.length) :: st) (K ++ [.inl (t, List.replicate n (xzero t))]) (ce + 1) (sl + n) κ = some Ls) : xGood al b ρ sa dA D M p l e s m args below meth c A Qc pc lv ((0, n) :: st) K ce sl κ Ls := by
  intro H locs ls hl hP hS hz hA0 hκ hQ
  rw [List.map_cons]
  obtain ⟨-, hRA⟩ := hC.2.2.1.2 t _ (xtys_get (by omega))
  have hfc : s.vm.findClass ("[" ++ (xty t).toString) = some (dA t) := by
    match t, ht, hRA with
    | 0, _, h | 1, _, h | 2, _, h | 3, _, h => exact h
  obtain ⟨z, hz2⟩ : ∃ z : vp_A, xce b ρ sa dA (.inl (t, List.replicate n (xzero t))) = .inl (dA t, z) ∧ vp_cell (dA t) z = arrV (dA t) n (fun _ => defaultValue (xty t)) := by
    match t, ht with
    | 0, _ | 1, _ | 3, _ =>
      refine ⟨_, rfl, ?_⟩
      rw [vp_cell_i, List.length_replicate]
      congr 1
      funext j
      simp [List.getD_eq_getElem?_getD, List.getElem?_replicate, xzero, defaultValue, xty]
      split <;> rfl
    | 2, _ =>
      refine ⟨_, rfl, ?_⟩
      rw [vp_cell_l, List.length_replicate]
      congr 1
      funext j
      simp [List.getD_eq_getElem?_getD, List.getElem?_replicate, xzero, defaultValue, xty]
      split <;> rfl
  refine hT p l e _ s m args below meth c H locs ce sl _ ls _ hC.1 D (xtys dA) _ A s.heap (nI n) n z (dA t) hC.2.2.1 hP hS hfc hz2.2 (nI_pos (by omega)) (nI_clamp (by omega)) (by
    have hb : componentBytes (xty t) ≤ 8 := by
      match t, ht with
      | 0, _ | 1, _ | 2, _ | 3, _ => decide
    calc n * componentBytes (xty t) ≤ 67108864 * 8 := Nat.mul_le_mul (by omega) hb
      _ ≤ 536870912 := by decide) hce hsl (fun H1 hP1 hS1 z1 => ?_)
  rw [← hz2.1, hz hal, show b + K.length = b + (0 + K.length) by omega, ← xcx_push] at hP1
  have := hr _ _ _ _ _ _ _ _ h H1 locs ls hl hP1 hS1 (fun q => by rw [List.length_append, z1, hz q]; rfl) (fun j hj => by
    rw [List.length_append] at hj
    by_cases hj2 : j < K.length
    · exact hA0 j hj2
    · refine hC.2.2.2.1 _ ?_
      have e2 : j = K.length := by simp at hj; omega
      rw [e2, ← hz hal]
      exact hS.1) hκ hQ
  rw [List.map_cons] at this
  rw [hz hal]
  exact this
theorem xp_oinit (hC : xCtx b dA D M p s m args meth c A EX) (hr : xSnd al b ρ sa dA D M p l e s m args below meth c A Qc rec) {i : Nat} (hT : xOi (xMc M) (xMo M) pc nx) (hf : 1 ≤ (xMm M).frames) (hlo : xsum st + 12 ≤ (xMm M).locals) (h : rec nx lv st K ce sl κ = some Ls) : xGood al b ρ sa dA D M p l e s m args below meth c A Qc pc lv ((1, i) :: st) K ce sl κ Ls := by
  intro H locs ls hl hP hS hz hA0 hκ hQ
  have := hr _ _ _ _ _ _ _ _ h H locs ls hl hP hS hz hA0 hκ hQ
  rw [List.map_cons]
  exact hT p l e _ s m args below meth c H locs ce sl _ ls _ hC.1 (b + i) (by rw [hC.2.1, hl.1]) hf (by rw [xsum_ok]; exact hlo) this
theorem xp_copy (hC : xCtx b dA D M p s m args meth c A EX) (hr : xSnd al b ρ sa dA D M p l e s m args below meth c A Qc rec) {d0 s0 sp dp n : Nat} {vs ws : List xV} (hT : xCp (xMc M) (xMo M) pc nx) (hKs : K[s0]? = some (.inl (0, vs))) (hKd : K[d0]? = some (.inl (0, ws))) (h1 : sp + n ≤ vs.length) (h2 : dp + n ≤ ws.length) (h3 : sp + n < 2147483648) (h4 : dp + n < 2147483648) (hf : 1 ≤ (xMm M).frames) (hlo : xsum st + (nativeFrameWords "java/lang/System" "arraycopy" 5 + 11) ≤ (xMm M).locals) (h : rec nx lv st (K.set d0 (.inl (0, ws.take dp ++ ((vs.drop sp).take n ++ ws.drop (dp + n))))) ce sl κ = some Ls) : xGood al b ρ sa dA D M p l e s m args below meth c A Qc pc lv ((0, n) :: (0, dp) :: (1, d0) :: (0, sp) :: (1, s0) :: st) K ce sl κ Ls := by
  intro H locs ls hl hP hS hz hA0 hκ hQ
  simp only [List.map_cons]
  have hg0 := xcx_at (b := b) (ρ := ρ) (sa := sa) (dA := dA) hKs
  have hg1 := xcx_at (b := b) (ρ := ρ) (sa := sa) (dA := dA) hKd
  rw [xce_arr (Or.inl rfl)] at hg0 hg1
  refine hT p l e _ s m args below meth c H locs ce sl _ ls _ hC.1 D (xtys dA) _ A s.heap s0 d0 (b + s0) (b + d0) 0 (dA 0) vs.length ws.length _ _ (nI sp) (nI dp) (nI n) (by rw [hC.2.1, hl.1]) hC.2.2.1 hP (xcx_D hA0) hS hg0 hg1 rfl (nI_pos (by omega)) (nI_pos (by omega)) (nI_pos (by omega)) (by rw [nI_clamp (by omega), nI_clamp (by omega)]; exact h1) (by rw [nI_clamp (by omega), nI_clamp (by omega)]; exact h2) hf (by rw [xsum_ok]; exact hlo) (fun H1 locs1 hP1 hS1 z1 => ?_)
  rw [nI_clamp (by omega), nI_clamp (by omega), nI_clamp (by omega)] at hP1
  have e1 : (Sum.inl (dA 0, ws.length, .inl (va_cpy (fun j => xdi ρ (vs.getD j (0, 0))) (fun j => xdi ρ (ws.getD j (0, 0))) sp dp n)) : va_E) = xce b ρ sa dA (.inl (0, ws.take dp ++ ((vs.drop sp).take n ++ ws.drop (dp + n)))) := by
    rw [xce_arr (Or.inl rfl)]
    have el : (ws.take dp ++ ((vs.drop sp).take n ++ ws.drop (dp + n))).length = ws.length := by
      simp only [List.length_append, List.length_take, List.length_drop]
      omega
    rw [el]
    congr 4
    funext j
    simp only [va_cpy, List.getD_eq_getElem?_getD]
    by_cases hj : dp ≤ j ∧ j < dp + n
    · rw [if_pos hj, List.getElem?_append_right (by rw [List.length_take]; omega), List.getElem?_append_left (by simp only [List.length_take, List.length_drop]; omega), List.getElem?_take_of_lt (by rw [List.length_take]; omega), List.getElem?_drop]
      rw [List.length_take, Nat.min_eq_left (by omega)]
    · rw [if_neg hj]
      by_cases hj2 : j < dp
      · rw [List.getElem?_append_left (by rw [List.length_take]; omega), List.getElem?_take_of_lt hj2]
      · rw [List.getElem?_append_right (by rw [List.length_take]; omega), List.getElem?_append_right (by simp only [List.length_take, List.length_drop]; omega), List.getElem?_drop]
        congr 3
        simp only [List.length_take, List.length_drop]
        omega
  rw [e1, xcx_put] at hP1
  exact hr _ _ _ _ _ _ _ _ h H1 locs1 ls hl hP1 hS1 (fun q => by rw [List.length_set, ← hz q]; exact z1) (fun j hj => hA0 j (by rw [List.length_set] at hj; exact hj)) hκ hQ
end XC
end
section
/-- what may be said of a callee's end -/
def xQp (al : Bool) (b : Nat) (ρ : Nat → Int32) (sa : Nat → Nat) (dA : Nat → ClassId) (D : va_G) (n sz : Nat) (Ls : List xR) : State → Outcome → State → Prop := fun u o t =>
  ∃ lf ∈ Ls, xKok ρ lf.1 ∧ o = .returned (lf.2.1.map (xdv b ρ sa)) ∧ va_P D vwCl (xcx b ρ sa dA 0 lf.2.2) t.heap ∧ (al = true → t.heap.size = b + lf.2.2.length) ∧ (∀ i, i < lf.2.2.length → xA b n sz (b + i)) ∧ va_F (xA b n sz) u t
def xPp (al : Bool) (b : Nat) (ρ : Nat → Int32) (sa : Nat → Nat) (dA : Nat → ClassId) (D : va_G) (EX : State → Prop) (K : xH) (sz : Nat) (U : State) : Prop := U.heap.size = sz ∧ va_P D vwCl (xcx b ρ sa dA 0 K) U.heap ∧ va_K D vwCl (xtys dA) U ∧ (al = true → U.heap.size = b + K.length) ∧ EX U
abbrev xWs (M : xM) : List Cond := .code (xMy M) (xMc M) (xMl M) (xMr M) :: xgt
def xMet (al : Bool) (b : Nat) (ρ : Nat → Int32) (sa : Nat → Nat) (dA : Nat → ClassId) (D : va_G) (EX : State → Prop) (l : Launch) (M : xM) (avs : List xV) (K : xH) (Ls : List xR) (sz : Nat) : Prop :=
  Met l (xMy M) (xWs M) (xMm M) (va_Pc (avs.map (xdv b ρ sa)) (xPp al b ρ sa dA D EX K sz)) (fun _ => xQp al b ρ sa dA D K.length sz Ls) (xMm M).cells (xMm M).slots (xA b K.length sz)
/-- facts beside the world, that stay -/
def xEok (b : Nat) (sa : Nat → Nat) (EX : State → Prop) : Prop := (∀ (U : State) (g : JFrame) (mk : MethodId) (a : Array Value), EX U → EX (U.calling g mk a)) ∧ (∀ s U : State, EX s → s.WarmedH U.vm → (∀ q, q < b → U.heap[q]? = s.heap[q]?) → EX U) ∧ ∀ s, EX s → xFx b sa s
section XD
variable {al : Bool} {b : Nat} {ρ : Nat → Int32} {sa : Nat → Nat} {dA : Nat → ClassId} {D : va_G} {M : xM} {p : Program} {l : Launch} {e : Env} {s : State} {m : MethodId} {args : Array Value} {below : List Frame} {meth : Method} {c : Code} {A : Nat → Prop} {Qc : Array Value → State → Outcome → State → Prop} {EX : State → Prop}
variable {mt : List xM} {ds : xD} {rec : xRec} {pc nx : Nat} {lv : xL} {st : List xV} {K : xH} {ce sl : Nat} {κ : xK} {Ls : List xR}
theorem xp_iret (hC : xCtx b dA D M p s m args meth c A EX) {v : xV} {ty : FieldType} (hd : decode (xMc M) pc = .ok (.ireturn, 1)) (hr : xMr M = some ty) (hti : ty = .int ∨ ty = .boolean) (hf : xfit (xtc ty) v = true) (h1 : ce ≤ (xMm M).cells) (h2 : sl ≤ (xMm M).slots) : xGood al b ρ sa dA D M p l e s m args below meth c A Qc pc lv [v] K ce sl κ [(κ, some (xnm κ.2 v), K)] := by
  intro H locs ls hl hP hS hz hA0 hκ hQ
  have hk : xkdb 0 v = true := by
    rcases hti with rfl | rfl
    · exact hf
    · simp only [xtc, xfit, Bool.and_eq_true] at hf
      simp only [xkdb, hf.1, Bool.true_or]
  have e0 : xdv b ρ sa v = .int (xdi ρ v) := xk0 hk
  have hn := (xfit_ok hf (b := b) (ρ := ρ) (sa := sa)).1
  rw [e0] at hn
  refine W.widen (k := (xMm M).cells) (n := (xMm M).slots) h1 h2 ?_
  rw [show [v].map (xdv b ρ sa) = [.int (xdi ρ v)] by rw [← e0]; rfl]
  refine W.zret hC.1.1 hC.1.2.1 (by rw [hC.2.2.2.2.2.1]; exact hr) hn (fun t ht _ => ?_) hS.2.2 hd hC.2.2.2.2.2.2.1
  have := hQ _ List.mem_cons_self hκ t (by rw [ht]; exact hP) (fun q => by rw [ht]; exact hz q) hA0 (hS.F ht)
  dsimp only [Option.map] at this
  rw [(xnm_ok hκ v).1, e0] at this
  exact this
theorem xp_lret (hC : xCtx b dA D M p s m args meth c A EX) {v : xV} (hd : decode (xMc M) pc = .ok (.lreturn, 1)) (hr : xMr M = some .long) (hf : xkdb 2 v = true) (h1 : ce ≤ (xMm M).cells) (h2 : sl ≤ (xMm M).slots) : xGood al b ρ sa dA D M p l e s m args below meth c A Qc pc lv [v] K ce sl κ [(κ, some v, K)] := by
  intro H locs ls hl hP hS hz hA0 hκ hQ
  have e0 : xdv b ρ sa v = .long (lN v.2) := xk2 hf
  refine W.widen (k := (xMm M).cells) (n := (xMm M).slots) h1 h2 ?_
  rw [show [v].map (xdv b ρ sa) = [.long (lN v.2)] by rw [← e0]; rfl]
  refine W.lret hC.1.1 hC.1.2.1 (by rw [hC.2.2.2.2.2.1]; exact hr) (fun t ht _ => ?_) hS.2.2 hd hC.2.2.2.2.2.2.1
  have := hQ _ List.mem_cons_self hκ t (by rw [ht]; exact hP) (fun q => by rw [ht]; exact hz q) hA0 (hS.F ht)
  dsimp only [Option.map] at this
  rw [e0] at this
  exact this
theorem xp_vret (hC : xCtx b dA D M p s m args meth c A EX) (hd : decode (xMc M) pc = .ok (.return_, 1)) (hr : xMr M = none) (h1 : ce ≤ (xMm M).cells) (h2 : sl ≤ (xMm M).slots) : xGood al b ρ sa dA D M p l e s m args below meth c A Qc pc lv [] K ce sl κ [(κ, none, K)] := by
  intro H locs ls hl hP hS hz hA0 hκ hQ
  refine W.widen (k := (xMm M).cells) (n := (xMm M).slots) h1 h2 ?_
  exact W.vret hC.1.1 hC.1.2.1 (by rw [hC.2.2.2.2.2.1]; exact hr) (fun t ht _ => hQ _ List.mem_cons_self hκ t (by rw [ht]; exact hP) (fun q => by rw [ht]; exact hz q) hA0 (hS.F ht)) hS.2.2 hd hC.2.2.2.2.2.2.1
/-- behind a call -/
theorem xp_call (hC : xCtx b dA D M p s m args meth c A EX) (hr : xSnd al b ρ sa dA D M p l e s m args below meth c A Qc rec) {mc ms : Nat} {rest : List xV} {Lc : List xR}
    (hrun : ∀ (H : Heap) (locs : List Loc) (ls : Array Slot), lv_has ls (xMl M) (xdL b ρ sa lv) → va_P D vwCl (xcx b ρ sa dA 0 K) H → va_S A s.heap H locs → (al = true → H.size = b + K.length) → xKok ρ κ → va_Run p l e (xMm M) s m args below meth c H locs ce sl mc ms (F0 m pc ls (st.map (xdv b ρ sa))) (rest.map (xdv b ρ sa)) (xQp al b ρ sa dA D K.length H.size Lc) (xA b K.length H.size))
    (hall : ∀ lf ∈ Lc, ∃ L, rec (pc + 3) lv (xput rest lf.2.1) lf.2.2 (ce + mc) (sl + ms) lf.1 = some L ∧ ∀ q ∈ L, q ∈ Ls) : xGood al b ρ sa dA D M p l e s m args below meth c A Qc pc lv st K ce sl κ Ls := by
  intro H locs ls hl hP hS hz hA0 hκ hQ
  intro T hT X
  obtain ⟨v, st₀, t, T', L, h0, X', hL, e1, e2, ⟨lf, hlf, k1, k2, k3, k4, k5, k6⟩, stp⟩ := hrun H locs ls hl hP hS hz hκ T hT X
  have ev : v = lf.2.1.map (xdv b ρ sa) := by injection k2
  obtain ⟨L2, g1, g2⟩ := hall lf hlf
  have hsub : ∀ q, xA b K.length H.size q → A q := by
    rintro q (⟨a1, a2⟩ | a1)
    · have := hA0 (q - b) (by omega)
      rwa [show b + (q - b) = q by omega] at this
    · exact hC.2.2.2.1 q (Nat.le_trans hS.1 a1)
  obtain ⟨f1, f2⟩ := k6
  rw [h0] at f1 f2
  have hS2 : va_S A s.heap T'.heap (locs ++ L) := ⟨by rw [e1]; exact Nat.le_trans hS.1 f1, fun q q1 q2 => by
    rw [e1, f2 q (Nat.lt_of_lt_of_le q1 hS.1) (fun z => q2 (hsub q z))]
    exact hS.2.1 q q1 q2, fun q hq => by
    rcases List.mem_append.mp hq with h | h
    · exact hS.2.2 q h
    · exact hsub _ (hL q h)⟩
  have W2 := hr _ _ _ _ _ _ _ _ g1 T'.heap (locs ++ L) ls hl (by rw [e1]; exact k3) hS2 (fun q => by rw [e1]; exact k4 q) (fun i hi => hsub _ (k5 i hi)) k1 (hQ.sub g2)
  obtain ⟨t2, a1, b1⟩ := W2 T' rfl X'
  refine ⟨t2, stp t2 ?_, b1⟩
  have es : v.toList ++ rest.map (xdv b ρ sa) = (xput rest lf.2.1).map (xdv b ρ sa) := by
    rw [ev]
    cases lf.2.1 <;> rfl
  rw [es]
  exact a1
theorem xgt_in' {ws : List Cond} (h : ∀ w ∈ ws, w ∈ xgt) : GoodIn xgt ws := fun w hw => ⟨h w hw, xgt_good w (h w hw)⟩
theorem xWs_in {M' : xM} (h : xMok mt M') : ∀ w ∈ xWs M', w ∈ xgt := fun w hw => by
  rcases List.mem_cons.mp hw with rfl | hw
  · exact h.1
  · exact hw
theorem xPp_blind {avs : List Value} {sz : Nat} (hE : xEok b sa EX) : FrameBlind (va_Pc avs (xPp al b ρ sa dA D EX K sz)) := by
  rintro a U g mk ⟨h1, h2, h3, h4, h5, h6⟩
  exact ⟨h1, h2, h3, va_K.moved (u := U) (U := U.calling g mk a) (Vm.Alike.refl U.vm) h4, h5, hE.1 U g mk a h6⟩
theorem xPp_at (hC : xCtx b dA D M p s m args meth c A EX) (hE : xEok b sa EX) {H : Heap} {locs : List Loc} (hP : va_P D vwCl (xcx b ρ sa dA 0 K) H) (hS : va_S A s.heap H locs) (hz : al = true → H.size = b + K.length) (U : State) (hU : U.heap = H) (hW : s.WarmedH U.vm) : xPp al b ρ sa dA D EX K H.size U := by
  refine ⟨by rw [hU], by rw [hU]; exact hP, va_K.moved hW.alike hC.2.2.1, fun q => by rw [hU]; exact hz q, hE.2.1 s U hC.2.2.2.2.2.2.2.2.1 hW (fun q hq => ?_)⟩
  rw [hU]
  have hb := hC.2.2.2.2.2.2.2.2.2
  exact hS.2.1 q (by omega) (fun z => by have := hC.2.2.2.2.1 q z; omega)
theorem xroom_ok {M' : xM} (h : xroom (xMm M) M' ce sl = true) : ((xMm M').frames + 1 ≤ (xMm M).frames ∧ 8 + (xMl M' + 11) + (xMm M').locals ≤ (xMm M).locals) ∧ ce + (xMm M').cells ≤ (xMm M).cells ∧ sl + (xMm M').slots ≤ (xMm M).slots := by
  simp only [xroom, Bool.and_eq_true, Nat.ble_eq] at h
  exact ⟨⟨h.1, h.2.1⟩, h.2.2.1, h.2.2.2⟩
theorem xp_runS (hC : xCtx b dA D M p s m args meth c A EX) (hE : xEok b sa EX) {M' : xM} (hM' : xMok mt M') (hc : xcS M pc M') (hrm : xroom (xMm M) M' ce sl = true) {avs rest : List xV} (hst : st = avs.reverse ++ rest) (hn : avs.length = xMn M') (hrest : xsum rest ≤ 8) {Lc : List xR} (hMet : xKok ρ κ → ∀ sz, b ≤ sz → xMet al b ρ sa dA D EX l M' avs K Lc sz)
    (H : Heap) (locs : List Loc) (ls : Array Slot) (hl : lv_has ls (xMl M) (xdL b ρ sa lv)) (hP : va_P D vwCl (xcx b ρ sa dA 0 K) H) (hS : va_S A s.heap H locs) (hz : al = true → H.size = b + K.length) (hκ : xKok ρ κ) : va_Run p l e (xMm M) s m args below meth c H locs ce sl (xMm M').cells (xMm M').slots (F0 m pc ls (st.map (xdv b ρ sa))) (rest.map (xdv b ρ sa)) (xQp al b ρ sa dA D K.length H.size Lc) (xA b K.length H.size) := by
  obtain ⟨ix, hd, w1, w2⟩ := hc
  obtain ⟨r1, r2⟩ := xroom_ok hrm
  have hts := hC.1.2.2.2
  exact va_runS (As := avs.map (xdv b ρ sa)) (n := xMn M') (bytes := xMc M') (maxL := xMl M') (ret := xMr M') ⟨hC.1.1, hC.1.2.1, hC.2.1, hC.1.2.2.1, hts⟩ (hMet hκ H.size (Nat.le_trans hC.2.2.2.2.2.2.2.2.2 hS.1)) ⟨callB_of (xMn M') hts (xgt_in' (xWs_in hM')) rfl rfl rfl (hts _ hM'.2.1) (hts _ w1) hM'.2.2.1 r1, hts _ w2⟩ ⟨xPp_blind hE, fun U hU hW => ⟨rfl, xPp_at hC hE hP hS hz U hU hW⟩⟩ rfl (by rw [List.length_map]; exact hn) hl.1 (by rw [hst, List.map_append, List.map_reverse]) (lv_room (by rw [xsum_ok]; exact hrest)) hd r2
theorem xp_runV (hC : xCtx b dA D M p s m args meth c A EX) (hE : xEok b sa EX) {M' : xM} (hM' : xMok mt M') (hc : xcV M pc M') (hrm : xroom (xMm M) M' ce sl = true) {avs rest : List xV} {i ci : Nat} {fs : List xV} {q : vw_C} (hKi : K[i]? = some (.inr (ci, fs))) (hq : vwCl[ci]? = some q) (hqn : q.1 = (xMy M').cls) (hst : st = avs.reverse ++ (1, i) :: rest) (hn : avs.length = xMn M') (hrest : xsum rest ≤ 8) {Lc : List xR} (hMet : xKok ρ κ → ∀ sz, b ≤ sz → xMet al b ρ sa dA D EX l M' ((1, i) :: avs) K Lc sz)
    (H : Heap) (locs : List Loc) (ls : Array Slot) (hl : lv_has ls (xMl M) (xdL b ρ sa lv)) (hP : va_P D vwCl (xcx b ρ sa dA 0 K) H) (hS : va_S A s.heap H locs) (hz : al = true → H.size = b + K.length) (hκ : xKok ρ κ) : va_Run p l e (xMm M) s m args below meth c H locs ce sl (xMm M').cells (xMm M').slots (F0 m pc ls (st.map (xdv b ρ sa))) (rest.map (xdv b ρ sa)) (xQp al b ρ sa dA D K.length H.size Lc) (xA b K.length H.size) := by
  obtain ⟨ix, hd, w1, w2, w3⟩ := hc
  obtain ⟨r1, r2⟩ := xroom_ok hrm
  have hts := hC.1.2.2.2
  have hrc := va_recv hC.2.2.1 hP hq (xcx_at hKi)
  rw [hqn] at hrc
  exact va_runV (As := avs.map (xdv b ρ sa)) (b := b + i) (C := (xMy M').cls) (n := xMn M') (bytes := xMc M') (maxL := xMl M') (ret := xMr M') ⟨hC.1.1, hC.1.2.1, hC.2.1, hC.1.2.2.1, hts⟩ (hMet hκ H.size (Nat.le_trans hC.2.2.2.2.2.2.2.2.2 hS.1)) ⟨callB_of (xMn M') hts (xgt_in' (xWs_in hM')) rfl rfl rfl (hts _ hM'.2.1) (hts _ w1) hM'.2.2.1 r1, hts _ w2, hts _ w3⟩ ⟨xPp_blind hE, hrc, fun U hU hW => ⟨rfl, xPp_at hC hE hP hS hz U hU hW⟩⟩ rfl (by rw [List.length_map]; exact hn) hl.1 (by rw [hst, List.map_append, List.map_reverse]; rfl) (lv_room (by rw [xsum_ok]; exact hrest)) hd r2
theorem xp_runI (hC : xCtx b dA D M p s m args meth c A EX) (hE : xEok b sa EX) {M' : xM} (hM' : xMok mt M') (hc : xcI M pc M') (hrm : xroom (xMm M) M' ce sl = true) {avs rest : List xV} {i : Nat} (hst : st = avs.reverse ++ (1, i) :: rest) (hn : avs.length = xMn M') (hrest : xsum rest ≤ 8) {Lc : List xR} (hMet : xKok ρ κ → ∀ sz, b ≤ sz → xMet al b ρ sa dA D EX l M' ((1, i) :: avs) K Lc sz)
    (H : Heap) (locs : List Loc) (ls : Array Slot) (hl : lv_has ls (xMl M) (xdL b ρ sa lv)) (hP : va_P D vwCl (xcx b ρ sa dA 0 K) H) (hS : va_S A s.heap H locs) (hz : al = true → H.size = b + K.length) (hκ : xKok ρ κ) : va_Run p l e (xMm M) s m args below meth c H locs ce sl (xMm M').cells (xMm M').slots (F0 m pc ls (st.map (xdv b ρ sa))) (rest.map (xdv b ρ sa)) (xQp al b ρ sa dA D K.length H.size Lc) (xA b K.length H.size) := by
  obtain ⟨ix, hd, w1, w2, w3, w4⟩ := hc
  obtain ⟨r1, r2⟩ := xroom_ok hrm
  have hts := hC.1.2.2.2
  have hM := hMet hκ H.size (Nat.le_trans hC.2.2.2.2.2.2.2.2.2 hS.1)
  have hpp : PreS s H (va_Pc (((1, i) :: avs).map (xdv b ρ sa)) (xPp al b ρ sa dA D EX K H.size)) (.ref (b + i) :: avs.map (xdv b ρ sa)) := ⟨xPp_blind hE, fun U hU hW => ⟨rfl, xPp_at hC hE hP hS hz U hU hW⟩⟩
  rcases w4 with w4 | ⟨host, w4⟩
  · exact va_runI (As := avs.map (xdv b ρ sa)) (b := b + i) (n := xMn M') (bytes := xMc M') (maxL := xMl M') ⟨hC.1.1, hC.1.2.1, hC.2.1, hC.1.2.2.1, hts⟩ hM ⟨callB_of (ws' := xgt) (xMn M') hts (xgt_in' (xWs_in hM')) (by rw [xWs, w2]) rfl rfl (hts _ hM'.2.1) (hts _ w4) hM'.2.2.1 r1, w1, hts _ w3⟩ hpp rfl (by rw [List.length_map]; exact hn) hl.1 (by rw [hst, List.map_append, List.map_reverse]; rfl) (lv_room (by rw [xsum_ok]; exact hrest)) hd r2
  · exact va_runIN (As := avs.map (xdv b ρ sa)) (b := b + i) (n := xMn M') (bytes := xMc M') (maxL := xMl M') (host := host) ⟨hC.1.1, hC.1.2.1, hC.2.1, hC.1.2.2.1, hts⟩ hM ⟨va_cnB (ws' := xgt) (xMn M') hts (xgt_in' (xWs_in hM')) (by rw [xWs, w2]) rfl rfl ((hE.2.2 s hC.2.2.2.2.2.2.2.2.1).1 _ w4) (hts _ hM'.2.1) hM'.2.2.1 r1, w1, hts _ w3⟩ hpp rfl (by rw [List.length_map]; exact hn) hl.1 (by rw [hst, List.map_append, List.map_reverse]; rfl) (lv_room (by rw [xsum_ok]; exact hrest)) hd r2
theorem xp_zret (hC : xCtx b dA D M p s m args meth c A EX) {n : Nat} {ty : FieldType} (hd : decode (xMc M) pc = .ok (.ireturn, 1)) (hr : xMr M = some ty) (hn : narrow ty (.int (nI n)) = .int (nI n)) (h1 : ce ≤ (xMm M).cells) (h2 : sl ≤ (xMm M).slots) : xGood al b ρ sa dA D M p l e s m args below meth c A Qc pc lv [(0, n)] K ce sl κ [(κ, some (0, n), K)] := by
  intro H locs ls hl hP hS hz hA0 hκ hQ
  refine W.widen (k := (xMm M).cells) (n := (xMm M).slots) h1 h2 ?_
  exact W.zret hC.1.1 hC.1.2.1 (by rw [hC.2.2.2.2.2.1]; exact hr) hn (fun t ht _ => hQ _ List.mem_cons_self hκ t (by rw [ht]; exact hP) (fun q => by rw [ht]; exact hz q) hA0 (hS.F ht)) hS.2.2 hd hC.2.2.2.2.2.2.1
theorem xp_runVs (hC : xCtx b dA D M p s m args meth c A EX) (hE : xEok b sa EX) {M' : xM} (hM' : xMok mt M') (hc : xcV M pc M') (hrm : xroom (xMm M) M' ce sl = true) {avs rest : List xV} {k : Nat} (hk : k < 2) (hcls : (xMy M').cls = "java/lang/String") (hst : st = avs.reverse ++ (5, k) :: rest) (hn : avs.length = xMn M') (hrest : xsum rest ≤ 8) {Lc : List xR} (hMet : xKok ρ κ → ∀ sz, b ≤ sz → xMet al b ρ sa dA D EX l M' ((5, k) :: avs) K Lc sz)
    (H : Heap) (locs : List Loc) (ls : Array Slot) (hl : lv_has ls (xMl M) (xdL b ρ sa lv)) (hP : va_P D vwCl (xcx b ρ sa dA 0 K) H) (hS : va_S A s.heap H locs) (hz : al = true → H.size = b + K.length) (hκ : xKok ρ κ) : va_Run p l e (xMm M) s m args below meth c H locs ce sl (xMm M').cells (xMm M').slots (F0 m pc ls (st.map (xdv b ρ sa))) (rest.map (xdv b ρ sa)) (xQp al b ρ sa dA D K.length H.size Lc) (xA b K.length H.size) := by
  obtain ⟨ix, hd, w1, w2, w3⟩ := hc
  obtain ⟨r1, r2⟩ := xroom_ok hrm
  have hts := hC.1.2.2.2
  have hrc : ∃ cellB : Cell, H[sa k]? = some cellB ∧ cellB.vm.isStatics = false ∧ s.vm.findClass (xMy M').cls = some cellB.cls := by
    obtain ⟨cell, g1, g2, g3, -⟩ := (((hE.2.2 s hC.2.2.2.2.2.2.2.2.1).2.2.1 k hk).1.narrow hC.2.2.2.2.1).kept hS.2.1
    exact ⟨cell, g1, g2, by rw [hcls]; exact g3⟩
  exact va_runV (As := avs.map (xdv b ρ sa)) (b := sa k) (C := (xMy M').cls) (n := xMn M') (bytes := xMc M') (maxL := xMl M') (ret := xMr M') ⟨hC.1.1, hC.1.2.1, hC.2.1, hC.1.2.2.1, hts⟩ (hMet hκ H.size (Nat.le_trans hC.2.2.2.2.2.2.2.2.2 hS.1)) ⟨callB_of (xMn M') hts (xgt_in' (xWs_in hM')) rfl rfl rfl (hts _ hM'.2.1) (hts _ w1) hM'.2.2.1 r1, hts _ w2, hts _ w3⟩ ⟨xPp_blind hE, hrc, fun U hU hW => ⟨rfl, xPp_at hC hE hP hS hz U hU hW⟩⟩ rfl (by rw [List.length_map]; exact hn) hl.1 (by rw [hst, List.map_append, List.map_reverse]; rfl) (lv_room (by rw [xsum_ok]; exact hrest)) hd r2
theorem xcx_app : ∀ (K L : xH) (o : Nat), xcx b ρ sa dA o (K ++ L) = xcx b ρ sa dA o K ++ xcx b ρ sa dA (o + K.length) L
  | [], L, o => by simp [xcx]
  | d :: K, L, o => by
    simp only [List.cons_append, xcx, List.length_cons]
    rw [xcx_app K L (o + 1), show o + 1 + K.length = o + (K.length + 1) by omega]
theorem xcx_rep (x : xC) : ∀ (n o : Nat), xcx b ρ sa dA o (List.replicate n x) = (List.range n).map (fun i => (b + (o + i), xce b ρ sa dA x))
  | 0, o => rfl
  | n + 1, o => by
    rw [List.replicate_succ, xcx, xcx_rep x n (o + 1), List.range_succ_eq_map, List.map_cons, List.map_map]
    congr 1
    apply List.map_congr_left
    intro i _
    simp only [Function.comp]
    rw [show o + 1 + i = o + (i + 1) by omega]
theorem xp_mna (hC : xCtx b dA D M p s m args meth c A EX) (hE : xEok b sa EX) (hr : xSnd al b ρ sa dA D M p l e s m args below meth c A Qc rec) {k n : Nat} (hT : xMa (xMc M) (xMo M) pc nx) (hal : al = true) (hce : ce + (1 + n) ≤ (xMm M).cells) (hsl : sl + (n + n * k) ≤ (xMm M).slots) (hn : n ≤ 1000) (hk : k ≤ 1000) (h : rec nx lv ((1, K.length) :: st) (K ++ (.inl (4, (List.range n).map (fun i => (1, K.length + 1 + i))) :: List.replicate n (.inl (0, List.replicate k (0, 0))))) (ce + 1 + n) (sl + n + n * k) κ = some Ls) : xGood al b ρ sa dA D M p l e s m args below meth c A Qc pc lv ((0, k) :: (0, n) :: st) K ce sl κ Ls := by
  intro H locs ls hl hP hS hz hA0 hκ hQ
  rw [List.map_cons, List.map_cons]
  have hR4 := (hC.2.2.1.2 4 _ rfl).2
  have hR0 := (hC.2.2.1.2 0 _ rfl).2
  refine hT p l e _ s m args below meth c H locs ce sl _ ls _ hC.1 b sa D (xtys dA) _ A s.heap (nI n) (nI k) n k (dA 4) (dA 0) (hE.2.2 s hC.2.2.2.2.2.2.2.2.1) hP hS hR4 hR0 (nI_pos (by omega)) (nI_pos (by omega)) (nI_clamp (by omega)) (nI_clamp (by omega)) hn hk hce hsl (fun H1 hP1 hS1 z1 => ?_)
  have hH := hz hal
  have e1 : xcx b ρ sa dA 0 (K ++ (.inl (4, (List.range n).map (fun i => (1, K.length + 1 + i))) :: List.replicate n (.inl (0, List.replicate k (0, 0))))) = xcx b ρ sa dA 0 K ++ (H.size, .inl (dA 4, n, .inr (.inr (.inr (.inr (fun i => if i < n then some (H.size + 1 + i) else none)))))) :: (List.range n).map (fun i => (H.size + 1 + i, .inl (dA 0, k, .inl (fun _ => 0)))) := by
    rw [xcx_app]
    congr 1
    rw [xcx, xcx_rep]
    congr 1
    · rw [hH, Nat.zero_add]
      congr 1
      show (Sum.inl (dA 4, ((List.range n).map (fun i => ((1, K.length + 1 + i) : xV))).length, _) : va_E) = _
      rw [List.length_map, List.length_range]
      congr 7
      funext j
      simp only [List.getD_eq_getElem?_getD, List.getElem?_map]
      by_cases hj : j < n
      · rw [List.getElem?_range hj, if_pos hj]
        show some (b + (K.length + 1 + j)) = some (b + K.length + 1 + j)
        congr 1
        omega
      · rw [List.getElem?_eq_none (by rw [List.length_range]; omega), if_neg hj]
        rfl
    · apply List.map_congr_left
      intro i _
      rw [hH]
      congr 1
      · omega
      · show (Sum.inl (dA 0, (List.replicate k ((0, 0) : xV)).length, _) : va_E) = _
        rw [List.length_replicate]
        congr 3
        congr 1
        funext j
        simp only [List.getD_eq_getElem?_getD, List.getElem?_replicate]
        split <;> rfl
  rw [← e1] at hP1
  have := hr _ _ _ _ _ _ _ _ h H1 locs ls hl hP1 hS1 (fun q => by
    rw [z1, hH]
    simp only [List.length_append, List.length_cons, List.length_replicate]
    omega) (fun j hj => by
    by_cases hj2 : j < K.length
    · exact hA0 j hj2
    · refine hC.2.2.2.1 _ ?_
      have := hS.1
      omega) hκ hQ
  rw [List.map_cons] at this
  rw [hH]
  exact this
end XD
end
section
section XE
variable {al : Bool} {b : Nat} {ρ : Nat → Int32} {sa : Nat → Nat} {dA : Nat → ClassId} {D : va_G} {M : xM} {p : Program} {l : Launch} {e : Env} {s : State} {m : MethodId} {args : Array Value} {below : List Frame} {meth : Method} {c : Code} {A : Nat → Prop} {Qc : Array Value → State → Outcome → State → Prop} {EX : State → Prop}
variable {mt : List xM} {ds : xD} {rec : xRec} {call : xCal} {pc nx : Nat} {lv : xL} {st : List xV} {K : xH} {ce sl : Nat} {κ : xK} {Ls : List xR}
abbrev xSndC (al : Bool) (b : Nat) (ρ : Nat → Int32) (sa : Nat → Nat) (dA : Nat → ClassId) (D : va_G) (EX : State → Prop) (l : Launch) (mt : List xM) (call : xCal) : Prop :=
  ∀ (mi : Nat) (M' : xM) (avs : List xV) (K : xH) (κ : xK) (Lc : List xR), mt[mi]? = some M' → call M' avs K κ = some Lc → xsum avs ≤ xMl M' → xKok ρ κ → ∀ sz, b ≤ sz → xMet al b ρ sa dA D EX l M' avs K Lc sz
theorem xsum_app (a : List xV) : ∀ c : List xV, xsum (c ++ a) = xsum c + xsum a
  | [] => by simp [xsum]
  | v :: r => by simp [xsum, xsum_app a r, Nat.add_assoc]
theorem xsum_rev : ∀ a : List xV, xsum a.reverse = xsum a
  | [] => rfl
  | v :: r => by
    rw [List.reverse_cons, xsum_app, xsum_rev r]
    simp [xsum, Nat.add_comm]
theorem xcall_un {M' : xM} {n0 mi : Nat} (hmi : mt[mi]? = some M') (h : xh_call mt M rec call n0 nx mi lv st K ce sl κ = some Ls) : xMn M' + n0 ≤ st.length ∧ xroom (xMm M) M' ce sl = true ∧ xsum (st.drop (xMn M' + n0)) ≤ 8 ∧ xsum (st.take (xMn M' + n0)) ≤ xMl M' ∧ ∃ Lc, call M' (st.take (xMn M' + n0)).reverse K κ = some Lc ∧ ∀ lf ∈ Lc, ∃ L, rec nx lv (xput (st.drop (xMn M' + n0)) lf.2.1) lf.2.2 (ce + (xMm M').cells) (sl + (xMm M').slots) lf.1 = some L ∧ ∀ q ∈ L, q ∈ Ls := by
  simp only [xh_call, hmi] at h
  split at h
  · next hc =>
    simp only [Bool.and_eq_true, Nat.ble_eq] at hc
    obtain ⟨h1, h2, h3, h4⟩ := hc
    split at h
    · cases h
    · next L hL => exact ⟨h1, h2, h3, h4, L, hL, fun lf hlf => xall_ok h lf hlf⟩
  · cases h
theorem xcallS_ok (hC : xCtx b dA D M p s m args meth c A EX) (hE : xEok b sa EX) (hmt : ∀ (mi : Nat) (M' : xM), mt[mi]? = some M' → xMok mt M') (hr : xSnd al b ρ sa dA D M p l e s m args below meth c A Qc rec) (hcl : xSndC al b ρ sa dA D EX l mt call) {mi : Nat} {M' : xM} (hmi : mt[mi]? = some M') (hc : xcS M pc M') (h : xh_call mt M rec call 0 (pc + 3) mi lv st K ce sl κ = some Ls) : xGood al b ρ sa dA D M p l e s m args below meth c A Qc pc lv st K ce sl κ Ls := by
  obtain ⟨h1, h2, h3, h4, Lc, h5, h6⟩ := xcall_un hmi h
  rw [Nat.add_zero] at h1 h3 h4 h5 h6
  have hst : st = ((st.take (xMn M')).reverse).reverse ++ st.drop (xMn M') := by rw [List.reverse_reverse, List.take_append_drop]
  exact xp_call hC hr (fun H locs ls hl hP hS hz hκ => xp_runS hC hE (hmt mi M' hmi) hc h2 hst (by rw [List.length_reverse, List.length_take, Nat.min_eq_left h1]) h3 (fun hκ => hcl mi M' _ K κ Lc hmi h5 (by rw [xsum_rev]; exact h4) hκ) H locs ls hl hP hS hz hκ) h6
theorem xsplitG {n : Nat} {v : xV} {r : List xV} (h : st.drop n = v :: r) (hl : n + 1 ≤ st.length) : st = ((st.take n).reverse).reverse ++ v :: r ∧ st.drop (n + 1) = r ∧ (st.take (n + 1)).reverse = v :: (st.take n).reverse ∧ ((st.take n).reverse).length = n := by
  refine ⟨?_, ?_, ?_, ?_⟩
  · rw [List.reverse_reverse, ← h, List.take_append_drop]
  · rw [← List.drop_drop, h]
    rfl
  · have e : st.take (n + 1) = st.take n ++ [v] := by
      rw [List.take_add, h]
      rfl
    rw [e, List.reverse_append]
    rfl
  · rw [List.length_reverse, List.length_take]
    omega
theorem xcallV_ok (hC : xCtx b dA D M p s m args meth c A EX) (hE : xEok b sa EX) (hmt : ∀ (mi : Nat) (M' : xM), mt[mi]? = some M' → xMok mt M') (hr : xSnd al b ρ sa dA D M p l e s m args below meth c A Qc rec) (hcl : xSndC al b ρ sa dA D EX l mt call) {mi i ci : Nat} {M' : xM} {r fs : List xV} {q : vw_C} (hmi : mt[mi]? = some M') (hc : xcV M pc M') (hKi : K[i]? = some (.inr (ci, fs))) (hq : vwCl[ci]? = some q) (hqn : q.1 = (xMy M').cls) (hd : st.drop (xMn M') = (1, i) :: r) (h : xh_call mt M rec call 1 (pc + 3) mi lv st K ce sl κ = some Ls) : xGood al b ρ sa dA D M p l e s m args below meth c A Qc pc lv st K ce sl κ Ls := by
  obtain ⟨h1, h2, h3, h4, Lc, h5, h6⟩ := xcall_un hmi h
  obtain ⟨s1, s2, s3, s4⟩ := xsplitG hd h1
  rw [s2] at h3 h6
  have h7 : xsum (st.take (xMn M' + 1)).reverse ≤ xMl M' := by rw [xsum_rev]; exact h4
  rw [s3] at h5 h7
  exact xp_call hC hr (fun H locs ls hl hP hS hz hκ => xp_runV hC hE (hmt mi M' hmi) hc h2 hKi hq hqn s1 s4 h3 (fun hκ => hcl mi M' _ K κ Lc hmi h5 h7 hκ) H locs ls hl hP hS hz hκ) h6
theorem xcallI_ok (hC : xCtx b dA D M p s m args meth c A EX) (hE : xEok b sa EX) (hmt : ∀ (mi : Nat) (M' : xM), mt[mi]? = some M' → xMok mt M') (hr : xSnd al b ρ sa dA D M p l e s m args below meth c A Qc rec) (hcl : xSndC al b ρ sa dA D EX l mt call) {mi i : Nat} {M' : xM} {r : List xV} (hmi : mt[mi]? = some M') (hc : xcI M pc M') (hd : st.drop (xMn M') = (1, i) :: r) (h : xh_call mt M rec call 1 (pc + 3) mi lv st K ce sl κ = some Ls) : xGood al b ρ sa dA D M p l e s m args below meth c A Qc pc lv st K ce sl κ Ls := by
  obtain ⟨h1, h2, h3, h4, Lc, h5, h6⟩ := xcall_un hmi h
  obtain ⟨s1, s2, s3, s4⟩ := xsplitG hd h1
  rw [s2] at h3 h6
  have h7 : xsum (st.take (xMn M' + 1)).reverse ≤ xMl M' := by rw [xsum_rev]; exact h4
  rw [s3] at h5 h7
  exact xp_call hC hr (fun H locs ls hl hP hS hz hκ => xp_runI hC hE (hmt mi M' hmi) hc h2 s1 s4 h3 (fun hκ => hcl mi M' _ K κ Lc hmi h5 h7 hκ) H locs ls hl hP hS hz hκ) h6
theorem xne0 {n : Nat} (h : 0 < n) (h2 : n < 4294967296) : ¬ nI n = 0 := by
  intro e
  have h3 := sgI_nI h2
  rw [e, show (0 : Int32) = nI 0 from rfl, sgI_nI (by decide)] at h3
  simp only [xsg] at h3
  omega
theorem xdivne {o x y z : Nat} (h : xbin o x y = some z) (ho : o = 9 ∨ o = 10) : ¬ nI y = 0 := by
  rcases ho with rfl | rfl <;>
  · simp only [xbin] at h
    split at h
    · next hc =>
      simp only [Bool.and_eq_true, Nat.blt_eq] at hc
      exact xne0 hc.1.1 (by omega)
    · cases h
theorem xlcmp {x y : Nat} (hx : x < 9223372036854775808) (hy : y < 9223372036854775808) : lg_cmp (lN x) (lN y) = nI (if Nat.blt y x then 1 else if Nat.beq x y then 0 else 4294967295) := by
  have h1 := pk_lLT hy hx
  have h2 := pk_lEQ hx hy
  simp only [lg_cmp, gt_iff_lt, h1, h2]
  by_cases a : y < x
  · have e1 : Nat.blt y x = true := by rw [Nat.blt_eq]; exact a
    rw [if_pos a, e1]
    rfl
  · have e1 : Nat.blt y x = false := by rw [← Bool.not_eq_true, Nat.blt_eq]; exact a
    rw [if_neg a, e1]
    by_cases d : x = y
    · have e2 : Nat.beq x y = true := by rw [Nat.beq_eq]; exact d
      rw [if_pos d, e2]
      rfl
    · have e2 : Nat.beq x y = false := by rw [← Bool.not_eq_true, Nat.beq_eq]; exact d
      rw [if_neg d, e2]
      decide +kernel
theorem xnarB {n : Nat} (h : n < 128) : narrow .byte (.int (nI n)) = .int (nI n) := (by decide +kernel : ∀ n : Fin 128, narrow .byte (.int (nI n.val)) = .int (nI n.val)) ⟨n, h⟩
set_option maxHeartbeats 4000000 in
theorem xstep_ok (hC : xCtx b dA D M p s m args meth c A EX) (hE : xEok b sa EX) (hds : xdok ρ ds) (hsc : ∀ s : State, EX s → ∀ L : Nat, xSc ds = some L → va_X (sa 50) L (fun n => ρ (n + 1)) s s.heap ∧ sa 50 < b) (hmt : ∀ (mi : Nat) (M' : xM), mt[mi]? = some M' → xMok mt M') (hr : xSnd al b ρ sa dA D M p l e s m args below meth c A Qc rec) (hcl : xSndC al b ρ sa dA D EX l mt call) {op : xOp} (hok : xok mt M pc op) (h : xstep mt ds al M rec call op lv st K ce sl κ = some Ls) : xGood al b ρ sa dA D M p l e s m args below meth c A Qc pc lv st K ce sl κ Ls := by
  obtain ⟨tg, nx, a, d, cs⟩ := op
  match tg, hok, h with
  | 0, hok, h => exact xp_T hC hr (st0 := []) (st1 := [(0, a)]) hok h
  | 1, hok, h => exact xp_T hC hr (st0 := []) (st1 := [(4, a)]) hok h
  | 2, hok, h =>
    simp only [xstep] at h
    split at h
    · cases h
    · next v hv =>
      split at h
      · next hk => exact xp_load hC hr hok.1 hok.2 hv hk h
      · cases h
  | 3, hok, h =>
    match st, h with
    | v :: st', h =>
      simp only [xstep] at h
      split at h
      · next hc =>
        simp only [Bool.and_eq_true, Nat.blt_eq] at hc
        exact xp_store hC hr hok.1 hok.2 hc.1 hc.2 h
      · cases h
  | 4, hok, h =>
    simp only [xstep] at h
    split at h
    · next x hv =>
      split at h
      · next hi =>
        rw [Nat.blt_eq] at hi
        exact xp_iinc hC hr hok hv hi h
      · cases h
    · cases h
  | 5, hok, h =>
    match st, h with
    | y :: x :: st', h =>
      simp only [xstep] at h
      split at h
      · next y' x' hy hx =>
        split at h
        · cases h
        · next z hz =>
          refine xp_bin hC hr (o := a) hok (fun hκ => ?_) h
          have ex := xnm_ok hκ (b := b) (sa := sa) x
          have ey := xnm_ok hκ (b := b) (sa := sa) y
          rw [hx] at ex
          rw [hy] at ey
          refine ⟨?_, ?_, ?_, fun ho => ?_⟩
          · rw [← ex.1, ← ex.2]; rfl
          · rw [← ey.1, ← ey.2]; rfl
          · rw [← ex.2, ← ey.2]
            show Value.int (nI z) = .int (fbin a (nI x') (nI y'))
            rw [xbin_ok hz]
          · rw [← ey.2]
            exact xdivne hz ho
      · next y' x' _ =>
        split at h
        · next hc =>
          simp only [Bool.and_eq_true, Nat.blt_eq] at hc
          split at h
          · cases h
          · next k hk =>
            refine xp_bin hC hr (o := a) hok (fun hκ => ?_) h
            have ex := xnm_ok hκ (b := b) (sa := sa) x
            have ey := xnm_ok hκ (b := b) (sa := sa) y
            obtain ⟨i, e1, e2⟩ := xidx_ok hk
            rw [Nat.zero_add] at e1
            subst e1
            have hd := hds _ _ _ _ e2 (by omega)
            rw [xfd, if_neg (by omega)] at hd
            refine ⟨?_, ?_, ?_, fun ho => by omega⟩
            · rw [← ex.1, ← ex.2]; exact xk0 hc.2.1
            · rw [← ey.1, ← ey.2]; exact xk0 hc.1
            · rw [← ex.2, ← ey.2]
              show Value.int (ρ k) = _
              rw [hd]
        · cases h
  | 6, hok, h =>
    match st, h with
    | x :: st', h =>
      simp only [xstep] at h
      split at h
      · next hx =>
        split at h
        · cases h
        · next k hk =>
          obtain ⟨i, e1, e2⟩ := xidx_ok hk
          rw [Nat.zero_add] at e1
          subst e1
          have hd := hds _ _ _ _ e2 (by omega)
          rw [xfd, if_pos rfl] at hd
          refine xp_T hC hr (st0 := [x]) (st1 := [(3, k)]) ?_ h
          have := hok (xdi ρ x)
          rw [← hd] at this
          rw [show [x].map (xdv b ρ sa) = [.int (xdi ρ x)] by rw [← xk0 hx (b := b) (sa := sa)]; rfl]
          exact this
      · cases h
  | 7, hok, h =>
    match st, h with
    | (4, y) :: (4, x) :: st', h =>
      simp only [xstep] at h
      split at h
      · cases h
      · next z hz =>
        refine xp_T hC hr (st0 := [(4, y), (4, x)]) (st1 := [(4, z)]) ?_ h
        have := hok (lN x) (lN y)
        dsimp only at this
        rw [xlb_ok hz] at this
        exact this
  | 8, hok, h =>
    match st, h with
    | (4, y) :: (4, x) :: st', h =>
      simp only [xstep] at h
      split at h
      · next hc =>
        simp only [Bool.and_eq_true, Nat.blt_eq] at hc
        refine xp_T hC hr (st0 := [(4, y), (4, x)]) (st1 := [(0, _)]) ?_ h
        have := hok (lN x) (lN y)
        rw [xlcmp hc.1 hc.2] at this
        exact this
      · cases h
  | 9, hok, h =>
    match st, h with
    | v :: st', h =>
      simp only [xstep] at h
      split at h
      · next hc =>
        rw [Nat.beq_eq] at hc
        exact xp_T hC hr (st0 := [v]) (st1 := [v, v]) (hok _ (by rw [xcat_ok]; exact hc)) h
      · cases h
  | 10, hok, h =>
    match st, h with
    | v :: st', h =>
      simp only [xstep] at h
      split at h
      · next hc =>
        rw [Nat.beq_eq] at hc
        exact xp_T hC hr (st0 := [v]) (st1 := []) (hok _ (by rw [xcat_ok]; exact hc)) h
      · cases h
  | 11, hok, h =>
    match st, h with
    | v :: w :: st', h =>
      simp only [xstep] at h
      split at h
      · next hc =>
        simp only [Bool.and_eq_true, Nat.beq_eq] at hc
        exact xp_T hC hr (st0 := [v, w]) (st1 := [v, w, v, w]) (hok _ _ (by rw [xcat_ok]; exact hc.1) (by rw [xcat_ok]; exact hc.2)) h
      · cases h
  | 12, hok, h =>
    match st, h with
    | x :: st', h =>
      simp only [xstep] at h
      split at h
      · next hx => exact xp_fork0 hC hr hok hx h
      · cases h
  | 13, hok, h =>
    match st, h with
    | y :: x :: st', h =>
      simp only [xstep] at h
      split at h
      · next hx =>
        simp only [Bool.and_eq_true] at hx
        exact xp_fork hC hr hok hx.1 hx.2 h
      · cases h
  | 14, hok, h => exact xp_T hC hr (st0 := []) (st1 := []) hok h
  | 15, hok, h =>
    match st, h with
    | x :: st', h =>
      simp only [xstep] at h
      split at h
      · next hx => exact xp_sw hC hr hok hx h
      · cases h
  | 16, hok, h =>
    match st, h with
    | (1, i) :: st', h =>
      simp only [xstep] at h
      split at h
      · next ci fs hK =>
        split at h
        · next he =>
          rw [Nat.beq_eq] at he
          rw [he] at hK
          split at h
          · cases h
          · next v hv => exact xp_getf hC hr hok hK hv h
        · cases h
      · cases h
  | 17, hok, h =>
    match st, h with
    | v :: (1, i) :: st', h =>
      obtain ⟨ty, fin, z, e1, e2, e3⟩ := hok
      dsimp only at e1
      subst e1
      simp only [xstep] at h
      split at h
      · next ci fs hK =>
        split at h
        · next he =>
          simp only [Bool.and_eq_true, Nat.beq_eq, Nat.blt_eq] at he
          obtain ⟨h1, h2, h3⟩ := he
          rw [h1] at hK h
          exact xp_putf hC hr e2 e3 h2 h3 hK h
        · cases h
      · cases h
  | 18, hok, h =>
    match st, h with
    | (1, i) :: st', h =>
      simp only [xstep] at h
      split at h
      · next t vs hK =>
        split at h
        · next ht =>
          rw [Nat.blt_eq] at ht
          exact xp_alen hC hr hok.1 ht hK h
        · cases h
      · cases h
    | (6, k) :: st', h =>
      simp only [xstep] at h
      split at h
      · next hk =>
        rw [Nat.blt_eq] at hk
        intro H locs ls hl hP hS hz hA0 hκ hQ
        have := hr _ _ _ _ _ _ _ _ h H locs ls hl hP hS hz hA0 hκ hQ
        rw [List.map_cons] at this ⊢
        exact hok.2 p l e _ s m args below meth c H locs ce sl _ ls _ hC.1 b sa A (hE.2.2 s hC.2.2.2.2.2.2.2.2.1) hS hC.2.2.2.2.1 k hk this
      · cases h
  | 19, hok, h =>
    match st, h with
    | j :: (1, i) :: st', h =>
      simp only [xstep] at h
      split at h
      · next t vs n hK hj =>
        split at h
        · next hc =>
          simp only [Bool.and_eq_true, Nat.beq_eq, Nat.blt_eq] at hc
          obtain ⟨h1, hn⟩ := hc
          rw [h1] at hK
          split at h
          · cases h
          · next v hv =>
            split at h
            · next hk => exact xp_read hC hr hok.1 hok.2 hj hn hK hv hk h
            · cases h
        · cases h
      · cases h
  | 20, hok, h =>
    match st, h with
    | j :: (1, i) :: st', h =>
      simp only [xstep] at h
      split at h
      · next vs n hK hj =>
        split at h
        · next hn =>
          rw [Nat.blt_eq] at hn
          split at h
          · next q hv => exact xp_readr hC hr hok hj hn hK hv h
          · cases h
        · cases h
      · cases h
  | 21, hok, h =>
    match st, h with
    | v :: j :: (1, i) :: st', h =>
      simp only [xstep] at h
      split at h
      · next t vs n hK hj =>
        split at h
        · next hc =>
          simp only [Bool.and_eq_true, Nat.beq_eq, Nat.blt_eq] at hc
          obtain ⟨h1, hn, hl, hv⟩ := hc
          obtain ⟨w1, w2, w3⟩ := xwok_ok hds hv
          rw [h1] at hK h w1 w3
          exact xp_write hC hr w1 hok hj hn hK hl w2 w3 h
        · cases h
      · cases h
  | 22, hok, h =>
    simp only [xstep] at h
    split at h
    · next hc =>
      simp only [Bool.and_eq_true, Nat.blt_eq, Nat.ble_eq] at hc
      exact xp_new hC hr hok hc.1 hc.2.1 hc.2.2.1 hc.2.2.2 h
    · cases h
  | 23, hok, h =>
    match st, h with
    | (0, n) :: st', h =>
      simp only [xstep] at h
      split at h
      · next hc =>
        simp only [Bool.and_eq_true, Nat.blt_eq, Nat.ble_eq] at hc
        exact xp_newa hC hr hok.1 hok.2 hc.1 hc.2.1 hc.2.2.1 hc.2.2.2 h
      · cases h
  | 25, hok, h =>
    match st, h with
    | (1, i) :: st', h =>
      simp only [xstep] at h
      split at h
      · next hc =>
        simp only [Bool.and_eq_true, Nat.ble_eq] at hc
        exact xp_oinit hC hr hok hc.1 hc.2 h
      · cases h
  | 26, hok, h =>
    match st, h with
    | (0, n) :: (0, dp) :: (1, d0) :: (0, sp) :: (1, s0) :: st', h =>
      simp only [xstep] at h
      split at h
      · next vs ws hKs hKd =>
        split at h
        · next hc =>
          simp only [Bool.and_eq_true, Nat.ble_eq, Nat.blt_eq] at hc
          obtain ⟨c1, c2, c3, c4, c5, c6⟩ := hc
          exact xp_copy hC hr hok hKs hKd c1 c2 c3 c4 c5 c6 h
        · cases h
      · cases h
  | 27, hok, h =>
    obtain ⟨e1, M', hmi, hc⟩ := hok
    dsimp only at e1 hmi
    subst e1
    exact xcallS_ok hC hE hmt hr hcl hmi hc h
  | 28, hok, h =>
    obtain ⟨e1, M', hmi, hc, q, hq, hqn⟩ := hok
    dsimp only at e1 hmi hq
    subst e1
    simp only [xstep, hmi] at h
    split at h
    · next i r hd =>
      split at h
      · next ci fs hK =>
        split at h
        · next he =>
          rw [Nat.beq_eq] at he
          rw [he] at hK
          exact xcallV_ok hC hE hmt hr hcl hmi hc hK hq hqn hd h
        · cases h
      · cases h
    · cases h
  | 29, hok, h =>
    obtain ⟨e1, M', hmi, hc⟩ := hok
    dsimp only at e1 hmi
    subst e1
    simp only [xstep, hmi] at h
    split at h
    · next i r hd => exact xcallI_ok hC hE hmt hr hcl hmi hc hd h
    · cases h
  | 30, hok, h =>
    match st, h with
    | [v], h =>
      obtain ⟨hd, ty, h1, h2, h3⟩ := hok
      dsimp only at h2
      simp only [xstep] at h
      split at h
      · next hc =>
        simp only [Bool.and_eq_true, Nat.ble_eq] at hc
        cases h
        rw [← h2] at hc
        exact xp_iret hC hd h1 h3 hc.1 hc.2.1 hc.2.2
      · cases h
  | 31, hok, h =>
    match st, h with
    | [v], h =>
      simp only [xstep] at h
      split at h
      · next hc =>
        simp only [Bool.and_eq_true, Nat.ble_eq] at hc
        cases h
        exact xp_lret hC hok.1 hok.2 hc.1 hc.2.1 hc.2.2
      · cases h
  | 32, hok, h =>
    match st, h with
    | [], h =>
      simp only [xstep] at h
      split at h
      · next hc =>
        simp only [Bool.and_eq_true, Nat.ble_eq] at hc
        cases h
        exact xp_vret hC hok.1 hok.2 hc.1 hc.2
      · cases h
  | 24, hok, h =>
    match st, h with
    | (0, k) :: (0, n) :: st', h =>
      simp only [xstep] at h
      split at h
      · next hc =>
        simp only [Bool.and_eq_true, Nat.ble_eq] at hc
        obtain ⟨c1, c2, c3, c4, c5⟩ := hc
        exact xp_mna hC hE hr hok c1 c2 c3 c4 c5 h
      · cases h
  | 33, hok, h =>
    intro H locs ls hl hP hS hz hA0 hκ hQ
    have := hr _ _ _ _ _ _ _ _ h H locs ls hl hP hS hz hA0 hκ hQ
    rw [List.map_cons] at this
    exact hok p l e _ s m args below meth c H locs ce sl _ ls _ hC.1 b sa (hE.2.2 s hC.2.2.2.2.2.2.2.2.1) this
  | 34, hok, h =>
    intro H locs ls hl hP hS hz hA0 hκ hQ
    have := hr _ _ _ _ _ _ _ _ h H locs ls hl hP hS hz hA0 hκ hQ
    rw [List.map_cons] at this
    exact hok p l e _ s m args below meth c H locs ce sl _ ls _ hC.1 b sa A (hE.2.2 s hC.2.2.2.2.2.2.2.2.1) hS hC.2.2.2.2.1 this
  | 35, hok, h =>
    match st, h with
    | (5, k) :: st', h =>
      simp only [xstep] at h
      split at h
      · next hk =>
        rw [Nat.blt_eq] at hk
        intro H locs ls hl hP hS hz hA0 hκ hQ
        have := hr _ _ _ _ _ _ _ _ h H locs ls hl hP hS hz hA0 hκ hQ
        rw [List.map_cons] at this ⊢
        refine hok p l e _ s m args below meth c H locs ce sl _ ls _ hC.1 b sa A (hE.2.2 s hC.2.2.2.2.2.2.2.2.1) hS hC.2.2.2.2.1 k hk ?_
        dsimp only at this ⊢
        by_cases ha : a = 0
        · rw [if_pos (by rw [Nat.beq_eq]; exact ha)] at this
          rw [if_pos ha]
          exact this
        · rw [if_neg (by rw [Nat.beq_eq]; exact ha)] at this
          rw [if_neg ha]
          exact this
      · cases h
  | 36, hok, h =>
    match st, h with
    | y :: x :: st', h =>
      simp only [xstep] at h
      split at h
      · next y' x' hy hx =>
        split at h
        · next hc =>
          simp only [Bool.and_eq_true, Nat.ble_eq, Nat.blt_eq] at hc
          obtain ⟨c1, c2, c3, c4, c5, c6⟩ := hc
          intro H locs ls hl hP hS hz hA0 hκ hQ
          have := hr _ _ _ _ _ _ _ _ h H locs ls hl hP hS hz hA0 hκ hQ
          have ex := (xnm_ok hκ (b := b) (sa := sa) x).1
          have ey := (xnm_ok hκ (b := b) (sa := sa) y).1
          rw [hx] at ex
          rw [hy] at ey
          rw [List.map_cons] at this
          rw [List.map_cons, List.map_cons, ← ex, ← ey]
          refine hok p l e _ s m args below meth c H locs ce sl _ ls _ hC.1 (nI x') (nI y') (by rw [hC.2.1, hl.1]) c3 (by rw [xsum_ok]; exact c4) c5 c6 ?_
          have hcmp := xcb_ok (c := 2) c1 c2
          simp only [xcp] at hcmp
          by_cases hl : nI y' < nI x'
          · rw [if_pos hl]
            rw [if_pos (hcmp.mpr hl)] at this
            exact this
          · rw [if_neg hl]
            rw [if_neg (fun z => hl (hcmp.mp z))] at this
            exact this
        · cases h
      · cases h
  | 37, hok, h =>
    match st, h with
    | j :: (6, k) :: st', h =>
      simp only [xstep] at h
      split at h
      · next n hj =>
        split at h
        · next hc =>
          simp only [Bool.and_eq_true, Nat.blt_eq] at hc
          intro H locs ls hl hP hS hz hA0 hκ hQ
          have := hr _ _ _ _ _ _ _ _ h H locs ls hl hP hS hz hA0 hκ hQ
          have ej := (xnm_ok hκ (b := b) (sa := sa) j).1
          rw [hj] at ej
          rw [List.map_cons] at this
          rw [List.map_cons, List.map_cons, ← ej]
          exact hok p l e _ s m args below meth c H locs ce sl _ ls _ hC.1 b sa A (hE.2.2 s hC.2.2.2.2.2.2.2.2.1) hS hC.2.2.2.2.1 k n hc.1 hc.2.1 hc.2.2 this
        · cases h
      · cases h
  | 38, hok, h =>
    match st, h with
    | (0, n) :: st', h =>
      simp only [xstep] at h
      split at h
      · next hn =>
        rw [Nat.blt_eq] at hn
        refine xp_T hC hr (st0 := [(0, n)]) (st1 := [(0, n)]) ?_ h
        have := hok (nI n)
        rw [pk_char, pk_tn (by omega), Nat.mod_eq_of_lt hn] at this
        exact this
      · cases h
  | 39, hok, h =>
    obtain ⟨e1, M', hmi, hc, hq⟩ := hok
    dsimp only at e1 hmi
    subst e1
    simp only [xstep, hmi] at h
    split at h
    · next k r hd =>
      split at h
      · next hk =>
        rw [Nat.blt_eq] at hk
        obtain ⟨h1, h2, h3, h4, Lc, h5, h6⟩ := xcall_un hmi h
        obtain ⟨s1, s2, s3, s4⟩ := xsplitG hd h1
        rw [s2] at h3 h6
        have h7 : xsum (st.take (xMn M' + 1)).reverse ≤ xMl M' := by rw [xsum_rev]; exact h4
        rw [s3] at h5 h7
        exact xp_call hC hr (fun H locs ls hl hP hS hz hκ => xp_runVs hC hE (hmt _ M' hmi) hc h2 hk hq s1 s4 h3 (fun hκ => hcl _ M' _ K κ Lc hmi h5 h7 hκ) H locs ls hl hP hS hz hκ) h6
      · cases h
    · cases h
  | 40, hok, h =>
    match st, h with
    | [(0, n)], h =>
      obtain ⟨hd, ty, h1, h2⟩ := hok
      dsimp only at h2
      rcases h2 with ⟨e1, e2⟩ | ⟨e1, e2⟩
      · rw [e1] at h
        change (if (Nat.blt n 65536 && (Nat.ble ce (xMm M).cells && Nat.ble sl (xMm M).slots)) = true then some [(κ, some (0, n), K)] else none) = some Ls at h
        split at h
        · next hc =>
          simp only [Bool.and_eq_true, Nat.ble_eq, Nat.blt_eq] at hc
          cases h
          exact xp_zret hC hd h1 (by rw [e2]; exact (pk_charN hc.1).1) hc.2.1 hc.2.2
        · cases h
      · rw [e1] at h
        change (if (Nat.blt n 128 && (Nat.ble ce (xMm M).cells && Nat.ble sl (xMm M).slots)) = true then some [(κ, some (0, n), K)] else none) = some Ls at h
        split at h
        · next hc =>
          simp only [Bool.and_eq_true, Nat.ble_eq, Nat.blt_eq] at hc
          cases h
          exact xp_zret hC hd h1 (by rw [e2]; exact xnarB hc.1) hc.2.1 hc.2.2
        · cases h
  | 41, hok, h =>
    intro H locs ls hl hP hS hz hA0 hκ hQ
    have := hr _ _ _ _ _ _ _ _ h H locs ls hl hP hS hz hA0 hκ hQ
    rw [List.map_cons] at this
    exact hok p l e _ s m args below meth c H locs ce sl _ ls _ hC.1 b sa A (hE.2.2 s hC.2.2.2.2.2.2.2.2.1) hS hC.2.2.2.2.1 this
  | 42, hok, h =>
    match st, h with
    | (5, 50) :: st', h =>
      simp only [xstep] at h
      split at h
      · next L hL =>
        obtain ⟨hX, hq⟩ := hsc s hC.2.2.2.2.2.2.2.2.1 L hL
        intro H locs ls hl hP hS hz hA0 hκ hQ
        have := hr _ _ _ _ _ _ _ _ h H locs ls hl hP hS hz hA0 hκ hQ
        rw [List.map_cons] at this ⊢
        have hb := hC.2.2.2.2.2.2.2.2.2
        exact hok p l e _ s m args below meth c H locs ce sl _ ls _ hC.1 (sa 50) L _ A hX (by omega) (fun z => by have := hC.2.2.2.2.1 _ z; omega) hS this
      · cases h
  | 43, hok, h =>
    match st, h with
    | j :: (5, 50) :: st', h =>
      simp only [xstep] at h
      split at h
      · next L n hL hj =>
        split at h
        · next hc =>
          simp only [Bool.and_eq_true, Nat.blt_eq] at hc
          obtain ⟨hX, hq⟩ := hsc s hC.2.2.2.2.2.2.2.2.1 L hL
          intro H locs ls hl hP hS hz hA0 hκ hQ
          have := hr _ _ _ _ _ _ _ _ h H locs ls hl hP hS hz hA0 hκ hQ
          have ej := (xnm_ok hκ (b := b) (sa := sa) j).1
          rw [hj] at ej
          rw [List.map_cons, (xnm_ok hκ _).1] at this
          rw [List.map_cons, List.map_cons, ← ej]
          have hb := hC.2.2.2.2.2.2.2.2.2
          exact hok p l e _ s m args below meth c H locs ce sl _ ls _ hC.1 (sa 50) L _ A hX (by omega) (fun z => by have := hC.2.2.2.2.1 _ z; omega) hS n hc.1 (by omega) hc.2 this
        · cases h
      · cases h
  | 50, hok, h =>
    match st, h with
    | (1, o) :: y :: x :: (1, i) :: st', h =>
      simp only [xstep] at h
      split at h
      · next hc =>
        simp only [Bool.and_eq_true, Nat.ble_eq, Bool.not_eq_true'] at hc
        obtain ⟨⟨c1, c2, c3, c4, c5, c6, c7, c8⟩, c9⟩ := hc
        intro H locs ls hl hP hS hz hA0 hκ hQ
        rw [List.map_cons, List.map_cons, List.map_cons, List.map_cons, xk0 c1, xk0 c2]
        refine hok p l e _ s m args below meth c H locs ce sl _ ls _ hC.1 b ρ sa dA D K A i o _ _ hC.2.2.1 (hE.2.2 s hC.2.2.2.2.2.2.2.2.1) (by rw [hC.2.1, hl.1]) hP hS hC.2.2.2.2.1 hC.2.2.2.1 hA0 c3 (by rw [xsum_ok]; exact c4) c5 c6 c7 c8 (fun H1 locs1 hP1 hS1 => ?_)
        exact hr _ _ _ _ _ _ _ _ h H1 locs1 ls hl hP1 hS1 (fun q => by rw [q] at c9; cases c9) hA0 hκ hQ
      · cases h
  | 44, hok, h | 45, hok, h | 46, hok, h | 47, hok, h | 48, hok, h | 49, hok, h => cases h
  | n + 51, hok, h => cases h
end XE
end
section
section XF
variable {al : Bool} {b : Nat} {ρ : Nat → Int32} {sa : Nat → Nat} {dA : Nat → ClassId} {D : va_G} {l : Launch} {EX : State → Prop} {mt : List xM} {ds : xD}
/-- a method's contract out of the run of its body -/
theorem xMet_of {M : xM} (hM : xMok mt M) {avs : List xV} {K : xH} {κ : xK} {Lc : List xR} (hs : xsum avs ≤ xMl M) (hκ : xKok ρ κ) {sz : Nat} (hb : b ≤ sz)
    (hrun : ∀ (p : Program) (e : Env) (s : State) (m : MethodId) (args : Array Value) (below : List Frame) (meth : Method) (c : Code) (A : Nat → Prop) (Qc : Array Value → State → Outcome → State → Prop), xCtx b dA D M p s m args meth c A EX → xGood al b ρ sa dA D M p l e s m args below meth c A Qc 0 (xargs 0 avs) [] K 0 0 κ Lc) : xMet al b ρ sa dA D EX l M avs K Lc sz := by
  refine Met.ofW (cc := xMc M) (maxL := xMl M) (ret := xMr M) hM.2.2.2.1 rfl ?_
  intro p e s m args below meth c s₁ B hml hv
  obtain ⟨rfl, hsz, hP, hK, hz, hEX⟩ := hv
  subst hsz
  have hts := atoms_spec (ws := xWs M) B.pre
  have hown : s.vm.findClass (xMy M).cls = some m.cls := findClass_of_methodNamed B.named
  have hC : xCtx b dA D M p s m (avs.map (xdv b ρ sa)).toArray meth c (xA b K.length s.heap.size) EX :=
    ⟨⟨B.exec, B.bytes, by rw [hM.2.2.2.2.1]; exact hown, fun w hw => hts w (List.mem_cons_of_mem _ hw)⟩, hml, hK, fun q h => Or.inr h, fun q h => by
      rcases h with h | h
      · exact h.1
      · omega, B.returns, B.notSynchronized, (name_of_methodNamed B.named B.method).1, hEX, hb⟩
  have hl := lv_entry (avs.map (xdv b ρ sa)) (n := xMl M) (by rw [xlen_ok]; exact hs)
  rw [xargs_ok] at hl
  rw [lg_entry_eq]
  exact hrun p e s m _ below meth c _ _ hC _ [] _ hl hP va_S.rf hz (fun i hi => Or.inl ⟨by omega, by omega⟩) hκ (fun lf hlf k1 t k2 k3 k4 k5 => ⟨lf, hlf, k1, rfl, k2, k3, k4, k5⟩)
theorem xe_ok (hE : xEok b sa EX) (hds : xdok ρ ds) (hsc : ∀ s : State, EX s → ∀ L : Nat, xSc ds = some L → va_X (sa 50) L (fun n => ρ (n + 1)) s s.heap ∧ sa 50 < b) (hmt : ∀ (mi : Nat) (M' : xM), mt[mi]? = some M' → xMok mt M') : ∀ (n : Nat) (mi : Nat) (M : xM), mt[mi]? = some M → ∀ (p : Program) (e : Env) (s : State) (m : MethodId) (args : Array Value) (below : List Frame) (meth : Method) (c : Code) (A : Nat → Prop) (Qc : Array Value → State → Outcome → State → Prop), xCtx b dA D M p s m args meth c A EX → xSnd al b ρ sa dA D M p l e s m args below meth c A Qc (xe mt ds al n M) := by
  intro n
  induction n with
  | zero =>
    intro mi M hmi p e s m args below meth c A Qc hC pc lv st K ce sl κ Ls h
    cases h
  | succ n ih =>
    intro mi M hmi p e s m args below meth c A Qc hC pc lv st K ce sl κ Ls h
    rw [xe_succ] at h
    simp only [xgo] at h
    split at h
    · cases h
    · next op hop =>
      refine xstep_ok hC hE hds hsc hmt (ih mi M hmi p e s m args below meth c A Qc hC) (fun mi' M' avs K κ Lc hmi' hc hs hκ sz hb => ?_) ((hmt mi M hmi).2.2.2.2.2 _ (xfind_mem hop)) h
      exact xMet_of (hmt mi' M' hmi') hs hκ hb (fun p e s m args below meth c A Qc hC => ih mi' M' hmi' p e s m args below meth c A Qc hC _ _ _ _ _ _ _ _ hc)
/-- THE CONTRACT of a method, by a run of it -/
theorem xmet (hE : xEok b sa EX) (hds : xdok ρ ds) (hsc : ∀ s : State, EX s → ∀ L : Nat, xSc ds = some L → va_X (sa 50) L (fun n => ρ (n + 1)) s s.heap ∧ sa 50 < b) (hmt : ∀ (mi : Nat) (M' : xM), mt[mi]? = some M' → xMok mt M') {n mi : Nat} {M : xM} (hmi : mt[mi]? = some M) {avs : List xV} {K : xH} {κ : xK} {Lc : List xR} (h : xe mt ds al n M 0 (xargs 0 avs) [] K 0 0 κ = some Lc) (hs : xsum avs ≤ xMl M) (hκ : xKok ρ κ) {sz : Nat} (hb : b ≤ sz) : xMet al b ρ sa dA D EX l M avs K Lc sz :=
  xMet_of (hmt mi M hmi) hs hκ hb (fun p e s m args below meth c A Qc hC => xe_ok hE hds hsc hmt n mi M hmi p e s m args below meth c A Qc hC _ _ _ _ _ _ _ _ h)
/-- the run of ONE frame, its callees with N steps; where it knows no instruction it asks stp -/
noncomputable def xeT (mt : List xM) (ds : xD) (al : Bool) (N : Nat) (M : xM) (stp : xRec) (n : Nat) : xRec := Nat.rec (fun _ _ _ _ _ _ _ => none) (fun _ ih pc lv st K ce sl κ => match xfind (xMk M) pc with
  | none => stp pc lv st K ce sl κ
  | some op => xstep mt ds al M ih (fun M' avs K' κ' => xe mt ds al N M' 0 (xargs 0 avs) [] K' 0 0 κ') op lv st K ce sl κ) n
theorem xeT_ok (hE : xEok b sa EX) (hds : xdok ρ ds) (hsc : ∀ s : State, EX s → ∀ L : Nat, xSc ds = some L → va_X (sa 50) L (fun n => ρ (n + 1)) s s.heap ∧ sa 50 < b) (hmt : ∀ (mi : Nat) (M' : xM), mt[mi]? = some M' → xMok mt M') {M : xM} (hM : ∀ q ∈ xMk M, xok mt M q.1 q.2) {N : Nat} {stp : xRec} {p : Program} {e : Env} {s : State} {m : MethodId} {args : Array Value} {below : List Frame} {meth : Method} {c : Code} {A : Nat → Prop} {Qc : Array Value → State → Outcome → State → Prop} (hC : xCtx b dA D M p s m args meth c A EX) (hst : xSnd al b ρ sa dA D M p l e s m args below meth c A Qc stp) :
    ∀ n : Nat, xSnd al b ρ sa dA D M p l e s m args below meth c A Qc (xeT mt ds al N M stp n) := by
  intro n
  induction n with
  | zero =>
    intro pc lv st K ce sl κ Ls h
    cases h
  | succ n ih =>
    intro pc lv st K ce sl κ Ls h
    change (match xfind (xMk M) pc with
      | none => stp pc lv st K ce sl κ
      | some op => xstep mt ds al M (xeT mt ds al N M stp n) (fun M' avs K' κ' => xe mt ds al N M' 0 (xargs 0 avs) [] K' 0 0 κ') op lv st K ce sl κ) = some Ls at h
    split at h
    · exact hst _ _ _ _ _ _ _ _ h
    · next op hop =>
      refine xstep_ok hC hE hds hsc hmt ih (fun mi' M' avs K κ Lc hmi' hc hs hκ sz hb => ?_) (hM _ (xfind_mem hop)) h
      exact xMet_of (hmt mi' M' hmi') hs hκ hb (fun p e s m args below meth c A Qc hC => xe_ok hE hds hsc hmt N mi' M' hmi' p e s m args below meth c A Qc hC _ _ _ _ _ _ _ _ hc)
end XF
end
