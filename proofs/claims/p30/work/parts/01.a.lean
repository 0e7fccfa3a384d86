/-! each piece of the tables is among them -/
theorem wt_1 : ∀ w ∈ tables_1_1, w ∈ tables_1 := fun w h => List.mem_append_left _ (h)
theorem wt_2 : ∀ w ∈ tables_1_2, w ∈ tables_1 := fun w h => List.mem_append_right _ (List.mem_append_left _ (h))
theorem wt_3 : ∀ w ∈ tables_1_3, w ∈ tables_1 := fun w h => List.mem_append_right _ (List.mem_append_right _ (List.mem_append_left _ (h)))
theorem wt_4 : ∀ w ∈ tables_1_4, w ∈ tables_1 := fun w h => List.mem_append_right _ (List.mem_append_right _ (List.mem_append_right _ (List.mem_append_left _ (h))))
theorem wt_5 : ∀ w ∈ tables_1_5, w ∈ tables_1 := fun w h => List.mem_append_right _ (List.mem_append_right _ (List.mem_append_right _ (List.mem_append_right _ (List.mem_append_left _ (h)))))
theorem wt_6 : ∀ w ∈ tables_1_6, w ∈ tables_1 := fun w h => List.mem_append_right _ (List.mem_append_right _ (List.mem_append_right _ (List.mem_append_right _ (List.mem_append_right _ (List.mem_append_left _ (h))))))
theorem wt_7 : ∀ w ∈ tables_1_7, w ∈ tables_1 := fun w h => List.mem_append_right _ (List.mem_append_right _ (List.mem_append_right _ (List.mem_append_right _ (List.mem_append_right _ (List.mem_append_right _ (List.mem_append_left _ (h)))))))
theorem wt_8 : ∀ w ∈ tables_1_8, w ∈ tables_1 := fun w h => List.mem_append_right _ (List.mem_append_right _ (List.mem_append_right _ (List.mem_append_right _ (List.mem_append_right _ (List.mem_append_right _ (List.mem_append_right _ (List.mem_append_left _ (h))))))))
theorem wt_9 : ∀ w ∈ tables_1_9, w ∈ tables_1 := fun w h => List.mem_append_right _ (List.mem_append_right _ (List.mem_append_right _ (List.mem_append_right _ (List.mem_append_right _ (List.mem_append_right _ (List.mem_append_right _ (List.mem_append_right _ (h))))))))
-- ===== PART A: goes FIRST, ahead of the names: the tables' words, and 'selects' of the private methods out of them =====
/-- a private method of a class that the tables say can be made, by its rows of tables_1 -/
def lw_okq (q : MethodName × Nat) : Prop := (q.1.cls ≠ "java/lang/invoke/MethodHandle" ∧ q.1.cls ≠ "java/lang/invoke/VarHandle") ∧ Cond.instantiable q.1.cls q.2 ∈ tables_1 ∧ Cond.privateMethod q.1 ∈ tables_1 ∧ Cond.instanceMethod q.1 ∈ tables_1
set_option maxRecDepth 20000 in
theorem lw_p0 : lw_okq (⟨"RansomHymn$Tokens", "packWords", "(Ljava/lang/String;I)V"⟩, 9) := ⟨⟨by decide +kernel, by decide +kernel⟩, wt_1 _ (List.mem_of_getElem? (i := 218) rfl), wt_1 _ (List.mem_of_getElem? (i := 225) rfl), wt_1 _ (List.mem_of_getElem? (i := 226) rfl)⟩
set_option maxRecDepth 20000 in
theorem lw_p1 : lw_okq (⟨"RansomHymn", "tapeNumber", "(I)V"⟩, 15) := ⟨⟨by decide +kernel, by decide +kernel⟩, wt_1 _ (List.mem_of_getElem? (i := 29) rfl), wt_3 _ (List.mem_of_getElem? (i := 127) rfl), wt_3 _ (List.mem_of_getElem? (i := 128) rfl)⟩
set_option maxRecDepth 20000 in
theorem lw_p2 : lw_okq (⟨"RansomHymn$Tokens", "readWord", "()V"⟩, 9) := ⟨⟨by decide +kernel, by decide +kernel⟩, wt_1 _ (List.mem_of_getElem? (i := 218) rfl), wt_3 _ (List.mem_of_getElem? (i := 162) rfl), wt_3 _ (List.mem_of_getElem? (i := 163) rfl)⟩
set_option maxRecDepth 20000 in
theorem lw_p3 : lw_okq (⟨"RansomHymn$Tokens", "readNumber", "()V"⟩, 9) := ⟨⟨by decide +kernel, by decide +kernel⟩, wt_1 _ (List.mem_of_getElem? (i := 218) rfl), wt_3 _ (List.mem_of_getElem? (i := 169) rfl), wt_3 _ (List.mem_of_getElem? (i := 170) rfl)⟩
set_option maxRecDepth 20000 in
theorem lw_p4 : lw_okq (⟨"RansomHymn$Tokens", "readSign", "()V"⟩, 9) := ⟨⟨by decide +kernel, by decide +kernel⟩, wt_1 _ (List.mem_of_getElem? (i := 218) rfl), wt_3 _ (List.mem_of_getElem? (i := 174) rfl), wt_3 _ (List.mem_of_getElem? (i := 175) rfl)⟩
set_option maxRecDepth 20000 in
theorem lw_p5 : lw_okq (⟨"RansomHymn$Teller", "readTavern", "()V"⟩, 4) := ⟨⟨by decide +kernel, by decide +kernel⟩, wt_1 _ (List.mem_of_getElem? (i := 216) rfl), wt_3 _ (List.mem_of_getElem? (i := 181) rfl), wt_3 _ (List.mem_of_getElem? (i := 182) rfl)⟩
set_option maxRecDepth 20000 in
theorem lw_p6 : lw_okq (⟨"RansomHymn$Teller", "begin", "(LRansomHymn$Roll;)I"⟩, 4) := ⟨⟨by decide +kernel, by decide +kernel⟩, wt_1 _ (List.mem_of_getElem? (i := 216) rfl), wt_3 _ (List.mem_of_getElem? (i := 185) rfl), wt_3 _ (List.mem_of_getElem? (i := 186) rfl)⟩
set_option maxRecDepth 20000 in
theorem lw_p7 : lw_okq (⟨"RansomHymn$Teller", "number", "(II)I"⟩, 4) := ⟨⟨by decide +kernel, by decide +kernel⟩, wt_1 _ (List.mem_of_getElem? (i := 216) rfl), wt_3 _ (List.mem_of_getElem? (i := 207) rfl), wt_3 _ (List.mem_of_getElem? (i := 208) rfl)⟩
set_option maxRecDepth 20000 in
theorem lw_p8 : lw_okq (⟨"RansomHymn$Teller", "readVoice", "()V"⟩, 4) := ⟨⟨by decide +kernel, by decide +kernel⟩, wt_1 _ (List.mem_of_getElem? (i := 216) rfl), wt_3 _ (List.mem_of_getElem? (i := 211) rfl), wt_3 _ (List.mem_of_getElem? (i := 212) rfl)⟩
set_option maxRecDepth 20000 in
theorem lw_p9 : lw_okq (⟨"RansomHymn$Teller", "skips", "(I)Z"⟩, 4) := ⟨⟨by decide +kernel, by decide +kernel⟩, wt_1 _ (List.mem_of_getElem? (i := 216) rfl), wt_3 _ (List.mem_of_getElem? (i := 215) rfl), wt_3 _ (List.mem_of_getElem? (i := 216) rfl)⟩
set_option maxRecDepth 20000 in
theorem lw_p10 : lw_okq (⟨"RansomHymn$Teller", "toldTavern", "()I"⟩, 4) := ⟨⟨by decide +kernel, by decide +kernel⟩, wt_1 _ (List.mem_of_getElem? (i := 216) rfl), wt_3 _ (List.mem_of_getElem? (i := 219) rfl), wt_3 _ (List.mem_of_getElem? (i := 220) rfl)⟩
set_option maxRecDepth 20000 in
theorem lw_p11 : lw_okq (⟨"RansomHymn$Teller", "readVerse", "()V"⟩, 4) := ⟨⟨by decide +kernel, by decide +kernel⟩, wt_1 _ (List.mem_of_getElem? (i := 216) rfl), wt_3 _ (List.mem_of_getElem? (i := 223) rfl), wt_3 _ (List.mem_of_getElem? (i := 224) rfl)⟩
set_option maxRecDepth 20000 in
theorem lw_p12 : lw_okq (⟨"RansomHymn$Teller", "readPart", "(I)V"⟩, 4) := ⟨⟨by decide +kernel, by decide +kernel⟩, wt_1 _ (List.mem_of_getElem? (i := 216) rfl), wt_3 _ (List.mem_of_getElem? (i := 230) rfl), wt_3 _ (List.mem_of_getElem? (i := 231) rfl)⟩
set_option maxRecDepth 20000 in
theorem lw_p13 : lw_okq (⟨"RansomHymn$Teller", "readBaker", "()V"⟩, 4) := ⟨⟨by decide +kernel, by decide +kernel⟩, wt_1 _ (List.mem_of_getElem? (i := 216) rfl), wt_3 _ (List.mem_of_getElem? (i := 234) rfl), wt_3 _ (List.mem_of_getElem? (i := 235) rfl)⟩
set_option maxRecDepth 20000 in
theorem lw_p14 : lw_okq (⟨"RansomHymn$Formulas", "readValue", "(LRansomHymn$Tokens;)Z"⟩, 10) := ⟨⟨by decide +kernel, by decide +kernel⟩, wt_1 _ (List.mem_of_getElem? (i := 64) rfl), wt_4 _ (List.mem_of_getElem? (i := 2) rfl), wt_4 _ (List.mem_of_getElem? (i := 3) rfl)⟩
set_option maxRecDepth 20000 in
theorem lw_p15 : lw_okq (⟨"RansomHymn$Formulas", "hold", "(I)Z"⟩, 10) := ⟨⟨by decide +kernel, by decide +kernel⟩, wt_1 _ (List.mem_of_getElem? (i := 64) rfl), wt_4 _ (List.mem_of_getElem? (i := 6) rfl), wt_4 _ (List.mem_of_getElem? (i := 7) rfl)⟩
def lw_privs_1 : List (MethodName × Nat) := [(⟨"RansomHymn$Tokens", "packWords", "(Ljava/lang/String;I)V"⟩, 9), (⟨"RansomHymn", "tapeNumber", "(I)V"⟩, 15), (⟨"RansomHymn$Tokens", "readWord", "()V"⟩, 9), (⟨"RansomHymn$Tokens", "readNumber", "()V"⟩, 9), (⟨"RansomHymn$Tokens", "readSign", "()V"⟩, 9), (⟨"RansomHymn$Teller", "readTavern", "()V"⟩, 4), (⟨"RansomHymn$Teller", "begin", "(LRansomHymn$Roll;)I"⟩, 4), (⟨"RansomHymn$Teller", "number", "(II)I"⟩, 4), (⟨"RansomHymn$Teller", "readVoice", "()V"⟩, 4), (⟨"RansomHymn$Teller", "skips", "(I)Z"⟩, 4), (⟨"RansomHymn$Teller", "toldTavern", "()I"⟩, 4), (⟨"RansomHymn$Teller", "readVerse", "()V"⟩, 4), (⟨"RansomHymn$Teller", "readPart", "(I)V"⟩, 4), (⟨"RansomHymn$Teller", "readBaker", "()V"⟩, 4), (⟨"RansomHymn$Formulas", "readValue", "(LRansomHymn$Tokens;)Z"⟩, 10), (⟨"RansomHymn$Formulas", "hold", "(I)Z"⟩, 10)]
theorem lw_r1 : ∀ q ∈ lw_privs_1, lw_okq q := List.forall_mem_cons.mpr ⟨lw_p0, List.forall_mem_cons.mpr ⟨lw_p1, List.forall_mem_cons.mpr ⟨lw_p2, List.forall_mem_cons.mpr ⟨lw_p3, List.forall_mem_cons.mpr ⟨lw_p4, List.forall_mem_cons.mpr ⟨lw_p5, List.forall_mem_cons.mpr ⟨lw_p6, List.forall_mem_cons.mpr ⟨lw_p7, List.forall_mem_cons.mpr ⟨lw_p8, List.forall_mem_cons.mpr ⟨lw_p9, List.forall_mem_cons.mpr ⟨lw_p10, List.forall_mem_cons.mpr ⟨lw_p11, List.forall_mem_cons.mpr ⟨lw_p12, List.forall_mem_cons.mpr ⟨lw_p13, List.forall_mem_cons.mpr ⟨lw_p14, List.forall_mem_cons.mpr ⟨lw_p15, fun _ h => absurd h List.not_mem_nil⟩⟩⟩⟩⟩⟩⟩⟩⟩⟩⟩⟩⟩⟩⟩⟩
set_option maxRecDepth 20000 in
theorem lw_p16 : lw_okq (⟨"RansomHymn$Formulas", "topLevel", "()I"⟩, 10) := ⟨⟨by decide +kernel, by decide +kernel⟩, wt_1 _ (List.mem_of_getElem? (i := 64) rfl), wt_4 _ (List.mem_of_getElem? (i := 11) rfl), wt_4 _ (List.mem_of_getElem? (i := 12) rfl)⟩
set_option maxRecDepth 20000 in
theorem lw_p17 : lw_okq (⟨"RansomHymn$Formulas", "isRoom", "(LRansomHymn$Tokens;)Z"⟩, 10) := ⟨⟨by decide +kernel, by decide +kernel⟩, wt_1 _ (List.mem_of_getElem? (i := 64) rfl), wt_4 _ (List.mem_of_getElem? (i := 18) rfl), wt_4 _ (List.mem_of_getElem? (i := 19) rfl)⟩
set_option maxRecDepth 20000 in
theorem lw_p18 : lw_okq (⟨"RansomHymn$Formulas", "put", "(II)Z"⟩, 10) := ⟨⟨by decide +kernel, by decide +kernel⟩, wt_1 _ (List.mem_of_getElem? (i := 64) rfl), wt_4 _ (List.mem_of_getElem? (i := 22) rfl), wt_4 _ (List.mem_of_getElem? (i := 23) rfl)⟩
set_option maxRecDepth 20000 in
theorem lw_p19 : lw_okq (⟨"RansomHymn$Formulas", "readSign", "(LRansomHymn$Tokens;)Z"⟩, 10) := ⟨⟨by decide +kernel, by decide +kernel⟩, wt_1 _ (List.mem_of_getElem? (i := 64) rfl), wt_4 _ (List.mem_of_getElem? (i := 26) rfl), wt_4 _ (List.mem_of_getElem? (i := 27) rfl)⟩
set_option maxRecDepth 20000 in
theorem lw_p20 : lw_okq (⟨"RansomHymn$Formulas", "settle", "(I)V"⟩, 10) := ⟨⟨by decide +kernel, by decide +kernel⟩, wt_1 _ (List.mem_of_getElem? (i := 64) rfl), wt_4 _ (List.mem_of_getElem? (i := 30) rfl), wt_4 _ (List.mem_of_getElem? (i := 31) rfl)⟩
set_option maxRecDepth 20000 in
theorem lw_p21 : lw_okq (⟨"RansomHymn$Teller", "loneNumber", "(ZI)I"⟩, 4) := ⟨⟨by decide +kernel, by decide +kernel⟩, wt_1 _ (List.mem_of_getElem? (i := 216) rfl), wt_4 _ (List.mem_of_getElem? (i := 35) rfl), wt_4 _ (List.mem_of_getElem? (i := 36) rfl)⟩
set_option maxRecDepth 20000 in
theorem lw_p22 : lw_okq (⟨"RansomHymn$Teller", "readLaw", "()V"⟩, 4) := ⟨⟨by decide +kernel, by decide +kernel⟩, wt_1 _ (List.mem_of_getElem? (i := 216) rfl), wt_4 _ (List.mem_of_getElem? (i := 40) rfl), wt_4 _ (List.mem_of_getElem? (i := 41) rfl)⟩
set_option maxRecDepth 20000 in
theorem lw_p23 : lw_okq (⟨"RansomHymn", "claimsOn", "(I)I"⟩, 15) := ⟨⟨by decide +kernel, by decide +kernel⟩, wt_1 _ (List.mem_of_getElem? (i := 29) rfl), wt_4 _ (List.mem_of_getElem? (i := 80) rfl), wt_4 _ (List.mem_of_getElem? (i := 81) rfl)⟩
set_option maxRecDepth 20000 in
theorem lw_p24 : lw_okq (⟨"RansomHymn$Laws", "setOwner", "(III)V"⟩, 6) := ⟨⟨by decide +kernel, by decide +kernel⟩, wt_2 _ (List.mem_of_getElem? (i := 166) rfl), wt_4 _ (List.mem_of_getElem? (i := 130) rfl), wt_4 _ (List.mem_of_getElem? (i := 131) rfl)⟩
set_option maxRecDepth 20000 in
theorem lw_p25 : lw_okq (⟨"RansomHymn$Laws", "setMusic", "(IIII)V"⟩, 6) := ⟨⟨by decide +kernel, by decide +kernel⟩, wt_2 _ (List.mem_of_getElem? (i := 166) rfl), wt_4 _ (List.mem_of_getElem? (i := 145) rfl), wt_4 _ (List.mem_of_getElem? (i := 146) rfl)⟩
set_option maxRecDepth 20000 in
theorem lw_p26 : lw_okq (⟨"RansomHymn$Laws", "reckon", "(III)I"⟩, 6) := ⟨⟨by decide +kernel, by decide +kernel⟩, wt_2 _ (List.mem_of_getElem? (i := 166) rfl), wt_4 _ (List.mem_of_getElem? (i := 149) rfl), wt_4 _ (List.mem_of_getElem? (i := 150) rfl)⟩
set_option maxRecDepth 20000 in
theorem lw_p27 : lw_okq (⟨"RansomHymn$Laws", "apply", "(II)V"⟩, 6) := ⟨⟨by decide +kernel, by decide +kernel⟩, wt_2 _ (List.mem_of_getElem? (i := 166) rfl), wt_4 _ (List.mem_of_getElem? (i := 154) rfl), wt_4 _ (List.mem_of_getElem? (i := 155) rfl)⟩
set_option maxRecDepth 20000 in
theorem lw_p28 : lw_okq (⟨"RansomHymn$Laws", "push", "(J)V"⟩, 6) := ⟨⟨by decide +kernel, by decide +kernel⟩, wt_2 _ (List.mem_of_getElem? (i := 166) rfl), wt_4 _ (List.mem_of_getElem? (i := 158) rfl), wt_4 _ (List.mem_of_getElem? (i := 159) rfl)⟩
set_option maxRecDepth 20000 in
theorem lw_p29 : lw_okq (⟨"RansomHymn$Laws", "pop", "()J"⟩, 6) := ⟨⟨by decide +kernel, by decide +kernel⟩, wt_2 _ (List.mem_of_getElem? (i := 166) rfl), wt_4 _ (List.mem_of_getElem? (i := 164) rfl), wt_4 _ (List.mem_of_getElem? (i := 165) rfl)⟩
set_option maxRecDepth 20000 in
theorem lw_p30 : lw_okq (⟨"RansomHymn$Laws", "scale", "(IJJ)J"⟩, 6) := ⟨⟨by decide +kernel, by decide +kernel⟩, wt_2 _ (List.mem_of_getElem? (i := 166) rfl), wt_4 _ (List.mem_of_getElem? (i := 168) rfl), wt_4 _ (List.mem_of_getElem? (i := 169) rfl)⟩
set_option maxRecDepth 20000 in
theorem lw_p31 : lw_okq (⟨"RansomHymn", "singsIn", "(II)Z"⟩, 15) := ⟨⟨by decide +kernel, by decide +kernel⟩, wt_1 _ (List.mem_of_getElem? (i := 29) rfl), wt_4 _ (List.mem_of_getElem? (i := 213) rfl), wt_4 _ (List.mem_of_getElem? (i := 214) rfl)⟩
def lw_privs_2 : List (MethodName × Nat) := [(⟨"RansomHymn$Formulas", "topLevel", "()I"⟩, 10), (⟨"RansomHymn$Formulas", "isRoom", "(LRansomHymn$Tokens;)Z"⟩, 10), (⟨"RansomHymn$Formulas", "put", "(II)Z"⟩, 10), (⟨"RansomHymn$Formulas", "readSign", "(LRansomHymn$Tokens;)Z"⟩, 10), (⟨"RansomHymn$Formulas", "settle", "(I)V"⟩, 10), (⟨"RansomHymn$Teller", "loneNumber", "(ZI)I"⟩, 4), (⟨"RansomHymn$Teller", "readLaw", "()V"⟩, 4), (⟨"RansomHymn", "claimsOn", "(I)I"⟩, 15), (⟨"RansomHymn$Laws", "setOwner", "(III)V"⟩, 6), (⟨"RansomHymn$Laws", "setMusic", "(IIII)V"⟩, 6), (⟨"RansomHymn$Laws", "reckon", "(III)I"⟩, 6), (⟨"RansomHymn$Laws", "apply", "(II)V"⟩, 6), (⟨"RansomHymn$Laws", "push", "(J)V"⟩, 6), (⟨"RansomHymn$Laws", "pop", "()J"⟩, 6), (⟨"RansomHymn$Laws", "scale", "(IJJ)J"⟩, 6), (⟨"RansomHymn", "singsIn", "(II)Z"⟩, 15)]
theorem lw_r2 : ∀ q ∈ lw_privs_2, lw_okq q := List.forall_mem_cons.mpr ⟨lw_p16, List.forall_mem_cons.mpr ⟨lw_p17, List.forall_mem_cons.mpr ⟨lw_p18, List.forall_mem_cons.mpr ⟨lw_p19, List.forall_mem_cons.mpr ⟨lw_p20, List.forall_mem_cons.mpr ⟨lw_p21, List.forall_mem_cons.mpr ⟨lw_p22, List.forall_mem_cons.mpr ⟨lw_p23, List.forall_mem_cons.mpr ⟨lw_p24, List.forall_mem_cons.mpr ⟨lw_p25, List.forall_mem_cons.mpr ⟨lw_p26, List.forall_mem_cons.mpr ⟨lw_p27, List.forall_mem_cons.mpr ⟨lw_p28, List.forall_mem_cons.mpr ⟨lw_p29, List.forall_mem_cons.mpr ⟨lw_p30, List.forall_mem_cons.mpr ⟨lw_p31, fun _ h => absurd h List.not_mem_nil⟩⟩⟩⟩⟩⟩⟩⟩⟩⟩⟩⟩⟩⟩⟩⟩
set_option maxRecDepth 20000 in
theorem lw_p32 : lw_okq (⟨"RansomHymn", "singPart", "(I)I"⟩, 15) := ⟨⟨by decide +kernel, by decide +kernel⟩, wt_1 _ (List.mem_of_getElem? (i := 29) rfl), wt_5 _ (List.mem_of_getElem? (i := 1) rfl), wt_5 _ (List.mem_of_getElem? (i := 2) rfl)⟩
set_option maxRecDepth 20000 in
theorem lw_p33 : lw_okq (⟨"RansomHymn", "crackBoys", "()V"⟩, 15) := ⟨⟨by decide +kernel, by decide +kernel⟩, wt_1 _ (List.mem_of_getElem? (i := 29) rfl), wt_5 _ (List.mem_of_getElem? (i := 7) rfl), wt_5 _ (List.mem_of_getElem? (i := 8) rfl)⟩
set_option maxRecDepth 20000 in
theorem lw_p34 : lw_okq (⟨"RansomHymn$Choice", "weighPart", "(II)V"⟩, 11) := ⟨⟨by decide +kernel, by decide +kernel⟩, wt_2 _ (List.mem_of_getElem? (i := 192) rfl), wt_5 _ (List.mem_of_getElem? (i := 33) rfl), wt_5 _ (List.mem_of_getElem? (i := 34) rfl)⟩
set_option maxRecDepth 20000 in
theorem lw_p35 : lw_okq (⟨"RansomHymn$Choice", "weighRows", "(I)V"⟩, 11) := ⟨⟨by decide +kernel, by decide +kernel⟩, wt_2 _ (List.mem_of_getElem? (i := 192) rfl), wt_5 _ (List.mem_of_getElem? (i := 41) rfl), wt_5 _ (List.mem_of_getElem? (i := 42) rfl)⟩
set_option maxRecDepth 20000 in
theorem lw_p36 : lw_okq (⟨"RansomHymn$Choice", "rowsOf", "(I)I"⟩, 11) := ⟨⟨by decide +kernel, by decide +kernel⟩, wt_2 _ (List.mem_of_getElem? (i := 192) rfl), wt_5 _ (List.mem_of_getElem? (i := 45) rfl), wt_5 _ (List.mem_of_getElem? (i := 46) rfl)⟩
set_option maxRecDepth 20000 in
theorem lw_p37 : lw_okq (⟨"RansomHymn$Choice", "fits", "(II)Z"⟩, 11) := ⟨⟨by decide +kernel, by decide +kernel⟩, wt_2 _ (List.mem_of_getElem? (i := 192) rfl), wt_5 _ (List.mem_of_getElem? (i := 49) rfl), wt_5 _ (List.mem_of_getElem? (i := 50) rfl)⟩
set_option maxRecDepth 20000 in
theorem lw_p38 : lw_okq (⟨"RansomHymn$Choice", "joinRest", "(I)V"⟩, 11) := ⟨⟨by decide +kernel, by decide +kernel⟩, wt_2 _ (List.mem_of_getElem? (i := 192) rfl), wt_5 _ (List.mem_of_getElem? (i := 53) rfl), wt_5 _ (List.mem_of_getElem? (i := 54) rfl)⟩
set_option maxRecDepth 20000 in
theorem lw_p39 : lw_okq (⟨"RansomHymn$Choice", "isBest", "(II)Z"⟩, 11) := ⟨⟨by decide +kernel, by decide +kernel⟩, wt_2 _ (List.mem_of_getElem? (i := 192) rfl), wt_5 _ (List.mem_of_getElem? (i := 75) rfl), wt_5 _ (List.mem_of_getElem? (i := 76) rfl)⟩
set_option maxRecDepth 20000 in
theorem lw_p40 : lw_okq (⟨"RansomHymn$Sale", "sellVerse", "(I)V"⟩, 6) := ⟨⟨by decide +kernel, by decide +kernel⟩, wt_2 _ (List.mem_of_getElem? (i := 236) rfl), wt_5 _ (List.mem_of_getElem? (i := 92) rfl), wt_5 _ (List.mem_of_getElem? (i := 93) rfl)⟩
set_option maxRecDepth 20000 in
theorem lw_p41 : lw_okq (⟨"RansomHymn", "knownCount", "()I"⟩, 15) := ⟨⟨by decide +kernel, by decide +kernel⟩, wt_1 _ (List.mem_of_getElem? (i := 29) rfl), wt_5 _ (List.mem_of_getElem? (i := 122) rfl), wt_5 _ (List.mem_of_getElem? (i := 123) rfl)⟩
set_option maxRecDepth 20000 in
theorem lw_p42 : lw_okq (⟨"RansomHymn", "reachOf", "(I)J"⟩, 15) := ⟨⟨by decide +kernel, by decide +kernel⟩, wt_1 _ (List.mem_of_getElem? (i := 29) rfl), wt_5 _ (List.mem_of_getElem? (i := 149) rfl), wt_5 _ (List.mem_of_getElem? (i := 150) rfl)⟩
set_option maxRecDepth 20000 in
theorem lw_p43 : lw_okq (⟨"RansomHymn", "isRound", "(IIII)Z"⟩, 15) := ⟨⟨by decide +kernel, by decide +kernel⟩, wt_1 _ (List.mem_of_getElem? (i := 29) rfl), wt_5 _ (List.mem_of_getElem? (i := 157) rfl), wt_5 _ (List.mem_of_getElem? (i := 158) rfl)⟩
set_option maxRecDepth 20000 in
theorem lw_p44 : lw_okq (⟨"RansomHymn$Canon", "fill", "(IIJ)V"⟩, 10) := ⟨⟨by decide +kernel, by decide +kernel⟩, wt_3 _ (List.mem_of_getElem? (i := 24) rfl), wt_5 _ (List.mem_of_getElem? (i := 167) rfl), wt_5 _ (List.mem_of_getElem? (i := 168) rfl)⟩
set_option maxRecDepth 20000 in
theorem lw_p45 : lw_okq (⟨"RansomHymn", "shareOf", "(II)I"⟩, 15) := ⟨⟨by decide +kernel, by decide +kernel⟩, wt_1 _ (List.mem_of_getElem? (i := 29) rfl), wt_5 _ (List.mem_of_getElem? (i := 186) rfl), wt_5 _ (List.mem_of_getElem? (i := 187) rfl)⟩
set_option maxRecDepth 20000 in
theorem lw_p46 : lw_okq (⟨"java/lang/Throwable", "fillInStackTrace", "(I)Ljava/lang/Throwable;"⟩, 6) := ⟨⟨by decide +kernel, by decide +kernel⟩, wt_6 _ (List.mem_of_getElem? (i := 26) rfl), wt_6 _ (List.mem_of_getElem? (i := 24) rfl), wt_6 _ (List.mem_of_getElem? (i := 25) rfl)⟩
set_option maxRecDepth 20000 in
theorem lw_p47 : lw_okq (⟨"RansomHymnModel", "begins", "()V"⟩, 69) := ⟨⟨by decide +kernel, by decide +kernel⟩, wt_6 _ (List.mem_of_getElem? (i := 71) rfl), wt_6 _ (List.mem_of_getElem? (i := 77) rfl), wt_6 _ (List.mem_of_getElem? (i := 78) rfl)⟩
def lw_privs_3 : List (MethodName × Nat) := [(⟨"RansomHymn", "singPart", "(I)I"⟩, 15), (⟨"RansomHymn", "crackBoys", "()V"⟩, 15), (⟨"RansomHymn$Choice", "weighPart", "(II)V"⟩, 11), (⟨"RansomHymn$Choice", "weighRows", "(I)V"⟩, 11), (⟨"RansomHymn$Choice", "rowsOf", "(I)I"⟩, 11), (⟨"RansomHymn$Choice", "fits", "(II)Z"⟩, 11), (⟨"RansomHymn$Choice", "joinRest", "(I)V"⟩, 11), (⟨"RansomHymn$Choice", "isBest", "(II)Z"⟩, 11), (⟨"RansomHymn$Sale", "sellVerse", "(I)V"⟩, 6), (⟨"RansomHymn", "knownCount", "()I"⟩, 15), (⟨"RansomHymn", "reachOf", "(I)J"⟩, 15), (⟨"RansomHymn", "isRound", "(IIII)Z"⟩, 15), (⟨"RansomHymn$Canon", "fill", "(IIJ)V"⟩, 10), (⟨"RansomHymn", "shareOf", "(II)I"⟩, 15), (⟨"java/lang/Throwable", "fillInStackTrace", "(I)Ljava/lang/Throwable;"⟩, 6), (⟨"RansomHymnModel", "begins", "()V"⟩, 69)]
theorem lw_r3 : ∀ q ∈ lw_privs_3, lw_okq q := List.forall_mem_cons.mpr ⟨lw_p32, List.forall_mem_cons.mpr ⟨lw_p33, List.forall_mem_cons.mpr ⟨lw_p34, List.forall_mem_cons.mpr ⟨lw_p35, List.forall_mem_cons.mpr ⟨lw_p36, List.forall_mem_cons.mpr ⟨lw_p37, List.forall_mem_cons.mpr ⟨lw_p38, List.forall_mem_cons.mpr ⟨lw_p39, List.forall_mem_cons.mpr ⟨lw_p40, List.forall_mem_cons.mpr ⟨lw_p41, List.forall_mem_cons.mpr ⟨lw_p42, List.forall_mem_cons.mpr ⟨lw_p43, List.forall_mem_cons.mpr ⟨lw_p44, List.forall_mem_cons.mpr ⟨lw_p45, List.forall_mem_cons.mpr ⟨lw_p46, List.forall_mem_cons.mpr ⟨lw_p47, fun _ h => absurd h List.not_mem_nil⟩⟩⟩⟩⟩⟩⟩⟩⟩⟩⟩⟩⟩⟩⟩⟩
set_option maxRecDepth 20000 in
theorem lw_p48 : lw_okq (⟨"RansomHymnModel", "reads", "(II)V"⟩, 69) := ⟨⟨by decide +kernel, by decide +kernel⟩, wt_6 _ (List.mem_of_getElem? (i := 71) rfl), wt_7 _ (List.mem_of_getElem? (i := 58) rfl), wt_7 _ (List.mem_of_getElem? (i := 59) rfl)⟩
set_option maxRecDepth 20000 in
theorem lw_p49 : lw_okq (⟨"RansomHymnModel", "token", "()V"⟩, 69) := ⟨⟨by decide +kernel, by decide +kernel⟩, wt_6 _ (List.mem_of_getElem? (i := 71) rfl), wt_7 _ (List.mem_of_getElem? (i := 62) rfl), wt_7 _ (List.mem_of_getElem? (i := 63) rfl)⟩
set_option maxRecDepth 20000 in
theorem lw_p50 : lw_okq (⟨"RansomHymnModel", "here", "()I"⟩, 69) := ⟨⟨by decide +kernel, by decide +kernel⟩, wt_6 _ (List.mem_of_getElem? (i := 71) rfl), wt_7 _ (List.mem_of_getElem? (i := 66) rfl), wt_7 _ (List.mem_of_getElem? (i := 67) rfl)⟩
set_option maxRecDepth 20000 in
theorem lw_p51 : lw_okq (⟨"RansomHymnModel", "word", "()I"⟩, 69) := ⟨⟨by decide +kernel, by decide +kernel⟩, wt_6 _ (List.mem_of_getElem? (i := 71) rfl), wt_7 _ (List.mem_of_getElem? (i := 73) rfl), wt_7 _ (List.mem_of_getElem? (i := 74) rfl)⟩
set_option maxRecDepth 20000 in
theorem lw_p52 : lw_okq (⟨"RansomHymnModel", "name", "()V"⟩, 69) := ⟨⟨by decide +kernel, by decide +kernel⟩, wt_6 _ (List.mem_of_getElem? (i := 71) rfl), wt_7 _ (List.mem_of_getElem? (i := 80) rfl), wt_7 _ (List.mem_of_getElem? (i := 81) rfl)⟩
set_option maxRecDepth 20000 in
theorem lw_p53 : lw_okq (⟨"RansomHymnModel", "sign", "(I)V"⟩, 69) := ⟨⟨by decide +kernel, by decide +kernel⟩, wt_6 _ (List.mem_of_getElem? (i := 71) rfl), wt_7 _ (List.mem_of_getElem? (i := 88) rfl), wt_7 _ (List.mem_of_getElem? (i := 89) rfl)⟩
set_option maxRecDepth 20000 in
theorem lw_p54 : lw_okq (⟨"RansomHymnModel", "line", "()V"⟩, 69) := ⟨⟨by decide +kernel, by decide +kernel⟩, wt_6 _ (List.mem_of_getElem? (i := 71) rfl), wt_7 _ (List.mem_of_getElem? (i := 92) rfl), wt_7 _ (List.mem_of_getElem? (i := 93) rfl)⟩
set_option maxRecDepth 20000 in
theorem lw_p55 : lw_okq (⟨"RansomHymnModel", "wrong", "(I)V"⟩, 69) := ⟨⟨by decide +kernel, by decide +kernel⟩, wt_6 _ (List.mem_of_getElem? (i := 71) rfl), wt_7 _ (List.mem_of_getElem? (i := 96) rfl), wt_7 _ (List.mem_of_getElem? (i := 97) rfl)⟩
set_option maxRecDepth 20000 in
theorem lw_p56 : lw_okq (⟨"RansomHymnModel", "isFull", "(I)Z"⟩, 69) := ⟨⟨by decide +kernel, by decide +kernel⟩, wt_6 _ (List.mem_of_getElem? (i := 71) rfl), wt_7 _ (List.mem_of_getElem? (i := 100) rfl), wt_7 _ (List.mem_of_getElem? (i := 101) rfl)⟩
set_option maxRecDepth 20000 in
theorem lw_p57 : lw_okq (⟨"RansomHymnModel", "fresher", "(I)I"⟩, 69) := ⟨⟨by decide +kernel, by decide +kernel⟩, wt_6 _ (List.mem_of_getElem? (i := 71) rfl), wt_7 _ (List.mem_of_getElem? (i := 104) rfl), wt_7 _ (List.mem_of_getElem? (i := 105) rfl)⟩
set_option maxRecDepth 20000 in
theorem lw_p58 : lw_okq (⟨"RansomHymnModel", "fresh", "([III)I"⟩, 69) := ⟨⟨by decide +kernel, by decide +kernel⟩, wt_6 _ (List.mem_of_getElem? (i := 71) rfl), wt_7 _ (List.mem_of_getElem? (i := 108) rfl), wt_7 _ (List.mem_of_getElem? (i := 109) rfl)⟩
set_option maxRecDepth 20000 in
theorem lw_p59 : lw_okq (⟨"RansomHymnModel", "numeral", "(II)I"⟩, 69) := ⟨⟨by decide +kernel, by decide +kernel⟩, wt_6 _ (List.mem_of_getElem? (i := 71) rfl), wt_7 _ (List.mem_of_getElem? (i := 115) rfl), wt_7 _ (List.mem_of_getElem? (i := 116) rfl)⟩
set_option maxRecDepth 20000 in
theorem lw_p60 : lw_okq (⟨"RansomHymnModel", "voiceLine", "(I)V"⟩, 69) := ⟨⟨by decide +kernel, by decide +kernel⟩, wt_6 _ (List.mem_of_getElem? (i := 71) rfl), wt_7 _ (List.mem_of_getElem? (i := 119) rfl), wt_7 _ (List.mem_of_getElem? (i := 120) rfl)⟩
set_option maxRecDepth 20000 in
theorem lw_p61 : lw_okq (⟨"RansomHymnModel", "isWord", "(I)Z"⟩, 69) := ⟨⟨by decide +kernel, by decide +kernel⟩, wt_6 _ (List.mem_of_getElem? (i := 71) rfl), wt_7 _ (List.mem_of_getElem? (i := 123) rfl), wt_7 _ (List.mem_of_getElem? (i := 124) rfl)⟩
set_option maxRecDepth 20000 in
theorem lw_p62 : lw_okq (⟨"RansomHymnModel", "tavernAhead", "()I"⟩, 69) := ⟨⟨by decide +kernel, by decide +kernel⟩, wt_6 _ (List.mem_of_getElem? (i := 71) rfl), wt_7 _ (List.mem_of_getElem? (i := 127) rfl), wt_7 _ (List.mem_of_getElem? (i := 128) rfl)⟩
set_option maxRecDepth 20000 in
theorem lw_p63 : lw_okq (⟨"RansomHymnModel", "goOn", "()V"⟩, 69) := ⟨⟨by decide +kernel, by decide +kernel⟩, wt_6 _ (List.mem_of_getElem? (i := 71) rfl), wt_7 _ (List.mem_of_getElem? (i := 131) rfl), wt_7 _ (List.mem_of_getElem? (i := 132) rfl)⟩
def lw_privs_4 : List (MethodName × Nat) := [(⟨"RansomHymnModel", "reads", "(II)V"⟩, 69), (⟨"RansomHymnModel", "token", "()V"⟩, 69), (⟨"RansomHymnModel", "here", "()I"⟩, 69), (⟨"RansomHymnModel", "word", "()I"⟩, 69), (⟨"RansomHymnModel", "name", "()V"⟩, 69), (⟨"RansomHymnModel", "sign", "(I)V"⟩, 69), (⟨"RansomHymnModel", "line", "()V"⟩, 69), (⟨"RansomHymnModel", "wrong", "(I)V"⟩, 69), (⟨"RansomHymnModel", "isFull", "(I)Z"⟩, 69), (⟨"RansomHymnModel", "fresher", "(I)I"⟩, 69), (⟨"RansomHymnModel", "fresh", "([III)I"⟩, 69), (⟨"RansomHymnModel", "numeral", "(II)I"⟩, 69), (⟨"RansomHymnModel", "voiceLine", "(I)V"⟩, 69), (⟨"RansomHymnModel", "isWord", "(I)Z"⟩, 69), (⟨"RansomHymnModel", "tavernAhead", "()I"⟩, 69), (⟨"RansomHymnModel", "goOn", "()V"⟩, 69)]
theorem lw_r4 : ∀ q ∈ lw_privs_4, lw_okq q := List.forall_mem_cons.mpr ⟨lw_p48, List.forall_mem_cons.mpr ⟨lw_p49, List.forall_mem_cons.mpr ⟨lw_p50, List.forall_mem_cons.mpr ⟨lw_p51, List.forall_mem_cons.mpr ⟨lw_p52, List.forall_mem_cons.mpr ⟨lw_p53, List.forall_mem_cons.mpr ⟨lw_p54, List.forall_mem_cons.mpr ⟨lw_p55, List.forall_mem_cons.mpr ⟨lw_p56, List.forall_mem_cons.mpr ⟨lw_p57, List.forall_mem_cons.mpr ⟨lw_p58, List.forall_mem_cons.mpr ⟨lw_p59, List.forall_mem_cons.mpr ⟨lw_p60, List.forall_mem_cons.mpr ⟨lw_p61, List.forall_mem_cons.mpr ⟨lw_p62, List.forall_mem_cons.mpr ⟨lw_p63, fun _ h => absurd h List.not_mem_nil⟩⟩⟩⟩⟩⟩⟩⟩⟩⟩⟩⟩⟩⟩⟩⟩
set_option maxRecDepth 20000 in
theorem lw_p64 : lw_okq (⟨"RansomHymnModel", "verseLine", "(I)V"⟩, 69) := ⟨⟨by decide +kernel, by decide +kernel⟩, wt_6 _ (List.mem_of_getElem? (i := 71) rfl), wt_7 _ (List.mem_of_getElem? (i := 135) rfl), wt_7 _ (List.mem_of_getElem? (i := 136) rfl)⟩
set_option maxRecDepth 20000 in
theorem lw_p65 : lw_okq (⟨"RansomHymnModel", "partLine", "(I)V"⟩, 69) := ⟨⟨by decide +kernel, by decide +kernel⟩, wt_6 _ (List.mem_of_getElem? (i := 71) rfl), wt_7 _ (List.mem_of_getElem? (i := 139) rfl), wt_7 _ (List.mem_of_getElem? (i := 140) rfl)⟩
set_option maxRecDepth 20000 in
theorem lw_p66 : lw_okq (⟨"RansomHymnModel", "sumOf", "(I)V"⟩, 69) := ⟨⟨by decide +kernel, by decide +kernel⟩, wt_6 _ (List.mem_of_getElem? (i := 71) rfl), wt_7 _ (List.mem_of_getElem? (i := 143) rfl), wt_7 _ (List.mem_of_getElem? (i := 144) rfl)⟩
set_option maxRecDepth 20000 in
theorem lw_p67 : lw_okq (⟨"RansomHymnModel", "expression", "()V"⟩, 69) := ⟨⟨by decide +kernel, by decide +kernel⟩, wt_6 _ (List.mem_of_getElem? (i := 71) rfl), wt_7 _ (List.mem_of_getElem? (i := 147) rfl), wt_7 _ (List.mem_of_getElem? (i := 148) rfl)⟩
set_option maxRecDepth 20000 in
theorem lw_p68 : lw_okq (⟨"RansomHymnModel", "conjunction", "()V"⟩, 69) := ⟨⟨by decide +kernel, by decide +kernel⟩, wt_6 _ (List.mem_of_getElem? (i := 71) rfl), wt_7 _ (List.mem_of_getElem? (i := 151) rfl), wt_7 _ (List.mem_of_getElem? (i := 152) rfl)⟩
set_option maxRecDepth 20000 in
theorem lw_p69 : lw_okq (⟨"RansomHymnModel", "negation", "()V"⟩, 69) := ⟨⟨by decide +kernel, by decide +kernel⟩, wt_6 _ (List.mem_of_getElem? (i := 71) rfl), wt_7 _ (List.mem_of_getElem? (i := 155) rfl), wt_7 _ (List.mem_of_getElem? (i := 156) rfl)⟩
set_option maxRecDepth 20000 in
theorem lw_p70 : lw_okq (⟨"RansomHymnModel", "knot", "()V"⟩, 69) := ⟨⟨by decide +kernel, by decide +kernel⟩, wt_6 _ (List.mem_of_getElem? (i := 71) rfl), wt_7 _ (List.mem_of_getElem? (i := 159) rfl), wt_7 _ (List.mem_of_getElem? (i := 160) rfl)⟩
set_option maxRecDepth 20000 in
theorem lw_p71 : lw_okq (⟨"RansomHymnModel", "puts", "(II)V"⟩, 69) := ⟨⟨by decide +kernel, by decide +kernel⟩, wt_6 _ (List.mem_of_getElem? (i := 71) rfl), wt_7 _ (List.mem_of_getElem? (i := 163) rfl), wt_7 _ (List.mem_of_getElem? (i := 164) rfl)⟩
set_option maxRecDepth 20000 in
theorem lw_p72 : lw_okq (⟨"RansomHymnModel", "sum", "()V"⟩, 69) := ⟨⟨by decide +kernel, by decide +kernel⟩, wt_6 _ (List.mem_of_getElem? (i := 71) rfl), wt_7 _ (List.mem_of_getElem? (i := 167) rfl), wt_7 _ (List.mem_of_getElem? (i := 168) rfl)⟩
set_option maxRecDepth 20000 in
theorem lw_p73 : lw_okq (⟨"RansomHymnModel", "product", "()V"⟩, 69) := ⟨⟨by decide +kernel, by decide +kernel⟩, wt_6 _ (List.mem_of_getElem? (i := 71) rfl), wt_7 _ (List.mem_of_getElem? (i := 171) rfl), wt_7 _ (List.mem_of_getElem? (i := 172) rfl)⟩
set_option maxRecDepth 20000 in
theorem lw_p74 : lw_okq (⟨"RansomHymnModel", "primary", "()V"⟩, 69) := ⟨⟨by decide +kernel, by decide +kernel⟩, wt_6 _ (List.mem_of_getElem? (i := 71) rfl), wt_7 _ (List.mem_of_getElem? (i := 175) rfl), wt_7 _ (List.mem_of_getElem? (i := 176) rfl)⟩
set_option maxRecDepth 20000 in
theorem lw_p75 : lw_okq (⟨"RansomHymnModel", "isSign", "(I)Z"⟩, 69) := ⟨⟨by decide +kernel, by decide +kernel⟩, wt_6 _ (List.mem_of_getElem? (i := 71) rfl), wt_7 _ (List.mem_of_getElem? (i := 179) rfl), wt_7 _ (List.mem_of_getElem? (i := 180) rfl)⟩
set_option maxRecDepth 20000 in
theorem lw_p76 : lw_okq (⟨"RansomHymnModel", "lawLine", "()V"⟩, 69) := ⟨⟨by decide +kernel, by decide +kernel⟩, wt_6 _ (List.mem_of_getElem? (i := 71) rfl), wt_7 _ (List.mem_of_getElem? (i := 183) rfl), wt_7 _ (List.mem_of_getElem? (i := 184) rfl)⟩
set_option maxRecDepth 20000 in
theorem lw_p77 : lw_okq (⟨"RansomHymnModel", "isVoice", "(I)Z"⟩, 69) := ⟨⟨by decide +kernel, by decide +kernel⟩, wt_6 _ (List.mem_of_getElem? (i := 71) rfl), wt_7 _ (List.mem_of_getElem? (i := 202) rfl), wt_7 _ (List.mem_of_getElem? (i := 203) rfl)⟩
set_option maxRecDepth 20000 in
theorem lw_p78 : lw_okq (⟨"RansomHymnModel", "isCracked", "(I)Z"⟩, 69) := ⟨⟨by decide +kernel, by decide +kernel⟩, wt_6 _ (List.mem_of_getElem? (i := 71) rfl), wt_7 _ (List.mem_of_getElem? (i := 206) rfl), wt_7 _ (List.mem_of_getElem? (i := 207) rfl)⟩
set_option maxRecDepth 20000 in
theorem lw_p79 : lw_okq (⟨"RansomHymnModel", "isTavern", "(I)Z"⟩, 69) := ⟨⟨by decide +kernel, by decide +kernel⟩, wt_6 _ (List.mem_of_getElem? (i := 71) rfl), wt_7 _ (List.mem_of_getElem? (i := 214) rfl), wt_7 _ (List.mem_of_getElem? (i := 215) rfl)⟩
def lw_privs_5 : List (MethodName × Nat) := [(⟨"RansomHymnModel", "verseLine", "(I)V"⟩, 69), (⟨"RansomHymnModel", "partLine", "(I)V"⟩, 69), (⟨"RansomHymnModel", "sumOf", "(I)V"⟩, 69), (⟨"RansomHymnModel", "expression", "()V"⟩, 69), (⟨"RansomHymnModel", "conjunction", "()V"⟩, 69), (⟨"RansomHymnModel", "negation", "()V"⟩, 69), (⟨"RansomHymnModel", "knot", "()V"⟩, 69), (⟨"RansomHymnModel", "puts", "(II)V"⟩, 69), (⟨"RansomHymnModel", "sum", "()V"⟩, 69), (⟨"RansomHymnModel", "product", "()V"⟩, 69), (⟨"RansomHymnModel", "primary", "()V"⟩, 69), (⟨"RansomHymnModel", "isSign", "(I)Z"⟩, 69), (⟨"RansomHymnModel", "lawLine", "()V"⟩, 69), (⟨"RansomHymnModel", "isVoice", "(I)Z"⟩, 69), (⟨"RansomHymnModel", "isCracked", "(I)Z"⟩, 69), (⟨"RansomHymnModel", "isTavern", "(I)Z"⟩, 69)]
theorem lw_r5 : ∀ q ∈ lw_privs_5, lw_okq q := List.forall_mem_cons.mpr ⟨lw_p64, List.forall_mem_cons.mpr ⟨lw_p65, List.forall_mem_cons.mpr ⟨lw_p66, List.forall_mem_cons.mpr ⟨lw_p67, List.forall_mem_cons.mpr ⟨lw_p68, List.forall_mem_cons.mpr ⟨lw_p69, List.forall_mem_cons.mpr ⟨lw_p70, List.forall_mem_cons.mpr ⟨lw_p71, List.forall_mem_cons.mpr ⟨lw_p72, List.forall_mem_cons.mpr ⟨lw_p73, List.forall_mem_cons.mpr ⟨lw_p74, List.forall_mem_cons.mpr ⟨lw_p75, List.forall_mem_cons.mpr ⟨lw_p76, List.forall_mem_cons.mpr ⟨lw_p77, List.forall_mem_cons.mpr ⟨lw_p78, List.forall_mem_cons.mpr ⟨lw_p79, fun _ h => absurd h List.not_mem_nil⟩⟩⟩⟩⟩⟩⟩⟩⟩⟩⟩⟩⟩⟩⟩⟩
set_option maxRecDepth 20000 in
theorem lw_p80 : lw_okq (⟨"RansomHymnModel", "isVerse", "(I)Z"⟩, 69) := ⟨⟨by decide +kernel, by decide +kernel⟩, wt_6 _ (List.mem_of_getElem? (i := 71) rfl), wt_7 _ (List.mem_of_getElem? (i := 222) rfl), wt_7 _ (List.mem_of_getElem? (i := 223) rfl)⟩
set_option maxRecDepth 20000 in
theorem lw_p81 : lw_okq (⟨"RansomHymnModel", "isPart", "(II)Z"⟩, 69) := ⟨⟨by decide +kernel, by decide +kernel⟩, wt_6 _ (List.mem_of_getElem? (i := 71) rfl), wt_7 _ (List.mem_of_getElem? (i := 226) rfl), wt_7 _ (List.mem_of_getElem? (i := 227) rfl)⟩
set_option maxRecDepth 20000 in
theorem lw_p82 : lw_okq (⟨"RansomHymnModel", "dueOf", "(II)I"⟩, 69) := ⟨⟨by decide +kernel, by decide +kernel⟩, wt_6 _ (List.mem_of_getElem? (i := 71) rfl), wt_7 _ (List.mem_of_getElem? (i := 238) rfl), wt_7 _ (List.mem_of_getElem? (i := 239) rfl)⟩
set_option maxRecDepth 20000 in
theorem lw_p83 : lw_okq (⟨"RansomHymnModel", "calls", "(I)V"⟩, 69) := ⟨⟨by decide +kernel, by decide +kernel⟩, wt_6 _ (List.mem_of_getElem? (i := 71) rfl), wt_8 _ (List.mem_of_getElem? (i := 2) rfl), wt_8 _ (List.mem_of_getElem? (i := 3) rfl)⟩
set_option maxRecDepth 20000 in
theorem lw_p84 : lw_okq (⟨"RansomHymnModel", "soundsOf", "(II)I"⟩, 69) := ⟨⟨by decide +kernel, by decide +kernel⟩, wt_6 _ (List.mem_of_getElem? (i := 71) rfl), wt_8 _ (List.mem_of_getElem? (i := 6) rfl), wt_8 _ (List.mem_of_getElem? (i := 7) rfl)⟩
set_option maxRecDepth 20000 in
theorem lw_p85 : lw_okq (⟨"RansomHymnModel", "isSounded", "(III)Z"⟩, 69) := ⟨⟨by decide +kernel, by decide +kernel⟩, wt_6 _ (List.mem_of_getElem? (i := 71) rfl), wt_8 _ (List.mem_of_getElem? (i := 10) rfl), wt_8 _ (List.mem_of_getElem? (i := 11) rfl)⟩
set_option maxRecDepth 20000 in
theorem lw_p86 : lw_okq (⟨"RansomHymnModel", "reaches", "(II)Z"⟩, 69) := ⟨⟨by decide +kernel, by decide +kernel⟩, wt_6 _ (List.mem_of_getElem? (i := 71) rfl), wt_8 _ (List.mem_of_getElem? (i := 14) rfl), wt_8 _ (List.mem_of_getElem? (i := 15) rfl)⟩
set_option maxRecDepth 20000 in
theorem lw_p87 : lw_okq (⟨"RansomHymnModel", "restsOf", "(I)I"⟩, 69) := ⟨⟨by decide +kernel, by decide +kernel⟩, wt_6 _ (List.mem_of_getElem? (i := 71) rfl), wt_8 _ (List.mem_of_getElem? (i := 18) rfl), wt_8 _ (List.mem_of_getElem? (i := 19) rfl)⟩
set_option maxRecDepth 20000 in
theorem lw_p88 : lw_okq (⟨"RansomHymnModel", "highOf", "(I)I"⟩, 69) := ⟨⟨by decide +kernel, by decide +kernel⟩, wt_6 _ (List.mem_of_getElem? (i := 71) rfl), wt_8 _ (List.mem_of_getElem? (i := 22) rfl), wt_8 _ (List.mem_of_getElem? (i := 23) rfl)⟩
set_option maxRecDepth 20000 in
theorem lw_p89 : lw_okq (⟨"RansomHymnModel", "within", "(III)I"⟩, 69) := ⟨⟨by decide +kernel, by decide +kernel⟩, wt_6 _ (List.mem_of_getElem? (i := 71) rfl), wt_8 _ (List.mem_of_getElem? (i := 27) rfl), wt_8 _ (List.mem_of_getElem? (i := 28) rfl)⟩
set_option maxRecDepth 20000 in
theorem lw_p90 : lw_okq (⟨"RansomHymnModel", "goes", "(I)Z"⟩, 69) := ⟨⟨by decide +kernel, by decide +kernel⟩, wt_6 _ (List.mem_of_getElem? (i := 71) rfl), wt_8 _ (List.mem_of_getElem? (i := 31) rfl), wt_8 _ (List.mem_of_getElem? (i := 32) rfl)⟩
set_option maxRecDepth 20000 in
theorem lw_p91 : lw_okq (⟨"RansomHymnModel", "works", "(I)Z"⟩, 69) := ⟨⟨by decide +kernel, by decide +kernel⟩, wt_6 _ (List.mem_of_getElem? (i := 71) rfl), wt_8 _ (List.mem_of_getElem? (i := 35) rfl), wt_8 _ (List.mem_of_getElem? (i := 36) rfl)⟩
set_option maxRecDepth 20000 in
theorem lw_p92 : lw_okq (⟨"RansomHymnModel", "bidOf", "(III)I"⟩, 69) := ⟨⟨by decide +kernel, by decide +kernel⟩, wt_6 _ (List.mem_of_getElem? (i := 71) rfl), wt_8 _ (List.mem_of_getElem? (i := 55) rfl), wt_8 _ (List.mem_of_getElem? (i := 56) rfl)⟩
set_option maxRecDepth 20000 in
theorem lw_p93 : lw_okq (⟨"RansomHymnModel", "crackOf", "(II)I"⟩, 69) := ⟨⟨by decide +kernel, by decide +kernel⟩, wt_6 _ (List.mem_of_getElem? (i := 71) rfl), wt_8 _ (List.mem_of_getElem? (i := 64) rfl), wt_8 _ (List.mem_of_getElem? (i := 65) rfl)⟩
set_option maxRecDepth 20000 in
theorem lw_p94 : lw_okq (⟨"RansomHymnModel", "singsIn", "(II)Z"⟩, 69) := ⟨⟨by decide +kernel, by decide +kernel⟩, wt_6 _ (List.mem_of_getElem? (i := 71) rfl), wt_8 _ (List.mem_of_getElem? (i := 72) rfl), wt_8 _ (List.mem_of_getElem? (i := 73) rfl)⟩
set_option maxRecDepth 20000 in
theorem lw_p95 : lw_okq (⟨"RansomHymnModel", "draw", "()I"⟩, 69) := ⟨⟨by decide +kernel, by decide +kernel⟩, wt_6 _ (List.mem_of_getElem? (i := 71) rfl), wt_8 _ (List.mem_of_getElem? (i := 92) rfl), wt_8 _ (List.mem_of_getElem? (i := 93) rfl)⟩
def lw_privs_6 : List (MethodName × Nat) := [(⟨"RansomHymnModel", "isVerse", "(I)Z"⟩, 69), (⟨"RansomHymnModel", "isPart", "(II)Z"⟩, 69), (⟨"RansomHymnModel", "dueOf", "(II)I"⟩, 69), (⟨"RansomHymnModel", "calls", "(I)V"⟩, 69), (⟨"RansomHymnModel", "soundsOf", "(II)I"⟩, 69), (⟨"RansomHymnModel", "isSounded", "(III)Z"⟩, 69), (⟨"RansomHymnModel", "reaches", "(II)Z"⟩, 69), (⟨"RansomHymnModel", "restsOf", "(I)I"⟩, 69), (⟨"RansomHymnModel", "highOf", "(I)I"⟩, 69), (⟨"RansomHymnModel", "within", "(III)I"⟩, 69), (⟨"RansomHymnModel", "goes", "(I)Z"⟩, 69), (⟨"RansomHymnModel", "works", "(I)Z"⟩, 69), (⟨"RansomHymnModel", "bidOf", "(III)I"⟩, 69), (⟨"RansomHymnModel", "crackOf", "(II)I"⟩, 69), (⟨"RansomHymnModel", "singsIn", "(II)Z"⟩, 69), (⟨"RansomHymnModel", "draw", "()I"⟩, 69)]
theorem lw_r6 : ∀ q ∈ lw_privs_6, lw_okq q := List.forall_mem_cons.mpr ⟨lw_p80, List.forall_mem_cons.mpr ⟨lw_p81, List.forall_mem_cons.mpr ⟨lw_p82, List.forall_mem_cons.mpr ⟨lw_p83, List.forall_mem_cons.mpr ⟨lw_p84, List.forall_mem_cons.mpr ⟨lw_p85, List.forall_mem_cons.mpr ⟨lw_p86, List.forall_mem_cons.mpr ⟨lw_p87, List.forall_mem_cons.mpr ⟨lw_p88, List.forall_mem_cons.mpr ⟨lw_p89, List.forall_mem_cons.mpr ⟨lw_p90, List.forall_mem_cons.mpr ⟨lw_p91, List.forall_mem_cons.mpr ⟨lw_p92, List.forall_mem_cons.mpr ⟨lw_p93, List.forall_mem_cons.mpr ⟨lw_p94, List.forall_mem_cons.mpr ⟨lw_p95, fun _ h => absurd h List.not_mem_nil⟩⟩⟩⟩⟩⟩⟩⟩⟩⟩⟩⟩⟩⟩⟩⟩
set_option maxRecDepth 20000 in
theorem lw_p96 : lw_okq (⟨"RansomHymnModel", "layBest", "(I)V"⟩, 69) := ⟨⟨by decide +kernel, by decide +kernel⟩, wt_6 _ (List.mem_of_getElem? (i := 71) rfl), wt_8 _ (List.mem_of_getElem? (i := 105) rfl), wt_8 _ (List.mem_of_getElem? (i := 106) rfl)⟩
set_option maxRecDepth 20000 in
theorem lw_p97 : lw_okq (⟨"RansomHymnModel", "layDues", "()V"⟩, 69) := ⟨⟨by decide +kernel, by decide +kernel⟩, wt_6 _ (List.mem_of_getElem? (i := 71) rfl), wt_8 _ (List.mem_of_getElem? (i := 109) rfl), wt_8 _ (List.mem_of_getElem? (i := 110) rfl)⟩
set_option maxRecDepth 20000 in
theorem lw_p98 : lw_okq (⟨"RansomHymnModel", "starts", "()V"⟩, 69) := ⟨⟨by decide +kernel, by decide +kernel⟩, wt_6 _ (List.mem_of_getElem? (i := 71) rfl), wt_8 _ (List.mem_of_getElem? (i := 113) rfl), wt_8 _ (List.mem_of_getElem? (i := 114) rfl)⟩
set_option maxRecDepth 20000 in
theorem lw_p99 : lw_okq (⟨"RansomHymnModel", "mayBe", "(I)Z"⟩, 69) := ⟨⟨by decide +kernel, by decide +kernel⟩, wt_6 _ (List.mem_of_getElem? (i := 71) rfl), wt_8 _ (List.mem_of_getElem? (i := 117) rfl), wt_8 _ (List.mem_of_getElem? (i := 118) rfl)⟩
set_option maxRecDepth 20000 in
theorem lw_p100 : lw_okq (⟨"RansomHymnModel", "costOf", "(I)I"⟩, 69) := ⟨⟨by decide +kernel, by decide +kernel⟩, wt_6 _ (List.mem_of_getElem? (i := 71) rfl), wt_8 _ (List.mem_of_getElem? (i := 121) rfl), wt_8 _ (List.mem_of_getElem? (i := 122) rfl)⟩
set_option maxRecDepth 20000 in
theorem lw_p101 : lw_okq (⟨"RansomHymnModel", "gainOf", "(I)I"⟩, 69) := ⟨⟨by decide +kernel, by decide +kernel⟩, wt_6 _ (List.mem_of_getElem? (i := 71) rfl), wt_8 _ (List.mem_of_getElem? (i := 125) rfl), wt_8 _ (List.mem_of_getElem? (i := 126) rfl)⟩
set_option maxRecDepth 20000 in
theorem lw_p102 : lw_okq (⟨"RansomHymnModel", "tries", "(IIII)V"⟩, 69) := ⟨⟨by decide +kernel, by decide +kernel⟩, wt_6 _ (List.mem_of_getElem? (i := 71) rfl), wt_8 _ (List.mem_of_getElem? (i := 129) rfl), wt_8 _ (List.mem_of_getElem? (i := 130) rfl)⟩
set_option maxRecDepth 20000 in
theorem lw_p103 : lw_okq (⟨"RansomHymnModel", "goesNext", "(I)Z"⟩, 69) := ⟨⟨by decide +kernel, by decide +kernel⟩, wt_6 _ (List.mem_of_getElem? (i := 71) rfl), wt_8 _ (List.mem_of_getElem? (i := 133) rfl), wt_8 _ (List.mem_of_getElem? (i := 134) rfl)⟩
set_option maxRecDepth 20000 in
theorem lw_p104 : lw_okq (⟨"RansomHymnModel", "isBest", "(II)Z"⟩, 69) := ⟨⟨by decide +kernel, by decide +kernel⟩, wt_6 _ (List.mem_of_getElem? (i := 71) rfl), wt_8 _ (List.mem_of_getElem? (i := 141) rfl), wt_8 _ (List.mem_of_getElem? (i := 142) rfl)⟩
set_option maxRecDepth 20000 in
theorem lw_p105 : lw_okq (⟨"RansomHymnModel", "areVerses", "(I)Z"⟩, 69) := ⟨⟨by decide +kernel, by decide +kernel⟩, wt_6 _ (List.mem_of_getElem? (i := 71) rfl), wt_8 _ (List.mem_of_getElem? (i := 149) rfl), wt_8 _ (List.mem_of_getElem? (i := 150) rfl)⟩
set_option maxRecDepth 20000 in
theorem lw_p106 : lw_okq (⟨"RansomHymnModel", "sells", "(II)I"⟩, 69) := ⟨⟨by decide +kernel, by decide +kernel⟩, wt_6 _ (List.mem_of_getElem? (i := 71) rfl), wt_8 _ (List.mem_of_getElem? (i := 153) rfl), wt_8 _ (List.mem_of_getElem? (i := 154) rfl)⟩
set_option maxRecDepth 20000 in
theorem lw_p107 : lw_okq (⟨"RansomHymnModel", "strikes", "()V"⟩, 69) := ⟨⟨by decide +kernel, by decide +kernel⟩, wt_6 _ (List.mem_of_getElem? (i := 71) rfl), wt_8 _ (List.mem_of_getElem? (i := 177) rfl), wt_8 _ (List.mem_of_getElem? (i := 178) rfl)⟩
set_option maxRecDepth 20000 in
theorem lw_p108 : lw_okq (⟨"RansomHymnModel", "knownMany", "()I"⟩, 69) := ⟨⟨by decide +kernel, by decide +kernel⟩, wt_6 _ (List.mem_of_getElem? (i := 71) rfl), wt_8 _ (List.mem_of_getElem? (i := 181) rfl), wt_8 _ (List.mem_of_getElem? (i := 182) rfl)⟩
set_option maxRecDepth 20000 in
theorem lw_p109 : lw_okq (⟨"RansomHymnModel", "isThief", "(I)Z"⟩, 69) := ⟨⟨by decide +kernel, by decide +kernel⟩, wt_6 _ (List.mem_of_getElem? (i := 71) rfl), wt_8 _ (List.mem_of_getElem? (i := 185) rfl), wt_8 _ (List.mem_of_getElem? (i := 186) rfl)⟩
set_option maxRecDepth 20000 in
theorem lw_p110 : lw_okq (⟨"RansomHymnModel", "isHummed", "(I)Z"⟩, 69) := ⟨⟨by decide +kernel, by decide +kernel⟩, wt_6 _ (List.mem_of_getElem? (i := 71) rfl), wt_8 _ (List.mem_of_getElem? (i := 189) rfl), wt_8 _ (List.mem_of_getElem? (i := 190) rfl)⟩
set_option maxRecDepth 20000 in
theorem lw_p111 : lw_okq (⟨"RansomHymnModel", "isGang", "(I)Z"⟩, 69) := ⟨⟨by decide +kernel, by decide +kernel⟩, wt_6 _ (List.mem_of_getElem? (i := 71) rfl), wt_8 _ (List.mem_of_getElem? (i := 208) rfl), wt_8 _ (List.mem_of_getElem? (i := 209) rfl)⟩
def lw_privs_7 : List (MethodName × Nat) := [(⟨"RansomHymnModel", "layBest", "(I)V"⟩, 69), (⟨"RansomHymnModel", "layDues", "()V"⟩, 69), (⟨"RansomHymnModel", "starts", "()V"⟩, 69), (⟨"RansomHymnModel", "mayBe", "(I)Z"⟩, 69), (⟨"RansomHymnModel", "costOf", "(I)I"⟩, 69), (⟨"RansomHymnModel", "gainOf", "(I)I"⟩, 69), (⟨"RansomHymnModel", "tries", "(IIII)V"⟩, 69), (⟨"RansomHymnModel", "goesNext", "(I)Z"⟩, 69), (⟨"RansomHymnModel", "isBest", "(II)Z"⟩, 69), (⟨"RansomHymnModel", "areVerses", "(I)Z"⟩, 69), (⟨"RansomHymnModel", "sells", "(II)I"⟩, 69), (⟨"RansomHymnModel", "strikes", "()V"⟩, 69), (⟨"RansomHymnModel", "knownMany", "()I"⟩, 69), (⟨"RansomHymnModel", "isThief", "(I)Z"⟩, 69), (⟨"RansomHymnModel", "isHummed", "(I)Z"⟩, 69), (⟨"RansomHymnModel", "isGang", "(I)Z"⟩, 69)]
theorem lw_r7 : ∀ q ∈ lw_privs_7, lw_okq q := List.forall_mem_cons.mpr ⟨lw_p96, List.forall_mem_cons.mpr ⟨lw_p97, List.forall_mem_cons.mpr ⟨lw_p98, List.forall_mem_cons.mpr ⟨lw_p99, List.forall_mem_cons.mpr ⟨lw_p100, List.forall_mem_cons.mpr ⟨lw_p101, List.forall_mem_cons.mpr ⟨lw_p102, List.forall_mem_cons.mpr ⟨lw_p103, List.forall_mem_cons.mpr ⟨lw_p104, List.forall_mem_cons.mpr ⟨lw_p105, List.forall_mem_cons.mpr ⟨lw_p106, List.forall_mem_cons.mpr ⟨lw_p107, List.forall_mem_cons.mpr ⟨lw_p108, List.forall_mem_cons.mpr ⟨lw_p109, List.forall_mem_cons.mpr ⟨lw_p110, List.forall_mem_cons.mpr ⟨lw_p111, fun _ h => absurd h List.not_mem_nil⟩⟩⟩⟩⟩⟩⟩⟩⟩⟩⟩⟩⟩⟩⟩⟩
set_option maxRecDepth 20000 in
theorem lw_p112 : lw_okq (⟨"RansomHymnModel", "rows", "(IIIII)V"⟩, 69) := ⟨⟨by decide +kernel, by decide +kernel⟩, wt_6 _ (List.mem_of_getElem? (i := 71) rfl), wt_8 _ (List.mem_of_getElem? (i := 219) rfl), wt_8 _ (List.mem_of_getElem? (i := 220) rfl)⟩
set_option maxRecDepth 20000 in
theorem lw_p113 : lw_okq (⟨"RansomHymnModel", "hasOf", "(II)I"⟩, 69) := ⟨⟨by decide +kernel, by decide +kernel⟩, wt_6 _ (List.mem_of_getElem? (i := 71) rfl), wt_8 _ (List.mem_of_getElem? (i := 231) rfl), wt_8 _ (List.mem_of_getElem? (i := 232) rfl)⟩
set_option maxRecDepth 20000 in
theorem lw_p114 : lw_okq (⟨"RansomHymnModel", "copies", "(II)V"⟩, 69) := ⟨⟨by decide +kernel, by decide +kernel⟩, wt_6 _ (List.mem_of_getElem? (i := 71) rfl), wt_9 _ (List.mem_of_getElem? (i := 9) rfl), wt_9 _ (List.mem_of_getElem? (i := 10) rfl)⟩
def lw_privs_8 : List (MethodName × Nat) := [(⟨"RansomHymnModel", "rows", "(IIIII)V"⟩, 69), (⟨"RansomHymnModel", "hasOf", "(II)I"⟩, 69), (⟨"RansomHymnModel", "copies", "(II)V"⟩, 69)]
theorem lw_r8 : ∀ q ∈ lw_privs_8, lw_okq q := List.forall_mem_cons.mpr ⟨lw_p112, List.forall_mem_cons.mpr ⟨lw_p113, List.forall_mem_cons.mpr ⟨lw_p114, fun _ h => absurd h List.not_mem_nil⟩⟩⟩
def lw_privs : List (MethodName × Nat) := lw_privs_1 ++ (lw_privs_2 ++ (lw_privs_3 ++ (lw_privs_4 ++ (lw_privs_5 ++ (lw_privs_6 ++ (lw_privs_7 ++ (lw_privs_8)))))))
def lw_tbl : List Cond := k2_sels lw_privs ++ tables_1
theorem lw_privs_ok : ∀ q ∈ lw_privs, lw_okq q := by
  show ∀ q ∈ lw_privs_1 ++ (lw_privs_2 ++ (lw_privs_3 ++ (lw_privs_4 ++ (lw_privs_5 ++ (lw_privs_6 ++ (lw_privs_7 ++ (lw_privs_8))))))), lw_okq q
  exact List.forall_mem_append.mpr ⟨lw_r1, List.forall_mem_append.mpr ⟨lw_r2, List.forall_mem_append.mpr ⟨lw_r3, List.forall_mem_append.mpr ⟨lw_r4, List.forall_mem_append.mpr ⟨lw_r5, List.forall_mem_append.mpr ⟨lw_r6, List.forall_mem_append.mpr ⟨lw_r7, lw_r8⟩⟩⟩⟩⟩⟩⟩
